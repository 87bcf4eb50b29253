/-! A LUNCH taken: what was told; the class. -/
theorem wrR (R : am_R) (a b k : Nat) (v : Option Nat) : ∃ X, am_sR R a b (am_uR (R a b) k v) = X ∧ X a b k = v ∧ ∀ y z j, ¬ (y = a ∧ z = b ∧ j = k) → X y z j = R y z j := by
  refine ⟨_, rfl, ?_, fun y z j h => ?_⟩
  · unfold am_sR am_uR
    rw [if_pos ⟨rfl, rfl⟩]
    exact if_pos rfl
  · unfold am_sR am_uR
    by_cases e : y = a ∧ z = b
    · rw [if_pos e]
      show (if j = k then v else R a b j) = _
      rw [if_neg (fun w => h ⟨e.1, e.2, w⟩), e.1, e.2]
    · rw [if_neg e]
/-- how many FOODS: counted CELL by CELL -/
theorem cnt_l (n : Nat) : ∀ l : List Nat, l.Nodup → (∀ c ∈ l, c < n) → am_fold (fun a c => a + (if c ∈ l then 1 else 0)) 0 n = l.length := by
  have one : ∀ (x m : Nat), am_fold (fun a c => a + (if c = x then 1 else 0)) 0 m = if x < m then 1 else 0 := by
    intro x m
    induction m with
    | zero => rfl
    | succ m ih =>
      rw [fold_s, ih]
      by_cases e : m = x
      · rw [if_pos e, if_neg (by omega), if_pos (by omega)]
      · rw [if_neg e]
        by_cases q : x < m
        · rw [if_pos q, if_pos (by omega)]
        · rw [if_neg q, if_neg (by omega)]
  have add : ∀ (f g : Nat → Nat) (m : Nat), am_fold (fun a c => a + (f c + g c)) 0 m = am_fold (fun a c => a + f c) 0 m + am_fold (fun a c => a + g c) 0 m := by
    intro f g m
    induction m with
    | zero => rfl
    | succ m ih => rw [fold_s, fold_s, fold_s, ih]; omega
  intro l
  induction l with
  | nil =>
    intro _ _
    have : ∀ m, am_fold (fun a c => a + (if c ∈ ([] : List Nat) then 1 else 0)) 0 m = 0 := by
      intro m
      induction m with
      | zero => rfl
      | succ m ih => rw [fold_s, ih, if_neg (by intro w; cases w)]
    exact this n
  | cons x l ih =>
    intro hn hl
    have hx := (List.nodup_cons.mp hn).1
    have e : am_fold (fun a c => a + (if c ∈ x :: l then 1 else 0)) 0 n = am_fold (fun a c => a + ((if c = x then 1 else 0) + (if c ∈ l then 1 else 0))) 0 n := fold_congr fun a c _ => by
      by_cases e : c = x
      · rw [if_pos (List.mem_cons.mpr (Or.inl e)), if_pos e, if_neg (by rw [e]; exact hx)]
      · by_cases q : c ∈ l
        · rw [if_pos (List.mem_cons.mpr (Or.inr q)), if_neg e, if_pos q]
        · rw [if_neg (fun w => (List.mem_cons.mp w).elim e q), if_neg e, if_neg q]
    rw [e, add, one, if_pos (hl x (List.mem_cons.mpr (Or.inl rfl))), ih (List.nodup_cons.mp hn).2 (fun c hc => hl c (List.mem_cons.mpr (Or.inr hc))), List.length_cons]
    omega
theorem P0_foods {E : zE} (hE : zd_ok E) (hg : zd_g E) : sp_foods (zP0 E) = nI E.2.2.1.length := by
  have key : ∀ n, n ≤ 25 → am_fold (sp_fd (zP0 E 0)) (nI 0) n = nI (am_fold (fun a c => a + (if c ∈ zd_l E.2.2.1 then 1 else 0)) 0 n) := by
    intro n hn
    induction n with
    | zero => rfl
    | succ n ih =>
      rw [fold_s, fold_s, ih (by omega), sp_fd]
      obtain ⟨p1, p2, -⟩ := P_pos (c := n) E.2.2.1 hE.2.1
      have e : zP0 E 0 n = nI (zd_P E.2.2.1 0 n) := rfl
      rw [e]
      have e2 := nI_le0 (a := zd_P E.2.2.1 0 n) (by omega)
      by_cases q : n ∈ zd_l E.2.2.1
      · have := p1.mpr q
        rw [if_pos q, if_neg (fun w => by rw [e2] at w; omega), nI_add]
      · have : ¬ 0 < zd_P E.2.2.1 0 n := fun w => q (p1.mp w)
        rw [if_neg q, if_pos (by rw [e2]; omega)]
        exact nI_add _ _
  obtain ⟨w1, w5, h1, h5, n1, n25⟩ := wh_of hE
  refine (key 25 (Nat.le_refl _)).trans ?_
  rw [cnt_l 25 _ hg.2.1.1 (fun c hc => Nat.lt_of_lt_of_le (hg.2.1.2 c hc) n25)]
  exact congrArg nI (List.length_map _)
/-- where a LUNCH that is taken is written -/
def tlS : Nat → Nat → Nat → Prop := fun a b j => (pp_S 12 a b j ∨ (a = 0 ∧ j = 2)) ∨ (na_S 0 a b j ∨ na_S 1 a b j) ∨ (a = 11 ∧ b = 0 ∧ j = 15) ∨ (a = 10 ∧ b = 0 ∧ j = 1)
section
variable {d u : Nat} {I : am_I} {R : am_R} {Q : am_Q} {w : zLw} {E : zE} {N : Nat → Nat → Nat}
/-- the two places of a LUNCH change -/
theorem rR_swap (h : rR R u w) : ∃ R1 R2, am_sR R 2 0 (am_uR (R 2 0) 0 (some (am_mk 6 (1 - u)))) = R1 ∧ am_sR R1 7 0 (am_uR (R1 7 0) 1 (some (am_mk 6 u))) = R2 ∧ (∀ y z j, ¬ (y = 2 ∧ z = 0 ∧ j = 0) → R1 y z j = R y z j) ∧ (∀ y z j, ¬ (y = 2 ∨ y = 7) → R2 y z j = R y z j) ∧ rR R2 (1 - u) w := by
  obtain ⟨R1, x0, x1, x2⟩ := wrR R 2 0 0 (some (am_mk 6 (1 - u)))
  obtain ⟨R2, y0, y1, y2⟩ := wrR R1 7 0 1 (some (am_mk 6 u))
  obtain ⟨hF, hu, h1, h2, h3⟩ := h
  refine ⟨R1, R2, x0, y0, x2, fun y z j q => (y2 _ _ _ (by omega)).trans (x2 _ _ _ (by omega)), rF_cg hF (fun a b j n1 n2 => (y2 _ _ _ (by omega)).trans (x2 _ _ _ (by omega))), by omega, (y2 _ _ _ (by omega)).trans x1, ?_, (y2 _ _ _ (by omega)).trans ((x2 _ _ _ (by omega)).trans h3)⟩
  rw [y1]
  exact congrArg (fun x => some (am_mk 6 x)) (by omega)
theorem c_takeLunch (hR : rR R u w) (hP : pp_at I (1 - u) (zP0 E)) : ∃ X R', am_cal (d + 1) 102 [.ref (am_mk 11 0)] I R Q = some (some (.int (sp_foods (zP0 E))), X, R', Q) ∧ am_fr tlS I X ∧ rR R' (1 - u) w ∧ (∀ a b j, ¬ (a = 2 ∨ a = 7) → R' a b j = R a b j) ∧ pp_at X 12 (zP0 E) ∧ X 0 0 2 = nI 0 ∧ nt_at X 0 0 N ∧ nt_at X 1 0 N ∧ X 11 0 15 = nI 0 ∧ X 10 0 1 = nI 0 := by
  obtain ⟨R1, R2, x0, y0, e1, e2, hR'⟩ := rR_swap hR
  have hF := hR.1
  have hu := hR.2.1
  obtain ⟨a8, a10, a12, a11, -⟩ := hF.1
  have b := rF_11 hF
  have k0 := hR.2.2.1
  have k7 := hR.2.2.2.1
  have t6 := (hF.2.2.2.1 (1 - u) (by omega)).2.2.2.2.2
  obtain ⟨J1, g1, f1, p1⟩ := c_become (d := d) (I := I) (Q := Q) (R := R2) (q := 1 - u) (p := 12) (rF_pp hR'.1 (by omega)) (rF_pp hR'.1 (by omega)) (by omega) hP (show am_bb (nI 0) by decide)
  obtain ⟨J2, g2, f2, q2⟩ := c_aforget (d := d) (I := J1) (R := R2) (Q := Q)
  obtain ⟨J3, g3, f3, q3⟩ := c_nforget (d := d) (v := 0) (N := N) (I := J2) (R := R2) (Q := Q)
  obtain ⟨J4, g4, f4, q4⟩ := c_nforget (d := d) (v := 1) (N := N) (I := J3) (R := R2) (Q := Q)
  obtain ⟨J5, z5, q5, f5⟩ := wr J4 11 0 15 (nI 0)
  obtain ⟨J6, z6, q6, f6⟩ := wr J5 10 0 1 (nI 0)
  have p6 : pp_at J6 12 (zP0 E) := pl_fr (pl_fr (pl_fr (pl_fr (pl_fr p1 f2 (fun a j ha => by omega)) f3 (fun a j ha => na_0 (by omega))) f4 (fun a j ha => na_0 (by omega))) f5 (fun a j ha => by omega)) f6 (fun a j ha => by omega)
  have g7 := c_foods (d := d) (I := J6) (R := R2) (Q := Q) (rF_pp hR'.1 (p := 12) (by omega)).1
  rw [pl_foods p6] at g7
  have c8 : R1 11 0 8 = _ := (e1 _ _ _ (by omega)).trans a8
  have c1 : R1 11 0 1 = _ := (e1 _ _ _ (by omega)).trans b.2.2.1
  have d8 : R2 11 0 8 = _ := (e2 _ _ _ (by omega)).trans a8
  have d10 : R2 11 0 10 = _ := (e2 _ _ _ (by omega)).trans a10
  have d11 : R2 11 0 11 = _ := (e2 _ _ _ (by omega)).trans a11
  have d16 : R2 11 0 16 = _ := (e2 _ _ _ (by omega)).trans b.2.2.2.2.2.2.1
  have d17 : R2 11 0 17 = _ := (e2 _ _ _ (by omega)).trans b.2.2.2.2.2.2.2
  have d0 : R2 11 0 0 = _ := (e2 _ _ _ (by omega)).trans b.2.1
  have d6 : R2 6 (1 - u) 6 = _ := (e2 _ _ _ (by omega)).trans t6
  have d2 : R2 2 0 0 = _ := hR'.2.2.1
  refine ⟨J6, R2, ?_, ?_, hR', e2, p6, ?_, ?_, ?_, (f6 _ _ _ (by omega)).trans q5, q6⟩
  · rw [s102]
    simp (disch := first | omega | assumption) only [s102_0, s102_1, s102_4, s102_7, s102_8, s102_9, s102_12, s102_13, s102_16, s102_19, s102_22, s102_23, s102_26, s102_27, s102_30, s102_31, s102_34, s102_35, s102_38, s102_41, s102_44, s102_47, s102_48, s102_51, s102_54, s102_55, s102_58, s102_61, s102_62, s102_65, s102_68, s102_69, s102_70, s102_73, s102_74, s102_77, s102_78, s102_81, s102_82, s102_85, s102_88, nI_le2, nI_lt2, nI_eq2, nI_lt0, nI_0le, nI_0lt, nI_le0, nI_eq0, nI_clamp, nI_add, bu_nI, bb_0, bb_1, rf_s, rf_n, tl_s, tl_n, am_th_some, if_true, if_false, sI_eq, uI_eq, and_self, true_and, and_true, not_false_eq_true, not_true_eq_false, Nat.reduceEqDiff, Nat.reduceLeDiff, Nat.reduceLT, Nat.reduceAdd, Nat.reduceMul, Nat.reduceSub, Nat.zero_add, a8, b.2.2.1, k0, k7, x0, y0, c8, c1, d8, d10, d11, d16, d17, d0, d6, d2, g1, g2, g3, g4, z5, z6, g7]
  · refine fr_tr (fr_tr (fr_tr (fr_tr (fr_tr (fr_mo f1 fun a b j w => Or.inl (Or.inl w)) (fr_mo f2 fun a b j w => Or.inl (Or.inr w))) (fr_mo f3 fun a b j w => Or.inr (Or.inl (Or.inl w)))) (fr_mo f4 fun a b j w => Or.inr (Or.inl (Or.inr w)))) (fr_mo f5 fun a b j w => Or.inr (Or.inr (Or.inl w)))) (fr_mo f6 fun a b j w => Or.inr (Or.inr (Or.inr w)))
  · exact (f6 _ _ _ (by omega)).trans ((f5 _ _ _ (by omega)).trans ((f4 _ _ _ (na_0 (by omega))).trans ((f3 _ _ _ (na_0 (by omega))).trans q2)))
  · exact nt_fr (nt_fr (nt_fr q3 f4 (na_1 (v' := 0) (by decide)) (fun a i ha => na_1 (v' := 0) (by decide))) f5 (by omega) (fun a i ha => by omega)) f6 (by omega) (fun a i ha => by omega)
  · exact nt_fr (nt_fr q4 f5 (by omega) (fun a i ha => by omega)) f6 (by omega) (fun a i ha => by omega)
end
