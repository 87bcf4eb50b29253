/-! LAW texts: ATOM, TERM, SUM; the model. -/
theorem dg_ge {L : Nat} {B : Nat → Nat} : ∀ f v a, a ≤ (sp_dg L B f v a).2 := by
  intro f
  induction f with
  | zero => intro v a; exact Nat.le_refl _
  | succ f ih =>
    intro v a
    rw [sp_dg]
    by_cases e : 48 ≤ sp_hr L B a ∧ sp_hr L B a ≤ 57
    · rw [if_pos e]; exact Nat.le_of_succ_le (ih _ _)
    · rw [if_neg e]; exact Nat.le_refl _
theorem dg_dd {L : Nat} {B : Nat → Nat} {a : Nat} : (sp_dg L B 4 0 a).2 = a ↔ ¬ sp_dd L B a := by
  rw [sp_dg]
  by_cases e : sp_dd L B a
  · rw [if_pos e]
    exact ⟨fun w => by have := dg_ge (L := L) (B := B) 3 (0 * 10 + sp_hr L B a - 48) (a + 1); omega, fun w => absurd e w⟩
  · rw [if_neg e]
    exact ⟨fun _ => e, fun _ => rfl⟩
theorem fa_t {p : Prop} : true = false → p := fun w => by cases w
theorem fa_f {p : Prop} : false = true → p := fun w => by cases w
theorem dd_not {L : Nat} {B : Nat → Nat} {a x : Nat} (e : sp_hr L B a = x) (h : ¬ (48 ≤ x ∧ x ≤ 57)) : ¬ sp_dd L B a := fun w => h (by rw [← e]; exact w)
theorem zt_not : ∀ x, x < 256 → ¬ sp_in 5 x → ¬ zl_t x < 6 := fun x hx h w => h ((zt_in x hx).mp w)
section
variable {L a dp N a1 a' : Nat} {B : Nat → Nat} {C1 C' : List Nat} {ok' : Bool}
theorem zm_aDeep (hk : tp_ok L B) (haL : a ≤ L) (e : sp_hr L B (sp_sk L B a) = 91) : zm_K L B 4 172 6 a false (sp_sk L B a) [] := by
  intro d I R Q n C0 hN' hr hn h hl
  obtain ⟨d, rfl⟩ : ∃ q, d = q + 4 := ⟨d - 4, by omega⟩
  have hs := sk_L (B := B) haL
  have hL := hk.1
  have hx := hr_le (a := sp_sk L B a) hk
  have hw0 := h.2.2.1
  obtain ⟨J1, g1, f1, h1⟩ := zm_look (d := d + 2) (Q := Q) hr hk h haL
  have hw1 := h1.2.2.1
  have gd := m_isDigit (d := d + 3) (a := sp_sk L B a) (I := J1) (R := R) (Q := Q) hk
  have gl := m_letterOf (d := d + 3) (a := sp_sk L B a) (I := J1) (R := R) (Q := Q) hk
  rw [if_neg (dd_not e (by decide))] at gd
  rw [e, if_neg (by decide)] at gl
  have q := (hm_eq (a := sp_sk L B a) (x := 91) hk (by decide) (by decide)).trans (eq_true e)
  obtain ⟨J2, g2, f2, h2, w2⟩ := zm_opensBad (d := d + 2) (R := R) (Q := Q) h1
  have hne : ¬ nI (sp_sk L B a) = -nI 1 := m1_ne (by omega)
  refine ⟨J2, C0, ?_, fr_tr f1 f2, fa_f, fun _ => ⟨h2, w2, by omega⟩⟩
  rw [s172]
  simp (disch := first | omega | assumption) only [s172_0, s172_1, s172_4, s172_5, s172_6, s172_9, s172_12, s172_13, s172_14, s172_15, s172_18, s172_21, s172_24, s172_25, s172_28, s172_29, s172_32, s172_33, s172_34, s172_37, s172_38, s172_39, s172_42, s172_43, s172_44, s172_45, s172_48, s172_51, s172_54, s172_55, s172_57, s172_60, s172_61, s172_64, s172_65, s172_68, s172_69, s172_72, s172_73, s172_76, s172_77, s172_79, s172_82, s172_85, s172_86, s172_89, nI_le2, nI_lt2, nI_eq2, nI_lt0, nI_0le, nI_0lt, nI_le0, nI_eq0, nI_clamp, nI_add, bu_nI, bb_0, bb_1, rf_s, rf_n, tl_s, tl_n, am_th_some, if_true, if_false, sI_eq, uI_eq, and_self, true_and, and_true, not_false_eq_true, not_true_eq_false, Nat.reduceEqDiff, Nat.reduceLeDiff, Nat.reduceLT, Nat.reduceAdd, Nat.reduceMul, Nat.reduceSub, Nat.zero_add, g1, gd, gl, q, g2, w2, hne]
theorem zm_aFail (hk : tp_ok L B) (haL : a ≤ L) (ha1 : a1 ≤ L) (hc : sp_sk L B a + 1 ≤ a1) (e : sp_hr L B (sp_sk L B a) = 91) (hd : dp < 6) (hN : 3 ≤ N) (hi : zm_K L B N 174 (dp + 1) (sp_sk L B a + 1) false a1 C1) : zm_K L B (N + 1) 172 dp a false a1 [] := by
  intro d I R Q n C0 hN' hr hn h hl
  obtain ⟨d, rfl⟩ : ∃ q, d = q + 4 := ⟨d - 4, by omega⟩
  have hs := sk_L (B := B) haL
  have hL := hk.1
  have hx := hr_le (a := sp_sk L B a) hk
  have hw0 := h.2.2.1
  obtain ⟨J1, g1, f1, h1⟩ := zm_look (d := d + 2) (Q := Q) hr hk h haL
  have hw1 := h1.2.2.1
  have gd := m_isDigit (d := d + 3) (a := sp_sk L B a) (I := J1) (R := R) (Q := Q) hk
  have gl := m_letterOf (d := d + 3) (a := sp_sk L B a) (I := J1) (R := R) (Q := Q) hk
  rw [if_neg (dd_not e (by decide))] at gd
  rw [e, if_neg (by decide)] at gl
  have q := (hm_eq (a := sp_sk L B a) (x := 91) hk (by decide) (by decide)).trans (eq_true e)
  have hlt := hr_ltx e (by decide)
  have hs1 := sk_L (B := B) ha1
  obtain ⟨J2, g2, f2, h2⟩ := zm_opens (d := d + 2) (R := R) (Q := Q) h1 hd
  have hw2 := h2.2.2.1
  obtain ⟨J3, C3, g3, f3, k3, m3⟩ := hi (d + 3) J2 R Q n C0 (by omega) hr hn h2 (by omega)
  obtain ⟨h3, w3, l3⟩ := m3 rfl
  obtain ⟨J4, g4, f4, h4, w4⟩ := zw_closes (d := d + 3) (R := R) (Q := Q) (c := nI 93) h3 w3 (by omega)
  refine ⟨J4, C3, ?_, fr_tr (fr_tr (fr_tr f1 f2) f3) f4, fa_f, fun _ => ⟨h4, w4, by omega⟩⟩
  rw [s172]
  simp (disch := first | omega | assumption) only [s172_0, s172_1, s172_4, s172_5, s172_6, s172_9, s172_12, s172_13, s172_14, s172_15, s172_18, s172_21, s172_24, s172_25, s172_28, s172_29, s172_32, s172_33, s172_34, s172_37, s172_38, s172_39, s172_42, s172_43, s172_44, s172_45, s172_48, s172_51, s172_54, s172_55, s172_57, s172_60, s172_61, s172_64, s172_65, s172_68, s172_69, s172_72, s172_73, s172_76, s172_77, s172_79, s172_82, s172_85, s172_86, s172_89, nI_le2, nI_lt2, nI_eq2, nI_lt0, nI_0le, nI_0lt, nI_le0, nI_eq0, nI_clamp, nI_add, bu_nI, bb_0, bb_1, rf_s, rf_n, tl_s, tl_n, am_th_some, if_true, if_false, sI_eq, uI_eq, and_self, true_and, and_true, not_false_eq_true, not_true_eq_false, Nat.reduceEqDiff, Nat.reduceLeDiff, Nat.reduceLT, Nat.reduceAdd, Nat.reduceMul, Nat.reduceSub, Nat.zero_add, g1, gd, gl, q, g2, hw2, g3, g4]
theorem zm_aClose (hk : tp_ok L B) (haL : a ≤ L) (ha1 : a1 ≤ L) (hc : sp_sk L B a + 1 ≤ a1) (e : sp_hr L B (sp_sk L B a) = 91) (hd : dp < 6) (hN : 3 ≤ N) (hi : zm_K L B N 174 (dp + 1) (sp_sk L B a + 1) true a1 C1) (e2 : sp_hr L B (sp_sk L B a1) = 93) : zm_K L B (N + 1) 172 dp a true (sp_sk L B a1 + 1) C1 := by
  intro d I R Q n C0 hN' hr hn h hl
  obtain ⟨d, rfl⟩ : ∃ q, d = q + 4 := ⟨d - 4, by omega⟩
  have hs := sk_L (B := B) haL
  have hL := hk.1
  have hx := hr_le (a := sp_sk L B a) hk
  have hw0 := h.2.2.1
  obtain ⟨J1, g1, f1, h1⟩ := zm_look (d := d + 2) (Q := Q) hr hk h haL
  have hw1 := h1.2.2.1
  have gd := m_isDigit (d := d + 3) (a := sp_sk L B a) (I := J1) (R := R) (Q := Q) hk
  have gl := m_letterOf (d := d + 3) (a := sp_sk L B a) (I := J1) (R := R) (Q := Q) hk
  rw [if_neg (dd_not e (by decide))] at gd
  rw [e, if_neg (by decide)] at gl
  have q := (hm_eq (a := sp_sk L B a) (x := 91) hk (by decide) (by decide)).trans (eq_true e)
  have hlt := hr_ltx e (by decide)
  have hs1 := sk_L (B := B) ha1
  obtain ⟨J2, g2, f2, h2⟩ := zm_opens (d := d + 2) (R := R) (Q := Q) h1 hd
  have hw2 := h2.2.2.1
  obtain ⟨J3, C3, g3, f3, k3, m3⟩ := hi (d + 3) J2 R Q n C0 (by omega) hr hn h2 (by omega)
  have h3 := k3 rfl
  obtain ⟨J4, g4, f4, h4⟩ := zm_closes (d := d + 1) (Q := Q) (c := 93) hr hk h3 ha1 (by decide) (by decide) e2
  refine ⟨J4, C3, ?_, fr_tr (fr_tr (fr_tr f1 f2) f3) f4, fun _ => h4, fa_t⟩
  rw [s172]
  simp (disch := first | omega | assumption) only [s172_0, s172_1, s172_4, s172_5, s172_6, s172_9, s172_12, s172_13, s172_14, s172_15, s172_18, s172_21, s172_24, s172_25, s172_28, s172_29, s172_32, s172_33, s172_34, s172_37, s172_38, s172_39, s172_42, s172_43, s172_44, s172_45, s172_48, s172_51, s172_54, s172_55, s172_57, s172_60, s172_61, s172_64, s172_65, s172_68, s172_69, s172_72, s172_73, s172_76, s172_77, s172_79, s172_82, s172_85, s172_86, s172_89, nI_le2, nI_lt2, nI_eq2, nI_lt0, nI_0le, nI_0lt, nI_le0, nI_eq0, nI_clamp, nI_add, bu_nI, bb_0, bb_1, rf_s, rf_n, tl_s, tl_n, am_th_some, if_true, if_false, sI_eq, uI_eq, and_self, true_and, and_true, not_false_eq_true, not_true_eq_false, Nat.reduceEqDiff, Nat.reduceLeDiff, Nat.reduceLT, Nat.reduceAdd, Nat.reduceMul, Nat.reduceSub, Nat.zero_add, g1, gd, gl, q, g2, hw2, g3, g4]
theorem zm_aOpen (hk : tp_ok L B) (hlC : C1.length + (sp_sk L B a + 1) ≤ a1) (haL : a ≤ L) (ha1 : a1 ≤ L) (hc : sp_sk L B a + 1 ≤ a1) (e : sp_hr L B (sp_sk L B a) = 91) (hd : dp < 6) (hN : 3 ≤ N) (hi : zm_K L B N 174 (dp + 1) (sp_sk L B a + 1) true a1 C1) (e2 : ¬ sp_hr L B (sp_sk L B a1) = 93) : zm_K L B (N + 1) 172 dp a false (sp_sk L B a1) [] := by
  intro d I R Q n C0 hN' hr hn h hl
  obtain ⟨d, rfl⟩ : ∃ q, d = q + 4 := ⟨d - 4, by omega⟩
  have hs := sk_L (B := B) haL
  have hL := hk.1
  have hx := hr_le (a := sp_sk L B a) hk
  have hw0 := h.2.2.1
  obtain ⟨J1, g1, f1, h1⟩ := zm_look (d := d + 2) (Q := Q) hr hk h haL
  have hw1 := h1.2.2.1
  have gd := m_isDigit (d := d + 3) (a := sp_sk L B a) (I := J1) (R := R) (Q := Q) hk
  have gl := m_letterOf (d := d + 3) (a := sp_sk L B a) (I := J1) (R := R) (Q := Q) hk
  rw [if_neg (dd_not e (by decide))] at gd
  rw [e, if_neg (by decide)] at gl
  have q := (hm_eq (a := sp_sk L B a) (x := 91) hk (by decide) (by decide)).trans (eq_true e)
  have hlt := hr_ltx e (by decide)
  have hs1 := sk_L (B := B) ha1
  obtain ⟨J2, g2, f2, h2⟩ := zm_opens (d := d + 2) (R := R) (Q := Q) h1 hd
  have hw2 := h2.2.2.1
  obtain ⟨J3, C3, g3, f3, k3, m3⟩ := hi (d + 3) J2 R Q n C0 (by omega) hr hn h2 (by omega)
  have h3 := k3 rfl
  obtain ⟨J4, g4, f4, h4, w4⟩ := zm_closesNo (d := d + 1) (Q := Q) (c := 93) hr hk h3 ha1 (by decide) (by decide) e2
  refine ⟨J4, C0 ++ C1, ?_, fr_tr (fr_tr (fr_tr f1 f2) f3) f4, fa_f, fun _ => ⟨h4, w4, by rw [List.length_append]; omega⟩⟩
  rw [s172]
  simp (disch := first | omega | assumption) only [s172_0, s172_1, s172_4, s172_5, s172_6, s172_9, s172_12, s172_13, s172_14, s172_15, s172_18, s172_21, s172_24, s172_25, s172_28, s172_29, s172_32, s172_33, s172_34, s172_37, s172_38, s172_39, s172_42, s172_43, s172_44, s172_45, s172_48, s172_51, s172_54, s172_55, s172_57, s172_60, s172_61, s172_64, s172_65, s172_68, s172_69, s172_72, s172_73, s172_76, s172_77, s172_79, s172_82, s172_85, s172_86, s172_89, nI_le2, nI_lt2, nI_eq2, nI_lt0, nI_0le, nI_0lt, nI_le0, nI_eq0, nI_clamp, nI_add, bu_nI, bb_0, bb_1, rf_s, rf_n, tl_s, tl_n, am_th_some, if_true, if_false, sI_eq, uI_eq, and_self, true_and, and_true, not_false_eq_true, not_true_eq_false, Nat.reduceEqDiff, Nat.reduceLeDiff, Nat.reduceLT, Nat.reduceAdd, Nat.reduceMul, Nat.reduceSub, Nat.zero_add, g1, gd, gl, q, g2, hw2, g3, g4]
theorem zm_aLetter (hk : tp_ok L B) (haL : a ≤ L) (e : sp_in 5 (sp_hr L B (sp_sk L B a))) : zm_K L B 4 172 dp a true (sp_sk L B a + 1) [10000 + sp_hr L B (sp_sk L B a)] := by
  intro d I R Q n C0 hN' hr hn h hl
  obtain ⟨d, rfl⟩ : ∃ q, d = q + 4 := ⟨d - 4, by omega⟩
  have hs := sk_L (B := B) haL
  have hL := hk.1
  have hx := hr_le (a := sp_sk L B a) hk
  have hw0 := h.2.2.1
  obtain ⟨J1, g1, f1, h1⟩ := zm_look (d := d + 2) (Q := Q) hr hk h haL
  have hw1 := h1.2.2.1
  have gd := m_isDigit (d := d + 3) (a := sp_sk L B a) (I := J1) (R := R) (Q := Q) hk
  have gl := m_letterOf (d := d + 3) (a := sp_sk L B a) (I := J1) (R := R) (Q := Q) hk
  have hlt := hr_in (by decide) e
  have ht := (zt_in _ (by omega)).mpr e
  have hnd : ¬ sp_dd L B (sp_sk L B a) := fun w => absurd (show ∀ x, x < 256 → sp_in 5 x → ¬ (48 ≤ x ∧ x ≤ 57) by decide +kernel) (fun z => z _ (by omega) e w)
  rw [if_neg hnd] at gd
  rw [if_pos ht] at gl
  obtain ⟨f2, h2⟩ := zm_3 (a' := sp_sk L B a + 1) h1
  have gl2 := m_letterOf (d := d + 3) (a := sp_sk L B a) (I := am_sI J1 12 0 (am_uI (J1 12 0) 3 (nI (sp_sk L B a + 1)))) (R := R) (Q := Q) hk
  rw [if_pos ht] at gl2
  obtain ⟨J3, g3, f3, h3⟩ := zm_put (d := d + 3) (Q := Q) hr hn h2 (by omega) (10000 + sp_hr L B (sp_sk L B a))
  have hk1 : zl_k (10000 + sp_hr L B (sp_sk L B a)) = 1 := by rw [zl_k, if_neg (by omega), Nat.add_sub_cancel_left, if_pos ht]
  have hv1 : zl_v (10000 + sp_hr L B (sp_sk L B a)) = zl_t (sp_hr L B (sp_sk L B a)) := by rw [zl_v, if_neg (by omega), Nat.add_sub_cancel_left, if_pos ht]
  rw [hk1, hv1] at g3
  have h12 := h1.2.1
  have hne : ¬ nI (zl_t (sp_hr L B (sp_sk L B a))) = -nI 1 := m1_ne (by omega)
  refine ⟨J3, C0, ?_, fr_tr (fr_tr f1 f2) f3, fun _ => h3, fa_t⟩
  rw [s172]
  simp (disch := first | omega | assumption) only [s172_0, s172_1, s172_4, s172_5, s172_6, s172_9, s172_12, s172_13, s172_14, s172_15, s172_18, s172_21, s172_24, s172_25, s172_28, s172_29, s172_32, s172_33, s172_34, s172_37, s172_38, s172_39, s172_42, s172_43, s172_44, s172_45, s172_48, s172_51, s172_54, s172_55, s172_57, s172_60, s172_61, s172_64, s172_65, s172_68, s172_69, s172_72, s172_73, s172_76, s172_77, s172_79, s172_82, s172_85, s172_86, s172_89, nI_le2, nI_lt2, nI_eq2, nI_lt0, nI_0le, nI_0lt, nI_le0, nI_eq0, nI_clamp, nI_add, bu_nI, bb_0, bb_1, rf_s, rf_n, tl_s, tl_n, am_th_some, if_true, if_false, sI_eq, uI_eq, and_self, true_and, and_true, not_false_eq_true, not_true_eq_false, Nat.reduceEqDiff, Nat.reduceLeDiff, Nat.reduceLT, Nat.reduceAdd, Nat.reduceMul, Nat.reduceSub, Nat.zero_add, g1, gd, gl, gl2, g3, h12, hne]
theorem zm_aNum (hk : tp_ok L B) (haL : a ≤ L) (e2 : ¬ ((sp_dg L B 4 0 (sp_sk L B a)).2 = sp_sk L B a ∨ (48 ≤ sp_hr L B (sp_dg L B 4 0 (sp_sk L B a)).2 ∧ sp_hr L B (sp_dg L B 4 0 (sp_sk L B a)).2 ≤ 57))) : zm_K L B 4 172 dp a true (sp_dg L B 4 0 (sp_sk L B a)).2 [(sp_dg L B 4 0 (sp_sk L B a)).1] := by
  intro d I R Q n C0 hN' hr hn h hl
  obtain ⟨d, rfl⟩ : ∃ q, d = q + 4 := ⟨d - 4, by omega⟩
  have hs := sk_L (B := B) haL
  have hL := hk.1
  have hx := hr_le (a := sp_sk L B a) hk
  have hw0 := h.2.2.1
  obtain ⟨J1, g1, f1, h1⟩ := zm_look (d := d + 2) (Q := Q) hr hk h haL
  have hw1 := h1.2.2.1
  have hv : (sp_dg L B 4 0 (sp_sk L B a)).1 < 10000 := dg_lt 4 0 (sp_sk L B a)
  have gd := m_isDigit (d := d + 3) (a := sp_sk L B a) (I := J1) (R := R) (Q := Q) hk
  obtain ⟨t1, t2, t3, t4, t5⟩ := h1
  obtain ⟨J2, g2, f2, k2, w2, l2, m2, -⟩ := m_plain (d := d + 2) (Q := Q) hr hk t1 t2 t3 hs.2
  have ht : ∀ (a b j : Nat), tw_S a b j → a = 12 ∧ (j = 3 ∨ j = 4) := fun a b j w => w
  have f2' : am_fr (zm_S n) J1 J2 := fr_mo f2 fun a b j w => Or.inl ⟨(ht _ _ _ w).1, by have := (ht _ _ _ w).2; omega⟩
  have h5 : zf_at J2 n C0 := zf_fr t5 f2 (fun w => by have := ht _ _ _ w; omega) (fun w => by have := ht _ _ _ w; omega) (fun j w => by have := ht _ _ _ w; omega) (fun j w => by have := ht _ _ _ w; omega)
  have hk1 : zl_k (sp_dg L B 4 0 (sp_sk L B a)).1 = 0 := if_pos hv
  have hv1 : zl_v (sp_dg L B 4 0 (sp_sk L B a)).1 = (sp_dg L B 4 0 (sp_sk L B a)).1 := if_pos hv
  have hne : ((nI 1 : Int32) = 0) = False := by decide
  have hdd : sp_dd L B (sp_sk L B a) := Classical.byContradiction fun w => e2 (Or.inl (dg_dd.mpr w))
  have hnd : ¬ sp_dd L B (sp_dg L B 4 0 (sp_sk L B a)).2 := fun w => e2 (Or.inr w)
  rw [if_pos hdd] at gd
  rw [if_neg hnd] at w2
  have h2 : zm_at J2 L B n (sp_dg L B 4 0 (sp_sk L B a)).2 dp C0 := ⟨tm_fr t1 f2 (fun w => by have := ht _ _ _ w; omega) (fun j w => by have := ht _ _ _ w; omega), k2, w2, (f2 _ _ _ (fun w => by have := ht _ _ _ w; omega)).trans t4, h5⟩
  obtain ⟨J3, g3, f3, h3⟩ := zm_put (d := d + 3) (Q := Q) hr hn h2 (by omega) (sp_dg L B 4 0 (sp_sk L B a)).1
  rw [hk1, hv1] at g3
  refine ⟨J3, C0, ?_, fr_tr (fr_tr f1 f2') f3, fun _ => h3, fa_t⟩
  rw [s172]
  simp (disch := first | omega | assumption) only [s172_0, s172_1, s172_4, s172_5, s172_6, s172_9, s172_12, s172_13, s172_14, s172_15, s172_18, s172_21, s172_24, s172_25, s172_28, s172_29, s172_32, s172_33, s172_34, s172_37, s172_38, s172_39, s172_42, s172_43, s172_44, s172_45, s172_48, s172_51, s172_54, s172_55, s172_57, s172_60, s172_61, s172_64, s172_65, s172_68, s172_69, s172_72, s172_73, s172_76, s172_77, s172_79, s172_82, s172_85, s172_86, s172_89, nI_le2, nI_lt2, nI_eq2, nI_lt0, nI_0le, nI_0lt, nI_le0, nI_eq0, nI_clamp, nI_add, bu_nI, bb_0, bb_1, rf_s, rf_n, tl_s, tl_n, am_th_some, if_true, if_false, sI_eq, uI_eq, and_self, true_and, and_true, not_false_eq_true, not_true_eq_false, Nat.reduceEqDiff, Nat.reduceLeDiff, Nat.reduceLT, Nat.reduceAdd, Nat.reduceMul, Nat.reduceSub, Nat.zero_add, g1, gd, g2, g3, hne]
theorem zm_aBad (hk : tp_ok L B) (haL : a ≤ L) (e0 : ¬ sp_hr L B (sp_sk L B a) = 91) (e : ¬ sp_in 5 (sp_hr L B (sp_sk L B a))) (e2 : ((sp_dg L B 4 0 (sp_sk L B a)).2 = sp_sk L B a ∨ (48 ≤ sp_hr L B (sp_dg L B 4 0 (sp_sk L B a)).2 ∧ sp_hr L B (sp_dg L B 4 0 (sp_sk L B a)).2 ≤ 57))) : zm_K L B 4 172 dp a false (sp_dg L B 4 0 (sp_sk L B a)).2 [] := by
  intro d I R Q n C0 hN' hr hn h hl
  obtain ⟨d, rfl⟩ : ∃ q, d = q + 4 := ⟨d - 4, by omega⟩
  have hs := sk_L (B := B) haL
  have hL := hk.1
  have hx := hr_le (a := sp_sk L B a) hk
  have hw0 := h.2.2.1
  obtain ⟨J1, g1, f1, h1⟩ := zm_look (d := d + 2) (Q := Q) hr hk h haL
  have hw1 := h1.2.2.1
  by_cases hdd : sp_dd L B (sp_sk L B a)
  · have h1' := h1
    have hv : (sp_dg L B 4 0 (sp_sk L B a)).1 < 10000 := dg_lt 4 0 (sp_sk L B a)
    have gd := m_isDigit (d := d + 3) (a := sp_sk L B a) (I := J1) (R := R) (Q := Q) hk
    obtain ⟨t1, t2, t3, t4, t5⟩ := h1
    obtain ⟨J2, g2, f2, k2, w2, l2, m2, -⟩ := m_plain (d := d + 2) (Q := Q) hr hk t1 t2 t3 hs.2
    have ht : ∀ (a b j : Nat), tw_S a b j → a = 12 ∧ (j = 3 ∨ j = 4) := fun a b j w => w
    have f2' : am_fr (zm_S n) J1 J2 := fr_mo f2 fun a b j w => Or.inl ⟨(ht _ _ _ w).1, by have := (ht _ _ _ w).2; omega⟩
    have h5 : zf_at J2 n C0 := zf_fr t5 f2 (fun w => by have := ht _ _ _ w; omega) (fun w => by have := ht _ _ _ w; omega) (fun j w => by have := ht _ _ _ w; omega) (fun j w => by have := ht _ _ _ w; omega)
    have hk1 : zl_k (sp_dg L B 4 0 (sp_sk L B a)).1 = 0 := if_pos hv
    have hv1 : zl_v (sp_dg L B 4 0 (sp_sk L B a)).1 = (sp_dg L B 4 0 (sp_sk L B a)).1 := if_pos hv
    have hne : ((nI 1 : Int32) = 0) = False := by decide
    have hnd : sp_dd L B (sp_dg L B 4 0 (sp_sk L B a)).2 := e2.resolve_left (fun w => dg_dd.mp w hdd)
    rw [if_pos hdd] at gd
    rw [if_pos hnd, sp_bad, if_pos rfl] at w2
    obtain ⟨J3, g3, f3, h3, w3⟩ := zw_put (d := d + 3) (Q := Q) hr hn h5 (by omega) (sp_dg L B 4 0 (sp_sk L B a)).1
    rw [hk1, hv1] at g3
    have hgt : sp_sk L B a < (sp_dg L B 4 0 (sp_sk L B a)).2 := Nat.lt_of_le_of_ne m2 (fun w => dg_dd.mp w.symm hdd)
    refine ⟨J3, _, ?_, fr_tr (fr_tr f1 f2') f3, fa_f, fun _ => ⟨h3, w3.trans w2, by rw [List.length_append, List.length_singleton]; omega⟩⟩
    rw [s172]
    simp (disch := first | omega | assumption) only [s172_0, s172_1, s172_4, s172_5, s172_6, s172_9, s172_12, s172_13, s172_14, s172_15, s172_18, s172_21, s172_24, s172_25, s172_28, s172_29, s172_32, s172_33, s172_34, s172_37, s172_38, s172_39, s172_42, s172_43, s172_44, s172_45, s172_48, s172_51, s172_54, s172_55, s172_57, s172_60, s172_61, s172_64, s172_65, s172_68, s172_69, s172_72, s172_73, s172_76, s172_77, s172_79, s172_82, s172_85, s172_86, s172_89, nI_le2, nI_lt2, nI_eq2, nI_lt0, nI_0le, nI_0lt, nI_le0, nI_eq0, nI_clamp, nI_add, bu_nI, bb_0, bb_1, rf_s, rf_n, tl_s, tl_n, am_th_some, if_true, if_false, sI_eq, uI_eq, and_self, true_and, and_true, not_false_eq_true, not_true_eq_false, Nat.reduceEqDiff, Nat.reduceLeDiff, Nat.reduceLT, Nat.reduceAdd, Nat.reduceMul, Nat.reduceSub, Nat.zero_add, g1, gd, g2, g3, hne]
  · have hdg : (sp_dg L B 4 0 (sp_sk L B a)).2 = sp_sk L B a := dg_dd.mpr hdd
    rw [hdg]
    have gd := m_isDigit (d := d + 3) (a := sp_sk L B a) (I := J1) (R := R) (Q := Q) hk
    have gl := m_letterOf (d := d + 3) (a := sp_sk L B a) (I := J1) (R := R) (Q := Q) hk
    rw [if_neg hdd] at gd
    rw [if_neg (zt_not _ (by omega) e)] at gl
    have q := (hm_eq (a := sp_sk L B a) (x := 91) hk (by decide) (by decide)).trans (eq_false e0)
    obtain ⟨J2, g2, f2, h2, w2⟩ := zm_bad (d := d + 3) (R := R) (Q := Q) h1
    refine ⟨J2, C0, ?_, fr_tr f1 f2, fa_f, fun _ => ⟨h2, w2, by omega⟩⟩
    rw [s172]
    simp (disch := first | omega | assumption) only [s172_0, s172_1, s172_4, s172_5, s172_6, s172_9, s172_12, s172_13, s172_14, s172_15, s172_18, s172_21, s172_24, s172_25, s172_28, s172_29, s172_32, s172_33, s172_34, s172_37, s172_38, s172_39, s172_42, s172_43, s172_44, s172_45, s172_48, s172_51, s172_54, s172_55, s172_57, s172_60, s172_61, s172_64, s172_65, s172_68, s172_69, s172_72, s172_73, s172_76, s172_77, s172_79, s172_82, s172_85, s172_86, s172_89, nI_le2, nI_lt2, nI_eq2, nI_lt0, nI_0le, nI_0lt, nI_le0, nI_eq0, nI_clamp, nI_add, bu_nI, bb_0, bb_1, rf_s, rf_n, tl_s, tl_n, am_th_some, if_true, if_false, sI_eq, uI_eq, and_self, true_and, and_true, not_false_eq_true, not_true_eq_false, Nat.reduceEqDiff, Nat.reduceLeDiff, Nat.reduceLT, Nat.reduceAdd, Nat.reduceMul, Nat.reduceSub, Nat.zero_add, g1, gd, gl, q, g2]
theorem zm_tEnd (hk : tp_ok L B) (haL : a ≤ L) (e : ¬ sp_in 4 (sp_hr L B (sp_sk L B a))) : zm_W L B 4 173 dp a true (sp_sk L B a) [] := by
  intro d I R Q n C0 hN' hr hn h hl
  obtain ⟨d, rfl⟩ : ∃ q, d = q + 4 := ⟨d - 4, by omega⟩
  rw [zi_4] at e
  have q1 := (hm_eq (a := sp_sk L B a) (x := 42) hk (by decide) (by decide)).trans (eq_false (fun w => e (Or.inl w)))
  have q2 := (hm_eq (a := sp_sk L B a) (x := 47) hk (by decide) (by decide)).trans (eq_false (fun w => e (Or.inr w)))
  refine ⟨I, C0, ?_, fr_rf, fun _ => by rw [List.append_nil]; exact h, fa_t⟩
  rw [s173_21]
  simp (disch := first | omega | assumption) only [s173_0, s173_1, s173_4, s173_5, s173_8, s173_9, s173_12, s173_13, s173_16, s173_19, s173_20, s173_22, s173_24, s173_27, s173_28, s173_30, s173_33, s173_34, s173_35, s173_38, s173_39, s173_40, s173_43, s173_44, s173_47, s173_48, s173_49, s173_51, s173_54, s173_55, s173_58, s173_59, s173_60, s173_63, s173_64, s173_67, s173_68, s173_71, s173_72, s173_75, s173_78, s173_79, s173_80, s173_83, nI_le2, nI_lt2, nI_eq2, nI_lt0, nI_0le, nI_0lt, nI_le0, nI_eq0, nI_clamp, nI_add, bu_nI, bb_0, bb_1, rf_s, rf_n, tl_s, tl_n, am_th_some, if_true, if_false, sI_eq, uI_eq, and_self, true_and, and_true, not_false_eq_true, not_true_eq_false, Nat.reduceEqDiff, Nat.reduceLeDiff, Nat.reduceLT, Nat.reduceAdd, Nat.reduceMul, Nat.reduceSub, Nat.zero_add, q1, q2]
theorem zm_tBad (hk : tp_ok L B) (haL : a ≤ L) (ha1 : a1 ≤ L) (hc : sp_sk L B a + 1 ≤ a1) (e : sp_in 4 (sp_hr L B (sp_sk L B a))) (hN : 4 ≤ N) (hi : zm_K L B N 172 dp (sp_sk L B a + 1) false a1 C1) : zm_W L B (N + 1) 173 dp a false a1 [] := by
  intro d I R Q n C0 hN' hr hn h hl
  obtain ⟨d, rfl⟩ : ∃ q, d = q + 4 := ⟨d - 4, by omega⟩
  have hs := sk_L (B := B) haL
  have hL := hk.1
  have h12 := h.2.1
  obtain ⟨f2, h2⟩ := zm_3 (a' := sp_sk L B a + 1) h
  obtain ⟨J3, C3, g3, f3, -, m3⟩ := hi (d + 3) _ R Q n C0 (by omega) hr hn h2 (by omega)
  obtain ⟨h3, w3, l3⟩ := m3 rfl
  obtain ⟨J4, g4, f4, h4, w4⟩ := zw_put (d := d + 3) (Q := Q) hr hn h3 (by omega) (10000 + sp_hr L B (sp_sk L B a))
  rw [w3] at w4
  have hne : ¬ nI a1 = -nI 1 := m1_ne (by omega)
  have u1 : ¬ -nI 1 = nI 42 := by decide
  have u2 : ¬ -nI 1 = nI 47 := by decide
  refine ⟨J4, C3 ++ [10000 + sp_hr L B (sp_sk L B a)], ?_, fr_tr (fr_tr f2 f3) f4, fa_f, fun _ => ⟨h4, w4, by rw [List.length_append, List.length_singleton]; omega⟩⟩
  rcases zi_4.mp e with e1 | e1
  · have q1 := (hm_eq (a := sp_sk L B a) (x := 42) hk (by decide) (by decide)).trans (eq_true e1)
    rw [e1, show zl_k (10000 + 42) = 4 from rfl, show zl_v (10000 + 42) = 0 from rfl] at g4
    rw [s173_21]
    simp (disch := first | omega | assumption) only [s173_0, s173_1, s173_4, s173_5, s173_8, s173_9, s173_12, s173_13, s173_16, s173_19, s173_20, s173_22, s173_24, s173_27, s173_28, s173_30, s173_33, s173_34, s173_35, s173_38, s173_39, s173_40, s173_43, s173_44, s173_47, s173_48, s173_49, s173_51, s173_54, s173_55, s173_58, s173_59, s173_60, s173_63, s173_64, s173_67, s173_68, s173_71, s173_72, s173_75, s173_78, s173_79, s173_80, s173_83, nI_le2, nI_lt2, nI_eq2, nI_lt0, nI_0le, nI_0lt, nI_le0, nI_eq0, nI_clamp, nI_add, bu_nI, bb_0, bb_1, rf_s, rf_n, tl_s, tl_n, am_th_some, if_true, if_false, sI_eq, uI_eq, and_self, true_and, and_true, not_false_eq_true, not_true_eq_false, Nat.reduceEqDiff, Nat.reduceLeDiff, Nat.reduceLT, Nat.reduceAdd, Nat.reduceMul, Nat.reduceSub, Nat.zero_add, q1, h12, g3, g4, w4, hne]
    rw [s173_21]
    simp (disch := first | omega | assumption) only [s173_0, s173_1, s173_4, s173_5, s173_8, s173_9, s173_12, s173_13, s173_16, s173_19, s173_20, s173_22, s173_24, s173_27, s173_28, s173_30, s173_33, s173_34, s173_35, s173_38, s173_39, s173_40, s173_43, s173_44, s173_47, s173_48, s173_49, s173_51, s173_54, s173_55, s173_58, s173_59, s173_60, s173_63, s173_64, s173_67, s173_68, s173_71, s173_72, s173_75, s173_78, s173_79, s173_80, s173_83, nI_le2, nI_lt2, nI_eq2, nI_lt0, nI_0le, nI_0lt, nI_le0, nI_eq0, nI_clamp, nI_add, bu_nI, bb_0, bb_1, rf_s, rf_n, tl_s, tl_n, am_th_some, if_true, if_false, sI_eq, uI_eq, and_self, true_and, and_true, not_false_eq_true, not_true_eq_false, Nat.reduceEqDiff, Nat.reduceLeDiff, Nat.reduceLT, Nat.reduceAdd, Nat.reduceMul, Nat.reduceSub, Nat.zero_add, u1, u2]
  · have q1 := (hm_eq (a := sp_sk L B a) (x := 42) hk (by decide) (by decide)).trans (eq_false (by rw [e1]; decide))
    have q2 := (hm_eq (a := sp_sk L B a) (x := 47) hk (by decide) (by decide)).trans (eq_true e1)
    rw [e1, show zl_k (10000 + 47) = 5 from rfl, show zl_v (10000 + 47) = 0 from rfl] at g4
    rw [s173_21]
    simp (disch := first | omega | assumption) only [s173_0, s173_1, s173_4, s173_5, s173_8, s173_9, s173_12, s173_13, s173_16, s173_19, s173_20, s173_22, s173_24, s173_27, s173_28, s173_30, s173_33, s173_34, s173_35, s173_38, s173_39, s173_40, s173_43, s173_44, s173_47, s173_48, s173_49, s173_51, s173_54, s173_55, s173_58, s173_59, s173_60, s173_63, s173_64, s173_67, s173_68, s173_71, s173_72, s173_75, s173_78, s173_79, s173_80, s173_83, nI_le2, nI_lt2, nI_eq2, nI_lt0, nI_0le, nI_0lt, nI_le0, nI_eq0, nI_clamp, nI_add, bu_nI, bb_0, bb_1, rf_s, rf_n, tl_s, tl_n, am_th_some, if_true, if_false, sI_eq, uI_eq, and_self, true_and, and_true, not_false_eq_true, not_true_eq_false, Nat.reduceEqDiff, Nat.reduceLeDiff, Nat.reduceLT, Nat.reduceAdd, Nat.reduceMul, Nat.reduceSub, Nat.zero_add, q1, q2, h12, g3, g4, w4, hne]
    rw [s173_21]
    simp (disch := first | omega | assumption) only [s173_0, s173_1, s173_4, s173_5, s173_8, s173_9, s173_12, s173_13, s173_16, s173_19, s173_20, s173_22, s173_24, s173_27, s173_28, s173_30, s173_33, s173_34, s173_35, s173_38, s173_39, s173_40, s173_43, s173_44, s173_47, s173_48, s173_49, s173_51, s173_54, s173_55, s173_58, s173_59, s173_60, s173_63, s173_64, s173_67, s173_68, s173_71, s173_72, s173_75, s173_78, s173_79, s173_80, s173_83, nI_le2, nI_lt2, nI_eq2, nI_lt0, nI_0le, nI_0lt, nI_le0, nI_eq0, nI_clamp, nI_add, bu_nI, bb_0, bb_1, rf_s, rf_n, tl_s, tl_n, am_th_some, if_true, if_false, sI_eq, uI_eq, and_self, true_and, and_true, not_false_eq_true, not_true_eq_false, Nat.reduceEqDiff, Nat.reduceLeDiff, Nat.reduceLT, Nat.reduceAdd, Nat.reduceMul, Nat.reduceSub, Nat.zero_add, u1, u2]
theorem zm_tGo (hk : tp_ok L B) (haL : a ≤ L) (ha1 : a1 ≤ L) (hc : sp_sk L B a + 1 ≤ a1) (hlC : C1.length + (sp_sk L B a + 1) ≤ a1) (e : sp_in 4 (sp_hr L B (sp_sk L B a))) (hN : 4 ≤ N) (hi : zm_K L B N 172 dp (sp_sk L B a + 1) true a1 C1) (hw : zm_W L B (N + 1) 173 dp a1 ok' a' C') : zm_W L B (N + 1) 173 dp a ok' a' (C1 ++ (10000 + sp_hr L B (sp_sk L B a)) :: C') := by
  intro d I R Q n C0 hN' hr hn h hl
  obtain ⟨d, rfl⟩ : ∃ q, d = q + 4 := ⟨d - 4, by omega⟩
  have hs := sk_L (B := B) haL
  have hL := hk.1
  have h12 := h.2.1
  obtain ⟨f2, h2⟩ := zm_3 (a' := sp_sk L B a + 1) h
  obtain ⟨J3, C3, g3, f3, k3, -⟩ := hi (d + 3) _ R Q n C0 (by omega) hr hn h2 (by omega)
  have h3 := k3 rfl
  obtain ⟨J4, g4, f4, h4⟩ := zm_put (d := d + 3) (Q := Q) hr hn h3 (by rw [List.length_append]; omega) (10000 + sp_hr L B (sp_sk L B a))
  have hw4 := h4.2.2.1
  obtain ⟨J5, g5, f5, h5⟩ := zm_look (d := d + 2) (Q := Q) hr hk h4 ha1
  have hlen : (C0 ++ C1 ++ [10000 + sp_hr L B (sp_sk L B a)]).length = C0.length + C1.length + 1 := by rw [List.length_append, List.length_singleton, List.length_append]
  obtain ⟨J6, C6, g6, f6, k6, m6⟩ := hw (d + 4) J5 R Q n _ hN' hr hn h5 (by rw [hlen]; omega)
  refine ⟨J6, C6, ?_, fr_tr (fr_tr (fr_tr (fr_tr f2 f3) f4) f5) f6, fun w => ?_, fun w => ?_⟩
  · rcases zi_4.mp e with e1 | e1
    · have q1 := (hm_eq (a := sp_sk L B a) (x := 42) hk (by decide) (by decide)).trans (eq_true e1)
      rw [e1, show zl_k (10000 + 42) = 4 from rfl, show zl_v (10000 + 42) = 0 from rfl] at g4
      rw [s173_21]
      simp (disch := first | omega | assumption) only [s173_0, s173_1, s173_4, s173_5, s173_8, s173_9, s173_12, s173_13, s173_16, s173_19, s173_20, s173_22, s173_24, s173_27, s173_28, s173_30, s173_33, s173_34, s173_35, s173_38, s173_39, s173_40, s173_43, s173_44, s173_47, s173_48, s173_49, s173_51, s173_54, s173_55, s173_58, s173_59, s173_60, s173_63, s173_64, s173_67, s173_68, s173_71, s173_72, s173_75, s173_78, s173_79, s173_80, s173_83, nI_le2, nI_lt2, nI_eq2, nI_lt0, nI_0le, nI_0lt, nI_le0, nI_eq0, nI_clamp, nI_add, bu_nI, bb_0, bb_1, rf_s, rf_n, tl_s, tl_n, am_th_some, if_true, if_false, sI_eq, uI_eq, and_self, true_and, and_true, not_false_eq_true, not_true_eq_false, Nat.reduceEqDiff, Nat.reduceLeDiff, Nat.reduceLT, Nat.reduceAdd, Nat.reduceMul, Nat.reduceSub, Nat.zero_add, q1, h12, g3, g4, hw4, g5]
      exact g6
    · have q1 := (hm_eq (a := sp_sk L B a) (x := 42) hk (by decide) (by decide)).trans (eq_false (by rw [e1]; decide))
      have q2 := (hm_eq (a := sp_sk L B a) (x := 47) hk (by decide) (by decide)).trans (eq_true e1)
      rw [e1, show zl_k (10000 + 47) = 5 from rfl, show zl_v (10000 + 47) = 0 from rfl] at g4
      rw [s173_21]
      simp (disch := first | omega | assumption) only [s173_0, s173_1, s173_4, s173_5, s173_8, s173_9, s173_12, s173_13, s173_16, s173_19, s173_20, s173_22, s173_24, s173_27, s173_28, s173_30, s173_33, s173_34, s173_35, s173_38, s173_39, s173_40, s173_43, s173_44, s173_47, s173_48, s173_49, s173_51, s173_54, s173_55, s173_58, s173_59, s173_60, s173_63, s173_64, s173_67, s173_68, s173_71, s173_72, s173_75, s173_78, s173_79, s173_80, s173_83, nI_le2, nI_lt2, nI_eq2, nI_lt0, nI_0le, nI_0lt, nI_le0, nI_eq0, nI_clamp, nI_add, bu_nI, bb_0, bb_1, rf_s, rf_n, tl_s, tl_n, am_th_some, if_true, if_false, sI_eq, uI_eq, and_self, true_and, and_true, not_false_eq_true, not_true_eq_false, Nat.reduceEqDiff, Nat.reduceLeDiff, Nat.reduceLT, Nat.reduceAdd, Nat.reduceMul, Nat.reduceSub, Nat.zero_add, q1, q2, h12, g3, g4, hw4, g5]
      exact g6
  · have := k6 w
    simpa using this
  · obtain ⟨z1, z2, z3⟩ := m6 w
    exact ⟨z1, z2, by rw [hlen] at z3; omega⟩
theorem zm_tFail (hk : tp_ok L B) (haL : a ≤ L) (ha1 : a1 ≤ L) (hN : 4 ≤ N) (hi : zm_K L B N 172 dp a false a1 C1) : zm_K L B (N + 1) 173 dp a false a1 [] := by
  intro d I R Q n C0 hN' hr hn h hl
  obtain ⟨d, rfl⟩ : ∃ q, d = q + 4 := ⟨d - 4, by omega⟩
  have hL := hk.1
  obtain ⟨J3, C3, g3, f3, -, m3⟩ := hi (d + 3) I R Q n C0 (by omega) hr hn h hl
  obtain ⟨h3, w3, l3⟩ := m3 rfl
  have hne : ¬ nI a1 = -nI 1 := m1_ne (by omega)
  have u1 : ¬ -nI 1 = nI 42 := by decide
  have u2 : ¬ -nI 1 = nI 47 := by decide
  refine ⟨J3, C3, ?_, f3, fa_f, fun _ => ⟨h3, w3, l3⟩⟩
  rw [s173]
  simp (disch := first | omega | assumption) only [s173_0, s173_1, s173_4, s173_5, s173_8, s173_9, s173_12, s173_13, s173_16, s173_19, s173_20, s173_21, s173_22, s173_24, s173_27, s173_28, s173_30, s173_33, s173_34, s173_35, s173_38, s173_39, s173_40, s173_43, s173_44, s173_47, s173_48, s173_49, s173_51, s173_54, s173_55, s173_58, s173_59, s173_60, s173_63, s173_64, s173_67, s173_68, s173_71, s173_72, s173_75, s173_78, s173_79, s173_80, s173_83, nI_le2, nI_lt2, nI_eq2, nI_lt0, nI_0le, nI_0lt, nI_le0, nI_eq0, nI_clamp, nI_add, bu_nI, bb_0, bb_1, rf_s, rf_n, tl_s, tl_n, am_th_some, if_true, if_false, sI_eq, uI_eq, and_self, true_and, and_true, not_false_eq_true, not_true_eq_false, Nat.reduceEqDiff, Nat.reduceLeDiff, Nat.reduceLT, Nat.reduceAdd, Nat.reduceMul, Nat.reduceSub, Nat.zero_add, g3, w3, hne, u1, u2]
theorem zm_tAll (hk : tp_ok L B) (haL : a ≤ L) (ha1 : a1 ≤ L) (haa : a ≤ a1) (hlC : C1.length + a ≤ a1) (hN : 4 ≤ N) (hi : zm_K L B N 172 dp a true a1 C1) (hw : zm_W L B (N + 1) 173 dp a1 ok' a' C') : zm_K L B (N + 1) 173 dp a ok' a' (C1 ++ C') := by
  intro d I R Q n C0 hN' hr hn h hl
  obtain ⟨d, rfl⟩ : ∃ q, d = q + 4 := ⟨d - 4, by omega⟩
  have hL := hk.1
  obtain ⟨J3, C3, g3, f3, k3, -⟩ := hi (d + 3) I R Q n C0 (by omega) hr hn h hl
  have h3 := k3 rfl
  have hw3 := h3.2.2.1
  obtain ⟨J5, g5, f5, h5⟩ := zm_look (d := d + 2) (Q := Q) hr hk h3 ha1
  have hlen : (C0 ++ C1).length = C0.length + C1.length := List.length_append
  obtain ⟨J6, C6, g6, f6, k6, m6⟩ := hw (d + 4) J5 R Q n _ hN' hr hn h5 (by rw [hlen]; omega)
  refine ⟨J6, C6, ?_, fr_tr (fr_tr f3 f5) f6, fun w => ?_, fun w => ?_⟩
  · rw [s173]
    simp (disch := first | omega | assumption) only [s173_0, s173_1, s173_4, s173_5, s173_8, s173_9, s173_12, s173_13, s173_16, s173_19, s173_20, s173_22, s173_24, s173_27, s173_28, s173_30, s173_33, s173_34, s173_35, s173_38, s173_39, s173_40, s173_43, s173_44, s173_47, s173_48, s173_49, s173_51, s173_54, s173_55, s173_58, s173_59, s173_60, s173_63, s173_64, s173_67, s173_68, s173_71, s173_72, s173_75, s173_78, s173_79, s173_80, s173_83, nI_le2, nI_lt2, nI_eq2, nI_lt0, nI_0le, nI_0lt, nI_le0, nI_eq0, nI_clamp, nI_add, bu_nI, bb_0, bb_1, rf_s, rf_n, tl_s, tl_n, am_th_some, if_true, if_false, sI_eq, uI_eq, and_self, true_and, and_true, not_false_eq_true, not_true_eq_false, Nat.reduceEqDiff, Nat.reduceLeDiff, Nat.reduceLT, Nat.reduceAdd, Nat.reduceMul, Nat.reduceSub, Nat.zero_add, g3, hw3, g5]
    exact g6
  · have := k6 w
    rw [List.append_assoc] at this
    exact this
  · obtain ⟨z1, z2, z3⟩ := m6 w
    exact ⟨z1, z2, by rw [hlen] at z3; omega⟩
theorem zm_sEnd (hk : tp_ok L B) (haL : a ≤ L) (e : ¬ sp_in 3 (sp_hr L B (sp_sk L B a))) : zm_W L B 4 174 dp a true (sp_sk L B a) [] := by
  intro d I R Q n C0 hN' hr hn h hl
  obtain ⟨d, rfl⟩ : ∃ q, d = q + 4 := ⟨d - 4, by omega⟩
  rw [zi_3] at e
  have q1 := (hm_eq (a := sp_sk L B a) (x := 43) hk (by decide) (by decide)).trans (eq_false (fun w => e (Or.inl w)))
  have q2 := (hm_eq (a := sp_sk L B a) (x := 45) hk (by decide) (by decide)).trans (eq_false (fun w => e (Or.inr w)))
  refine ⟨I, C0, ?_, fr_rf, fun _ => by rw [List.append_nil]; exact h, fa_t⟩
  rw [s174_21]
  simp (disch := first | omega | assumption) only [s174_0, s174_1, s174_4, s174_5, s174_8, s174_9, s174_12, s174_13, s174_16, s174_19, s174_20, s174_22, s174_24, s174_27, s174_28, s174_30, s174_33, s174_34, s174_35, s174_38, s174_39, s174_40, s174_43, s174_44, s174_47, s174_48, s174_49, s174_51, s174_54, s174_55, s174_58, s174_59, s174_60, s174_63, s174_64, s174_67, s174_68, s174_71, s174_72, s174_75, s174_78, s174_79, s174_80, s174_83, nI_le2, nI_lt2, nI_eq2, nI_lt0, nI_0le, nI_0lt, nI_le0, nI_eq0, nI_clamp, nI_add, bu_nI, bb_0, bb_1, rf_s, rf_n, tl_s, tl_n, am_th_some, if_true, if_false, sI_eq, uI_eq, and_self, true_and, and_true, not_false_eq_true, not_true_eq_false, Nat.reduceEqDiff, Nat.reduceLeDiff, Nat.reduceLT, Nat.reduceAdd, Nat.reduceMul, Nat.reduceSub, Nat.zero_add, q1, q2]
theorem zm_sBad (hk : tp_ok L B) (haL : a ≤ L) (ha1 : a1 ≤ L) (hc : sp_sk L B a + 1 ≤ a1) (e : sp_in 3 (sp_hr L B (sp_sk L B a))) (hN : 4 ≤ N) (hi : zm_K L B N 173 dp (sp_sk L B a + 1) false a1 C1) : zm_W L B (N + 1) 174 dp a false a1 [] := by
  intro d I R Q n C0 hN' hr hn h hl
  obtain ⟨d, rfl⟩ : ∃ q, d = q + 4 := ⟨d - 4, by omega⟩
  have hs := sk_L (B := B) haL
  have hL := hk.1
  have h12 := h.2.1
  obtain ⟨f2, h2⟩ := zm_3 (a' := sp_sk L B a + 1) h
  obtain ⟨J3, C3, g3, f3, -, m3⟩ := hi (d + 3) _ R Q n C0 (by omega) hr hn h2 (by omega)
  obtain ⟨h3, w3, l3⟩ := m3 rfl
  obtain ⟨J4, g4, f4, h4, w4⟩ := zw_put (d := d + 3) (Q := Q) hr hn h3 (by omega) (10000 + sp_hr L B (sp_sk L B a))
  rw [w3] at w4
  have hne : ¬ nI a1 = -nI 1 := m1_ne (by omega)
  have u1 : ¬ -nI 1 = nI 43 := by decide
  have u2 : ¬ -nI 1 = nI 45 := by decide
  refine ⟨J4, C3 ++ [10000 + sp_hr L B (sp_sk L B a)], ?_, fr_tr (fr_tr f2 f3) f4, fa_f, fun _ => ⟨h4, w4, by rw [List.length_append, List.length_singleton]; omega⟩⟩
  rcases zi_3.mp e with e1 | e1
  · have q1 := (hm_eq (a := sp_sk L B a) (x := 43) hk (by decide) (by decide)).trans (eq_true e1)
    rw [e1, show zl_k (10000 + 43) = 2 from rfl, show zl_v (10000 + 43) = 0 from rfl] at g4
    rw [s174_21]
    simp (disch := first | omega | assumption) only [s174_0, s174_1, s174_4, s174_5, s174_8, s174_9, s174_12, s174_13, s174_16, s174_19, s174_20, s174_22, s174_24, s174_27, s174_28, s174_30, s174_33, s174_34, s174_35, s174_38, s174_39, s174_40, s174_43, s174_44, s174_47, s174_48, s174_49, s174_51, s174_54, s174_55, s174_58, s174_59, s174_60, s174_63, s174_64, s174_67, s174_68, s174_71, s174_72, s174_75, s174_78, s174_79, s174_80, s174_83, nI_le2, nI_lt2, nI_eq2, nI_lt0, nI_0le, nI_0lt, nI_le0, nI_eq0, nI_clamp, nI_add, bu_nI, bb_0, bb_1, rf_s, rf_n, tl_s, tl_n, am_th_some, if_true, if_false, sI_eq, uI_eq, and_self, true_and, and_true, not_false_eq_true, not_true_eq_false, Nat.reduceEqDiff, Nat.reduceLeDiff, Nat.reduceLT, Nat.reduceAdd, Nat.reduceMul, Nat.reduceSub, Nat.zero_add, q1, h12, g3, g4, w4, hne]
    rw [s174_21]
    simp (disch := first | omega | assumption) only [s174_0, s174_1, s174_4, s174_5, s174_8, s174_9, s174_12, s174_13, s174_16, s174_19, s174_20, s174_22, s174_24, s174_27, s174_28, s174_30, s174_33, s174_34, s174_35, s174_38, s174_39, s174_40, s174_43, s174_44, s174_47, s174_48, s174_49, s174_51, s174_54, s174_55, s174_58, s174_59, s174_60, s174_63, s174_64, s174_67, s174_68, s174_71, s174_72, s174_75, s174_78, s174_79, s174_80, s174_83, nI_le2, nI_lt2, nI_eq2, nI_lt0, nI_0le, nI_0lt, nI_le0, nI_eq0, nI_clamp, nI_add, bu_nI, bb_0, bb_1, rf_s, rf_n, tl_s, tl_n, am_th_some, if_true, if_false, sI_eq, uI_eq, and_self, true_and, and_true, not_false_eq_true, not_true_eq_false, Nat.reduceEqDiff, Nat.reduceLeDiff, Nat.reduceLT, Nat.reduceAdd, Nat.reduceMul, Nat.reduceSub, Nat.zero_add, u1, u2]
  · have q1 := (hm_eq (a := sp_sk L B a) (x := 43) hk (by decide) (by decide)).trans (eq_false (by rw [e1]; decide))
    have q2 := (hm_eq (a := sp_sk L B a) (x := 45) hk (by decide) (by decide)).trans (eq_true e1)
    rw [e1, show zl_k (10000 + 45) = 3 from rfl, show zl_v (10000 + 45) = 0 from rfl] at g4
    rw [s174_21]
    simp (disch := first | omega | assumption) only [s174_0, s174_1, s174_4, s174_5, s174_8, s174_9, s174_12, s174_13, s174_16, s174_19, s174_20, s174_22, s174_24, s174_27, s174_28, s174_30, s174_33, s174_34, s174_35, s174_38, s174_39, s174_40, s174_43, s174_44, s174_47, s174_48, s174_49, s174_51, s174_54, s174_55, s174_58, s174_59, s174_60, s174_63, s174_64, s174_67, s174_68, s174_71, s174_72, s174_75, s174_78, s174_79, s174_80, s174_83, nI_le2, nI_lt2, nI_eq2, nI_lt0, nI_0le, nI_0lt, nI_le0, nI_eq0, nI_clamp, nI_add, bu_nI, bb_0, bb_1, rf_s, rf_n, tl_s, tl_n, am_th_some, if_true, if_false, sI_eq, uI_eq, and_self, true_and, and_true, not_false_eq_true, not_true_eq_false, Nat.reduceEqDiff, Nat.reduceLeDiff, Nat.reduceLT, Nat.reduceAdd, Nat.reduceMul, Nat.reduceSub, Nat.zero_add, q1, q2, h12, g3, g4, w4, hne]
    rw [s174_21]
    simp (disch := first | omega | assumption) only [s174_0, s174_1, s174_4, s174_5, s174_8, s174_9, s174_12, s174_13, s174_16, s174_19, s174_20, s174_22, s174_24, s174_27, s174_28, s174_30, s174_33, s174_34, s174_35, s174_38, s174_39, s174_40, s174_43, s174_44, s174_47, s174_48, s174_49, s174_51, s174_54, s174_55, s174_58, s174_59, s174_60, s174_63, s174_64, s174_67, s174_68, s174_71, s174_72, s174_75, s174_78, s174_79, s174_80, s174_83, nI_le2, nI_lt2, nI_eq2, nI_lt0, nI_0le, nI_0lt, nI_le0, nI_eq0, nI_clamp, nI_add, bu_nI, bb_0, bb_1, rf_s, rf_n, tl_s, tl_n, am_th_some, if_true, if_false, sI_eq, uI_eq, and_self, true_and, and_true, not_false_eq_true, not_true_eq_false, Nat.reduceEqDiff, Nat.reduceLeDiff, Nat.reduceLT, Nat.reduceAdd, Nat.reduceMul, Nat.reduceSub, Nat.zero_add, u1, u2]
theorem zm_sGo (hk : tp_ok L B) (haL : a ≤ L) (ha1 : a1 ≤ L) (hc : sp_sk L B a + 1 ≤ a1) (hlC : C1.length + (sp_sk L B a + 1) ≤ a1) (e : sp_in 3 (sp_hr L B (sp_sk L B a))) (hN : 4 ≤ N) (hi : zm_K L B N 173 dp (sp_sk L B a + 1) true a1 C1) (hw : zm_W L B (N + 1) 174 dp a1 ok' a' C') : zm_W L B (N + 1) 174 dp a ok' a' (C1 ++ (10000 + sp_hr L B (sp_sk L B a)) :: C') := by
  intro d I R Q n C0 hN' hr hn h hl
  obtain ⟨d, rfl⟩ : ∃ q, d = q + 4 := ⟨d - 4, by omega⟩
  have hs := sk_L (B := B) haL
  have hL := hk.1
  have h12 := h.2.1
  obtain ⟨f2, h2⟩ := zm_3 (a' := sp_sk L B a + 1) h
  obtain ⟨J3, C3, g3, f3, k3, -⟩ := hi (d + 3) _ R Q n C0 (by omega) hr hn h2 (by omega)
  have h3 := k3 rfl
  obtain ⟨J4, g4, f4, h4⟩ := zm_put (d := d + 3) (Q := Q) hr hn h3 (by rw [List.length_append]; omega) (10000 + sp_hr L B (sp_sk L B a))
  have hw4 := h4.2.2.1
  obtain ⟨J5, g5, f5, h5⟩ := zm_look (d := d + 2) (Q := Q) hr hk h4 ha1
  have hlen : (C0 ++ C1 ++ [10000 + sp_hr L B (sp_sk L B a)]).length = C0.length + C1.length + 1 := by rw [List.length_append, List.length_singleton, List.length_append]
  obtain ⟨J6, C6, g6, f6, k6, m6⟩ := hw (d + 4) J5 R Q n _ hN' hr hn h5 (by rw [hlen]; omega)
  refine ⟨J6, C6, ?_, fr_tr (fr_tr (fr_tr (fr_tr f2 f3) f4) f5) f6, fun w => ?_, fun w => ?_⟩
  · rcases zi_3.mp e with e1 | e1
    · have q1 := (hm_eq (a := sp_sk L B a) (x := 43) hk (by decide) (by decide)).trans (eq_true e1)
      rw [e1, show zl_k (10000 + 43) = 2 from rfl, show zl_v (10000 + 43) = 0 from rfl] at g4
      rw [s174_21]
      simp (disch := first | omega | assumption) only [s174_0, s174_1, s174_4, s174_5, s174_8, s174_9, s174_12, s174_13, s174_16, s174_19, s174_20, s174_22, s174_24, s174_27, s174_28, s174_30, s174_33, s174_34, s174_35, s174_38, s174_39, s174_40, s174_43, s174_44, s174_47, s174_48, s174_49, s174_51, s174_54, s174_55, s174_58, s174_59, s174_60, s174_63, s174_64, s174_67, s174_68, s174_71, s174_72, s174_75, s174_78, s174_79, s174_80, s174_83, nI_le2, nI_lt2, nI_eq2, nI_lt0, nI_0le, nI_0lt, nI_le0, nI_eq0, nI_clamp, nI_add, bu_nI, bb_0, bb_1, rf_s, rf_n, tl_s, tl_n, am_th_some, if_true, if_false, sI_eq, uI_eq, and_self, true_and, and_true, not_false_eq_true, not_true_eq_false, Nat.reduceEqDiff, Nat.reduceLeDiff, Nat.reduceLT, Nat.reduceAdd, Nat.reduceMul, Nat.reduceSub, Nat.zero_add, q1, h12, g3, g4, hw4, g5]
      exact g6
    · have q1 := (hm_eq (a := sp_sk L B a) (x := 43) hk (by decide) (by decide)).trans (eq_false (by rw [e1]; decide))
      have q2 := (hm_eq (a := sp_sk L B a) (x := 45) hk (by decide) (by decide)).trans (eq_true e1)
      rw [e1, show zl_k (10000 + 45) = 3 from rfl, show zl_v (10000 + 45) = 0 from rfl] at g4
      rw [s174_21]
      simp (disch := first | omega | assumption) only [s174_0, s174_1, s174_4, s174_5, s174_8, s174_9, s174_12, s174_13, s174_16, s174_19, s174_20, s174_22, s174_24, s174_27, s174_28, s174_30, s174_33, s174_34, s174_35, s174_38, s174_39, s174_40, s174_43, s174_44, s174_47, s174_48, s174_49, s174_51, s174_54, s174_55, s174_58, s174_59, s174_60, s174_63, s174_64, s174_67, s174_68, s174_71, s174_72, s174_75, s174_78, s174_79, s174_80, s174_83, nI_le2, nI_lt2, nI_eq2, nI_lt0, nI_0le, nI_0lt, nI_le0, nI_eq0, nI_clamp, nI_add, bu_nI, bb_0, bb_1, rf_s, rf_n, tl_s, tl_n, am_th_some, if_true, if_false, sI_eq, uI_eq, and_self, true_and, and_true, not_false_eq_true, not_true_eq_false, Nat.reduceEqDiff, Nat.reduceLeDiff, Nat.reduceLT, Nat.reduceAdd, Nat.reduceMul, Nat.reduceSub, Nat.zero_add, q1, q2, h12, g3, g4, hw4, g5]
      exact g6
  · have := k6 w
    simpa using this
  · obtain ⟨z1, z2, z3⟩ := m6 w
    exact ⟨z1, z2, by rw [hlen] at z3; omega⟩
theorem zm_sFail (hk : tp_ok L B) (haL : a ≤ L) (ha1 : a1 ≤ L) (hN : 4 ≤ N) (hi : zm_K L B N 173 dp a false a1 C1) : zm_K L B (N + 1) 174 dp a false a1 [] := by
  intro d I R Q n C0 hN' hr hn h hl
  obtain ⟨d, rfl⟩ : ∃ q, d = q + 4 := ⟨d - 4, by omega⟩
  have hL := hk.1
  obtain ⟨J3, C3, g3, f3, -, m3⟩ := hi (d + 3) I R Q n C0 (by omega) hr hn h hl
  obtain ⟨h3, w3, l3⟩ := m3 rfl
  have hne : ¬ nI a1 = -nI 1 := m1_ne (by omega)
  have u1 : ¬ -nI 1 = nI 43 := by decide
  have u2 : ¬ -nI 1 = nI 45 := by decide
  refine ⟨J3, C3, ?_, f3, fa_f, fun _ => ⟨h3, w3, l3⟩⟩
  rw [s174]
  simp (disch := first | omega | assumption) only [s174_0, s174_1, s174_4, s174_5, s174_8, s174_9, s174_12, s174_13, s174_16, s174_19, s174_20, s174_21, s174_22, s174_24, s174_27, s174_28, s174_30, s174_33, s174_34, s174_35, s174_38, s174_39, s174_40, s174_43, s174_44, s174_47, s174_48, s174_49, s174_51, s174_54, s174_55, s174_58, s174_59, s174_60, s174_63, s174_64, s174_67, s174_68, s174_71, s174_72, s174_75, s174_78, s174_79, s174_80, s174_83, nI_le2, nI_lt2, nI_eq2, nI_lt0, nI_0le, nI_0lt, nI_le0, nI_eq0, nI_clamp, nI_add, bu_nI, bb_0, bb_1, rf_s, rf_n, tl_s, tl_n, am_th_some, if_true, if_false, sI_eq, uI_eq, and_self, true_and, and_true, not_false_eq_true, not_true_eq_false, Nat.reduceEqDiff, Nat.reduceLeDiff, Nat.reduceLT, Nat.reduceAdd, Nat.reduceMul, Nat.reduceSub, Nat.zero_add, g3, w3, hne, u1, u2]
theorem zm_sAll (hk : tp_ok L B) (haL : a ≤ L) (ha1 : a1 ≤ L) (haa : a ≤ a1) (hlC : C1.length + a ≤ a1) (hN : 4 ≤ N) (hi : zm_K L B N 173 dp a true a1 C1) (hw : zm_W L B (N + 1) 174 dp a1 ok' a' C') : zm_K L B (N + 1) 174 dp a ok' a' (C1 ++ C') := by
  intro d I R Q n C0 hN' hr hn h hl
  obtain ⟨d, rfl⟩ : ∃ q, d = q + 4 := ⟨d - 4, by omega⟩
  have hL := hk.1
  obtain ⟨J3, C3, g3, f3, k3, -⟩ := hi (d + 3) I R Q n C0 (by omega) hr hn h hl
  have h3 := k3 rfl
  have hw3 := h3.2.2.1
  obtain ⟨J5, g5, f5, h5⟩ := zm_look (d := d + 2) (Q := Q) hr hk h3 ha1
  have hlen : (C0 ++ C1).length = C0.length + C1.length := List.length_append
  obtain ⟨J6, C6, g6, f6, k6, m6⟩ := hw (d + 4) J5 R Q n _ hN' hr hn h5 (by rw [hlen]; omega)
  refine ⟨J6, C6, ?_, fr_tr (fr_tr f3 f5) f6, fun w => ?_, fun w => ?_⟩
  · rw [s174]
    simp (disch := first | omega | assumption) only [s174_0, s174_1, s174_4, s174_5, s174_8, s174_9, s174_12, s174_13, s174_16, s174_19, s174_20, s174_22, s174_24, s174_27, s174_28, s174_30, s174_33, s174_34, s174_35, s174_38, s174_39, s174_40, s174_43, s174_44, s174_47, s174_48, s174_49, s174_51, s174_54, s174_55, s174_58, s174_59, s174_60, s174_63, s174_64, s174_67, s174_68, s174_71, s174_72, s174_75, s174_78, s174_79, s174_80, s174_83, nI_le2, nI_lt2, nI_eq2, nI_lt0, nI_0le, nI_0lt, nI_le0, nI_eq0, nI_clamp, nI_add, bu_nI, bb_0, bb_1, rf_s, rf_n, tl_s, tl_n, am_th_some, if_true, if_false, sI_eq, uI_eq, and_self, true_and, and_true, not_false_eq_true, not_true_eq_false, Nat.reduceEqDiff, Nat.reduceLeDiff, Nat.reduceLT, Nat.reduceAdd, Nat.reduceMul, Nat.reduceSub, Nat.zero_add, g3, hw3, g5]
    exact g6
  · have := k6 w
    rw [List.append_assoc] at this
    exact this
  · obtain ⟨z1, z2, z3⟩ := m6 w
    exact ⟨z1, z2, by rw [hlen] at z3; omega⟩
end
