/-! TELL, SET. -/
section
variable {n : Nat} {v a b j : Nat}
theorem na_0 (ha : a = 0 ∨ a = 9 ∨ a = 10 ∨ a = 11 ∨ a = 13 ∨ (19 ≤ a ∧ a ≤ 22) ∨ a = 30 ∨ (35 ≤ a ∧ a ≤ 37)) : ¬ na_S v a b j := fun h => by
  unfold na_S at h
  omega
theorem na_1 {v' : Nat} (hv : ¬ b = v) : ¬ na_S v a b j := fun h => by
  unfold na_S at h
  omega
theorem na_cl {v : Nat} (w : na_S v a b j) : clS a b j := by
  unfold na_S at w
  unfold clS
  omega
theorem mt_0 (ha : a = 42 ∨ a = 60 ∨ a = 61 ∨ a = 63 ∨ (67 ≤ a ∧ a ≤ 71) ∨ (a = 12 ∧ ¬ j = 43)) : ¬ mt_S a b j := fun h => by
  unfold mt_S at h
  omega
theorem ms_0 (ha : a = 42 ∨ a = 60 ∨ a = 61 ∨ a = 63 ∨ a = 65 ∨ a = 66 ∨ a = 71 ∨ (a = 12 ∧ ¬ j = 49)) : ¬ ms_S a b j := fun h => by
  unfold ms_S at h
  omega
theorem mt_u (w : mt_S a b j) : uM n a b j ∧ mdS a b j := by
  unfold mt_S at w
  unfold uM mdS
  omega
theorem ms_u (w : ms_S a b j) : uM n a b j ∧ mdS a b j := by
  unfold ms_S at w
  unfold uM mdS
  omega
end
theorem P0_f {E : zE} (hE : zd_ok E) (hg : zd_g E) : ∀ j, j < E.2.2.1.length → zD E.2.2.1 0 j < zn E ∧ ¬ zP0 E 0 (zD E.2.2.1 0 j) ≤ 0 := by
  intro j hj
  have hm : zD E.2.2.1 0 j ∈ zd_l E.2.2.1 := by
    refine List.mem_map.mpr ⟨E.2.2.1[j], List.getElem_mem hj, ?_⟩
    show _ = (E.2.2.1.getD j (fun _ => 0)) 0
    rw [List.getD_eq_getElem?_getD, List.getElem?_eq_getElem hj]
    rfl
  obtain ⟨p1, p2, -⟩ := P_pos (c := zD E.2.2.1 0 j) E.2.2.1 hE.2.1
  have h1 := p1.mpr hm
  refine ⟨hg.2.1.2 _ hm, ?_⟩
  show ¬ nI (zd_P E.2.2.1 0 (zD E.2.2.1 0 j)) ≤ 0
  rw [nI_le0 (by omega)]
  omega
section
variable {s : zSt} {x y z : Int32}
theorem op_tell (hok : rel_ok s) {q : Nat} (hq : q ≤ 1) : op1 138 253 [.int x, .int (nI q)] s := by
  obtain ⟨tp, w, st, rf, o⟩ := s
  cases o with
  | none =>
    refine op_k (v := -nI 1) hok (fun d u I R Q h => ?_) (fun d I R Q hr h => ?_)
    · have C := get_nc h
      exact c_tellNo (d := d + 89) (n := 0) (k := 0) (N := fun _ _ => 0) C.pa.2.1 (rF_11 h.1.1).2.2.2.2.2.2.1 C.h4 (by decide) ⟨h.2.2.2.2.2.2.1, fun i hi => absurd hi (Nat.not_lt_zero _)⟩ (Or.inl fun w => Int32.not_lt.mpr w.1 (by rw [← nI_0]; exact w.2))
    · have C := get_nm h
      exact m_tellNo (d := d + 88) (n := 0) (k := 0) (N := fun _ _ => 0) hr C.hc (by decide) ⟨h.2.2.2.2.1, fun i hi => absurd hi (Nat.not_lt_zero _)⟩ (Or.inl fun w => Int32.not_lt.mpr w.1 (by rw [← nI_0]; exact w.2))
  | some l =>
    obtain ⟨E, k, PK, tk, EL, im, ⟨k0, N0⟩, k1, N1⟩ := l
    have L := get_l hok
    have n25 := L.n25
    have hn0 : nt_ok k0 N0 := (hok.2.2.2 _ rfl).2.2.2.2.1
    by_cases e0 : (0 ≤ x ∧ x < nI (zn E)) ∧ k0 < 10
    · obtain ⟨e0, e1⟩ := e0
      obtain ⟨c, hc, rfl⟩ := am_in e0.1 e0.2 (by omega)
      have hnk := nt_ok1 (c := c) (g := 0) (u := q) hn0 e1 (by omega) (by decide) hq
      refine ⟨nI (k0 + 1), (tp, w, st, rf, some (E, k, PK, tk, EL, im, (k0 + 1, sp_nt k0 N0 c 0 q), (k1, N1))), fun d u I R Q h => ?_, fun d I R Q hr h => ?_, ?_⟩
      · have C := get_c (Q := Q) h hok
        have g := h
        obtain ⟨-, ⟨x1, -, -, -, x5, x6, -⟩, -, ⟨f, lo, h6⟩, l7, l8, l9⟩ := g
        obtain ⟨J, g1, g2, g3⟩ := c_tellYes (d := d + 89) (Q := Q) C.pa.2.1 C.r16 C.n0 C.h4 n25 hc l8 e1 hq
        have b7 := ci_fr l7 g2 (na_0 (by decide)) (fun a j ha => na_0 (by omega)) (fun a j ha => na_0 (by omega))
        refine ⟨J, R, u, g1, fr_mo g2 fun a b j w => na_cl w, ?_, fun _ _ _ _ => rfl⟩
        exact relc_up h hok (fr_mo g2 fun a b j w => Or.inr (Or.inr (Or.inr (Or.inl (Or.inl w))))) (tc_fr x1 g2 (na_0 (by decide)) (fun j => na_0 (by decide))) ((g2 _ _ _ (na_0 (by decide))).trans x5) (fun i hi => (g2 _ _ _ (na_0 (by decide))).trans (x6 i hi)) ⟨f, lo, hc_fr L.k40 h6 g2 (na_0 (by decide)) (na_0 (by decide)) (fun a b j ha h1 h2 => na_0 (by omega)) (fun a j ha => na_0 (by omega))⟩ b7 g3 (nt_fr l9 g2 (na_1 (v' := 0) (by decide)) (fun a i ha => na_1 (v' := 0) (by decide)))
      · have C := get_m (Q := Q) hr h hok
        have g := h
        obtain ⟨⟨x1, -, x3, x4⟩, -, l6, l7, l8, l9⟩ := g
        obtain ⟨J, g1, g2, g3⟩ := m_tellYes (d := d + 88) (Q := Q) hr C.hc n25 hc l8 e1 hq
        refine ⟨J, Q, g1, fr_mo g2 fun a b j v => (mt_u (n := w.1) v).2, ?_, fun _ _ _ _ => rfl⟩
        exact relm_up h hok (fr_mo g2 fun a b j w => (mt_u w).1) (tm_fr x1 g2 (mt_0 (by decide)) (fun j => mt_0 (Or.inl rfl))) ((g2 _ _ _ (mt_0 (by decide))).trans x3) (fun i hi => (g2 _ _ _ (mt_0 (by omega))).trans (x4 i hi)) (hm_fr l6 g2 (mt_0 (by decide)) (mt_0 (by decide)) (fun a j ha => mt_0 (by omega))) (mi_fr l7 g2 (mt_0 (by decide)) (fun j => mt_0 (by omega))) g3 (ms_fr l9 g2 (mt_0 (by decide)) (fun a j ha => mt_0 (by omega)))
      · obtain ⟨a1, a2, a3, a4⟩ := hok
        refine ⟨a1, a2, a3, fun l hl => ?_⟩
        cases hl
        obtain ⟨b1, b2, b3, b4, b5, b6⟩ := a4 _ rfl
        exact ⟨b1, b2, b3, b4, hnk, b6⟩
    · have hno : ¬ (0 ≤ x ∧ x < nI (zn E)) ∨ k0 = 10 := by
        by_cases e1 : 0 ≤ x ∧ x < nI (zn E)
        · have hk10 := hn0.1
          exact Or.inr (Classical.byContradiction fun w => e0 ⟨e1, by omega⟩)
        · exact Or.inl e1
      refine op_k (v := -nI 1) hok (fun d u I R Q h => ?_) (fun d I R Q hr h => ?_)
      · have C := get_c (Q := Q) h hok
        obtain ⟨-, -, -, -, -, l8, l9⟩ := h
        exact c_tellNo (d := d + 89) C.pa.2.1 C.r16 C.h4 n25 l8 hno
      · have C := get_m (Q := Q) hr h hok
        obtain ⟨-, -, -, -, l8, l9⟩ := h
        exact m_tellNo (d := d + 88) hr C.hc n25 l8 hno
theorem op_set (hok : rel_ok s) {q : Nat} (hq : q ≤ 1) : op1 147 268 [.int x, .int y, .int (nI q)] s := by
  obtain ⟨tp, w, st, rf, o⟩ := s
  cases o with
  | none =>
    refine op_k (v := -nI 1) hok (fun d u I R Q h => ?_) (fun d I R Q hr h => ?_)
    · have C := get_nc h
      have hL := C.lun (Q := Q) (d + 89)
      rw [s147]
      simp (disch := first | omega | assumption) only [s147_0, s147_1, s147_4, s147_7, s147_8, s147_11, s147_14, s147_17, s147_18, s147_21, s147_24, s147_25, s147_26, s147_28, s147_31, s147_34, s147_35, s147_36, s147_37, s147_40, s147_41, s147_42, s147_43, s147_46, s147_49, s147_50, s147_53, s147_56, s147_59, s147_60, nI_le2, nI_lt2, nI_eq2, nI_lt0, nI_0le, nI_0lt, nI_le0, nI_eq0, nI_clamp, nI_add, bu_nI, bb_0, bb_1, rf_s, rf_n, tl_s, tl_n, am_th_some, if_true, if_false, sI_eq, uI_eq, and_self, true_and, and_true, not_false_eq_true, not_true_eq_false, Nat.reduceEqDiff, Nat.reduceLeDiff, Nat.reduceLT, Nat.reduceAdd, Nat.reduceMul, Nat.reduceSub, Nat.zero_add, hL]
    · have e28 : I 12 0 28 = nI 0 := h.2.2.2.2.2.2.1
      have hD : md_at I 0 0 (fun _ => 0) (fun _ _ => nI 0) := ⟨e28, by decide, fun j hj => absurd hj (Nat.not_lt_zero _), fun i j _ hj => absurd hj (Nat.not_lt_zero _), fun j hj => absurd hj (Nat.not_lt_zero _), fun c _ _ => ⟨rfl, rfl, rfl⟩, fun c _ => rfl, rfl, rfl, rfl⟩
      exact m_setNo (d := d + 89) (k := 0) (N := fun _ _ => 0) hr hD (fun j hj => absurd hj (Nat.not_lt_zero _)) (by decide) ⟨h.2.2.2.2.2.1, fun i hi => absurd hi (Nat.not_lt_zero _)⟩ (Or.inl fun w => w.1.2.2 (show nI 0 ≤ 0 by decide))
  | some l =>
    obtain ⟨E, k, PK, tk, EL, im, ⟨k0, N0⟩, k1, N1⟩ := l
    have L := get_l hok
    have n25 := L.n25
    obtain ⟨⟨hE, hg⟩, -, -, -, -, hn1, hF⟩ := hok.2.2.2 _ rfl
    have hpos := P0_f hE hg
    have hP0 : zP0 E 4 0 = nI (zn E) := rfl
    by_cases e0 : sp_ss (zP0 E) x y ∧ k1 < 10
    · obtain ⟨e0, e1⟩ := e0
      have e0' := e0
      obtain ⟨c, hc, rfl, hf⟩ := pp_f_of hP0 n25 e0.1
      obtain ⟨g, hg9, rfl⟩ := in_nat (by decide) e0'.2
      have hnk := nt_ok1 (c := c) (g := g) (u := q) hn1 e1 (by omega) hg9 hq
      refine ⟨nI (k1 + 1), (tp, w, st, rf, some (E, k, PK, tk, EL, im, (k0, N0), (k1 + 1, sp_nt k1 N1 c g q))), fun d u I R Q h => ?_, fun d I R Q hr h => ?_, ?_⟩
      · have C := get_c (Q := Q) h hok
        have gg := h
        obtain ⟨hR, ⟨x1, -, -, -, x5, x6, -⟩, ⟨-, -, -, l4, -⟩, ⟨f, lo, h6⟩, l7, l8, l9⟩ := gg
        obtain ⟨J, g1, g2, g3⟩ := c_setYes (d := d + 89) (Q := Q) (p := u) C.pa.1 C.pa.2.1 C.r17 C.kk (hR.1.2.2.2.1 u hR.2.1).2.2.2.2.2 (C.aa.2.2.2.2.1 u (by have := hR.2.1; omega)) C.n1 C.h4 L.n1 n25 l4 hP0 e0 l9 e1 hq
        have b7 := ci_fr l7 g2 (na_0 (by decide)) (fun a j ha => na_0 (by omega)) (fun a j ha => na_0 (by omega))
        refine ⟨J, R, u, g1, fr_mo g2 fun a b j w => na_cl w, ?_, fun _ _ _ _ => rfl⟩
        exact relc_up h hok (fr_mo g2 fun a b j w => Or.inr (Or.inr (Or.inr (Or.inl (Or.inr w))))) (tc_fr x1 g2 (na_0 (by decide)) (fun j => na_0 (by decide))) ((g2 _ _ _ (na_0 (by decide))).trans x5) (fun i hi => (g2 _ _ _ (na_0 (by decide))).trans (x6 i hi)) ⟨f, lo, hc_fr L.k40 h6 g2 (na_0 (by decide)) (na_0 (by decide)) (fun a b j ha h1 h2 => na_0 (by omega)) (fun a j ha => na_0 (by omega))⟩ b7 (nt_fr l8 g2 (na_1 (v' := 0) (by decide)) (fun a i ha => na_1 (v' := 0) (by decide))) g3
      · have C := get_m (Q := Q) hr h hok
        have gg := h
        obtain ⟨⟨x1, -, x3, x4⟩, ⟨-, -, l3, -⟩, l6, l7, l8, l9⟩ := gg
        obtain ⟨J, g1, g2, g3⟩ := m_setYes (d := d + 89) (Q := Q) hr l3 hpos n25 e0 l9 e1 hq
        refine ⟨J, Q, g1, fr_mo g2 fun a b j v => (ms_u (n := w.1) v).2, ?_, fun _ _ _ _ => rfl⟩
        exact relm_up h hok (fr_mo g2 fun a b j w => (ms_u w).1) (tm_fr x1 g2 (ms_0 (by decide)) (fun j => ms_0 (Or.inl rfl))) ((g2 _ _ _ (ms_0 (by decide))).trans x3) (fun i hi => (g2 _ _ _ (ms_0 (by omega))).trans (x4 i hi)) (hm_fr l6 g2 (ms_0 (by decide)) (ms_0 (by decide)) (fun a j ha => ms_0 (by omega))) (mi_fr l7 g2 (ms_0 (by decide)) (fun j => ms_0 (by omega))) (mn_fr l8 g2 (ms_0 (by decide)) (fun a j ha => ms_0 (by omega))) g3
      · obtain ⟨a1, a2, a3, a4⟩ := hok
        refine ⟨a1, a2, a3, fun l hl => ?_⟩
        cases hl
        obtain ⟨b1, b2, b3, b4, b5, b6, b7⟩ := a4 _ rfl
        refine ⟨b1, b2, b3, b4, b5, hnk, fun i hi => ?_⟩
        show (if i = k1 then c else N1 0 i) < zn E ∧ ¬ zP0 E 0 (if i = k1 then c else N1 0 i) ≤ 0
        by_cases e : i = k1
        · rw [if_pos e]; exact ⟨hc, hf⟩
        · rw [if_neg e]; exact b7 i (by omega)
    · have hno : ¬ sp_ss (zP0 E) x y ∨ k1 = 10 := by
        by_cases e1 : sp_ss (zP0 E) x y
        · have hk10 := hn1.1
          exact Or.inr (Classical.byContradiction fun w => e0 ⟨e1, by omega⟩)
        · exact Or.inl e1
      refine op_k (v := -nI 1) hok (fun d u I R Q h => ?_) (fun d I R Q hr h => ?_)
      · have C := get_c (Q := Q) h hok
        obtain ⟨hR, -, ⟨-, -, -, l4, -⟩, -, -, l8, l9⟩ := h
        exact c_setNo (d := d + 89) (p := u) C.pa.1 C.pa.2.1 C.r17 C.kk (hR.1.2.2.2.1 u hR.2.1).2.2.2.2.2 (C.aa.2.2.2.2.1 u (by have := hR.2.1; omega)) C.h4 L.n1 n25 l4 hP0 l9 hno
      · have C := get_m (Q := Q) hr h hok
        obtain ⟨-, ⟨-, -, l3, -⟩, -, -, l8, l9⟩ := h
        exact m_setNo (d := d + 89) hr l3 hpos n25 l9 hno
end
