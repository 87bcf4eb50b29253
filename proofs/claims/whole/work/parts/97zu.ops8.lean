/-! STIRS, FEED, END, refusals, the history's frames; TELL, SET, IMAGE, BACK, UNDO. -/
def hC : Nat → Nat → Nat → Prop := fun a b j => hc_S a b j ∨ kk_S 12 a b j
def hM : Nat → Nat → Nat → Prop := fun a _ j => a = 60 ∨ a = 63 ∨ a = 62 ∨ a = 50 ∨ a = 51 ∨ (a = 12 ∧ (j = 30 ∨ j = 37))
section
variable {tp tp' : Nat × (Nat → Nat)} {w : zLw} {st st' : Nat} {rf rf' : Nat → Int32} {E : zE} {k k' : Nat} {PK PK' : Nat → Nat → Nat → Int32} {tk tk' : Nat → Nat} {EL EL' : Nat → Nat → Int32} {im im' : Option ((Nat → Nat → Int32) × Nat × (Nat → Nat → Int32))} {k0 k1 k0' k1' : Nat} {N0 N1 N0' N1' : Nat → Nat → Nat} {u : Nat} {I J : am_I} {R : am_R} {Q : am_Q} {o : Option zLu}
theorem hC_1 {a b j : Nat} (ha : a = 8 ∨ a = 10 ∨ a = 11 ∨ a = 13 ∨ a = 30 ∨ a = 38 ∨ a = 39 ∨ a = 40) : ¬ hC a b j := fun h => by
  unfold hC hc_S kk_S at h
  omega
theorem hC_2 {a j : Nat} (ha : a = 9 ∨ a = 19 ∨ a = 20 ∨ a = 21 ∨ a = 22) : ¬ hC a 53 j := fun h => by
  unfold hC hc_S kk_S at h
  omega
theorem hC_3 {a j : Nat} (ha : a = 35 ∨ a = 36 ∨ a = 37) : ¬ hC a 1 j := fun h => by
  unfold hC hc_S kk_S at h
  omega
theorem hC_u {a b j : Nat} (w : hC a b j) : uC u a b j := by
  rcases w with w | w
  · exact Or.inr (Or.inl w)
  · rcases w with w | w
    · refine Or.inl ?_
      unfold fC
      omega
    · refine Or.inr (Or.inl (Or.inl ?_))
      omega
theorem hC_cl {a b j : Nat} (w : hC a b j) : clS a b j := by
  unfold hC hc_S kk_S at w
  unfold clS
  omega
theorem relc_hist (h : rel_c (tp, w, st, rf, some (E, k, PK, tk, EL, im, (k0, N0), (k1, N1))) u I R) (hok : rel_ok (tp, w, st, rf, some (E, k, PK, tk, EL, im, (k0, N0), (k1, N1)))) (hf : am_fr hC I J) (b6 : ∃ f lo, hc_at J k' PK' tk' f lo EL') : rel_c (tp, w, st, rf, some (E, k', PK', tk', EL', im, (k0, N0), (k1, N1))) u J R := by
  have g := h
  obtain ⟨-, ⟨x1, -, -, -, x5, x6, -⟩, -, -, l7, l8, l9⟩ := g
  have b7 := ci_fr l7 hf (hC_1 (by decide)) (fun a j ha => hC_2 ha) (fun a j ha => hC_3 ha)
  have b8 := nt_fr l8 hf (hC_1 (by decide)) (fun a i ha => hC_1 (by omega))
  have b9 := nt_fr l9 hf (hC_1 (by decide)) (fun a i ha => hC_1 (by omega))
  exact relc_up h hok (fr_mo hf fun a b j w => hC_u w) (tc_fr x1 hf (hC_1 (by decide)) (fun j => hC_1 (by decide))) ((hf _ _ _ (hC_1 (by decide))).trans x5) (fun i hi => (hf _ _ _ (hC_1 (by decide))).trans (x6 i hi)) b6 b7 b8 b9
theorem relm_hist (h : rel_m (tp, w, st, rf, some (E, k, PK, tk, EL, im, (k0, N0), (k1, N1))) I) (hok : rel_ok (tp, w, st, rf, some (E, k, PK, tk, EL, im, (k0, N0), (k1, N1)))) (hf : am_fr hM I J) (b6 : hm_at J (zn E) k' PK' tk' EL') : rel_m (tp, w, st, rf, some (E, k', PK', tk', EL', im, (k0, N0), (k1, N1))) J := by
  have g := h
  obtain ⟨⟨x1, -, x3, x4⟩, -, -, l7, l8, l9⟩ := g
  refine relm_up h hok (fr_mo hf fun a b j w => ?_) (tm_fr x1 hf (fun w => by unfold hM at w; omega) (fun j w => by unfold hM at w; omega)) ((hf _ _ _ (fun w => by unfold hM at w; omega)).trans x3) (fun i hi => (hf _ _ _ (fun w => by unfold hM at w; omega)).trans (x4 i hi)) b6 (mi_fr l7 hf (fun w => by unfold hM at w; omega) (fun j w => by unfold hM at w; omega)) (mn_fr l8 hf (fun w => by unfold hM at w; omega) (fun a i ha w => by unfold hM at w; omega)) (ms_fr l9 hf (fun w => by unfold hM at w; omega) (fun a i ha w => by unfold hM at w; omega))
  unfold hM at w
  unfold uM fM
  omega
theorem ok_hist (hok : rel_ok (tp, w, st, rf, some (E, k, PK, tk, EL, im, (k0, N0), (k1, N1)))) (hd : hd_ok (zn E) (E.2.1 4) k' PK' tk') (h9 : tk' k' ≤ 9999) : rel_ok (tp, w, st, rf, some (E, k', PK', tk', EL', im, (k0, N0), (k1, N1))) := by
  obtain ⟨a1, a2, a3, a4⟩ := hok
  refine ⟨a1, a2, a3, fun l hl => ?_⟩
  cases hl
  obtain ⟨b1, b2, b3, b4⟩ := a4 _ rfl
  exact ⟨b1, hd, h9, b4⟩
theorem aw_ok {s : Nat × (Nat → Nat)} {x : Int32} (h : tp_ok s.1 s.2) (hl : s.1 + sp_ct x ≤ 240) : tp_ok (sp_aw s x).1 (sp_aw s x).2 ∧ (sp_aw s x).1 = s.1 + sp_ct x := by
  have hb : ∀ i, sp_by x i < 256 := fun i => Nat.mod_lt _ (by decide)
  have e : ∀ (s : Nat × (Nat → Nat)) v, (sp_ad s v).1 = s.1 + sp_o v := fun s v => by
    unfold sp_ad sp_o
    by_cases q : v = 0
    · rw [if_pos q, if_pos q]; rfl
    · rw [if_neg q, if_neg q]
  unfold sp_ct at hl
  unfold sp_aw
  have l1 := e s (sp_by x 24)
  have l2 := e (sp_ad s (sp_by x 24)) (sp_by x 16)
  have l3 := e (sp_ad (sp_ad s (sp_by x 24)) (sp_by x 16)) (sp_by x 8)
  have l4 := e (sp_ad (sp_ad (sp_ad s (sp_by x 24)) (sp_by x 16)) (sp_by x 8)) (sp_by x 0)
  have h1 := ad_ok h (hb 24) (by omega)
  have h2 := ad_ok h1 (hb 16) (by omega)
  have h3 := ad_ok h2 (hb 8) (by omega)
  have h4 := ad_ok h3 (hb 0) (by omega)
  exact ⟨h4, by unfold sp_ct; omega⟩
theorem a5_ok {s : Nat × (Nat → Nat)} {x : Nat → Int32} (h : tp_ok s.1 s.2) (hl : s.1 + sp_c5 x ≤ 240) : tp_ok (sp_a5 s x).1 (sp_a5 s x).2 := by
  unfold sp_c5 at hl
  unfold sp_a5
  obtain ⟨h1, e1⟩ := aw_ok (x := x 0) h (by omega)
  obtain ⟨h2, e2⟩ := aw_ok (x := x 1) h1 (by omega)
  obtain ⟨h3, e3⟩ := aw_ok (x := x 2) h2 (by omega)
  obtain ⟨h4, e4⟩ := aw_ok (x := x 3) h3 (by omega)
  exact (aw_ok (x := x 4) h4 (by omega)).1
theorem relc_re (h : rel_c (tp, w, st, rf, o) u I R) (hok : rel_ok (tp, w, st, rf, o)) (hf : am_fr (fun a _ _ => a = 30) I J) (g : rc_at J rf') : rel_c (tp, w, st, rf', o) u J R := relc_sm h hok (fr_mo hf fun a b j w => Or.inl w) (tc_fr h.2.1.1 hf (fun w => by omega) (fun j w => by omega)) ((hf _ _ _ (by omega)).trans h.2.1.2.2.2.2.1) g
theorem relm_re (h : rel_m (tp, w, st, rf, o) I) (hok : rel_ok (tp, w, st, rf, o)) (hf : am_fr (fun a _ _ => a = 61) I J) (g : rm_at J rf') : rel_m (tp, w, st, rf', o) J := relm_sm h hok (fr_mo hf fun a b j w => Or.inl w) (tm_fr h.1.1 hf (fun w => by omega) (fun j w => by omega)) ((hf _ _ _ (by omega)).trans h.1.2.2.1) g
end
section
variable {s : zSt} {x y z : Int32}
theorem op_stirs (hok : rel_ok s) : op1 121 232 [.int x] s := by
  obtain ⟨tp, w, st, rf, o⟩ := s
  have key : ∃ st', (if (nI 0 ≤ x ∧ x ≤ nI 9) ∧ ¬ x = nI st then x else nI st) = nI st' ∧ st' ≤ 9 := by
    by_cases e : (nI 0 ≤ x ∧ x ≤ nI 9) ∧ ¬ x = nI st
    · obtain ⟨c, hc, rfl⟩ := in_nat (by decide) e.1
      exact ⟨c, by rw [if_pos e], hc⟩
    · exact ⟨st, by rw [if_neg e], hok.2.2.1⟩
  obtain ⟨st', e1, e2⟩ := key
  refine ⟨if (nI 0 ≤ x ∧ x ≤ nI 9) ∧ ¬ x = nI st then nI 1 else nI 0, (tp, w, st', rf, o), fun d u I R Q h => ?_, fun d I R Q hr h => ?_, ⟨hok.1, hok.2.1, e2, hok.2.2.2⟩⟩
  · obtain ⟨J, g1, g2, g3⟩ := c_stirs (d := d + 89) (R := R) (Q := Q) (x := x) h.2.1.2.2.2.2.1
    rw [e1] at g3
    exact ⟨J, R, u, g1, fr_mo g2 fun a b j w => by unfold clS; omega, relc_sm h hok (fr_mo g2 fun a b j w => Or.inr (Or.inl w)) (tc_fr h.2.1.1 g2 (fun w => by omega) (fun j w => by omega)) g3 (fun i hi => (g2 _ _ _ (by omega)).trans (h.2.1.2.2.2.2.2.1 i hi)), fun _ _ _ _ => rfl⟩
  · obtain ⟨J, g1, g2, g3⟩ := m_stirs (d := d + 89) (R := R) (Q := Q) (x := x) h.1.2.2.1
    rw [e1] at g3
    exact ⟨J, Q, g1, fr_mo g2 fun a b j w => by unfold mdS; omega, relm_sm h hok (fr_mo g2 fun a b j w => by unfold sM; omega) (tm_fr h.1.1 g2 (fun w => by omega) (fun j w => by omega)) g3 (fun i hi => (g2 _ _ _ (by omega)).trans (h.1.2.2.2 i hi)), fun _ _ _ _ => rfl⟩
theorem op_end (hok : rel_ok s) : op1 99 162 [.int y] s := by
  obtain ⟨tp, w, st, rf, o⟩ := s
  by_cases e : 0 ≤ y ∧ y ≤ nI tp.1
  · have key : tp_ok y.toNatClampNeg tp.2 := by
      have h240 := hok.1.1
      obtain ⟨c, hc, rfl⟩ := in_nat0 (show tp.1 < 2 ^ 31 by have : tp.1 ≤ 240 := h240; omega) e
      have h240 : tp.1 ≤ 240 := h240
      rw [nI_clamp (by omega)]
      have hc' : c ≤ tp.1 := hc
      exact ⟨by omega, fun i hi => hok.1.2 i (show i < tp.1 by omega)⟩
    refine ⟨if 0 ≤ y ∧ y ≤ nI tp.1 then nI 1 else nI 0, ((y.toNatClampNeg, tp.2), w, st, rf, o), fun d u I R Q h => ?_, fun d I R Q hr h => ?_, ⟨key, hok.2.1, hok.2.2.1, hok.2.2.2⟩⟩
    · obtain ⟨J, g1, g2, g3, g4⟩ := c_end (d := d + 90) (R := R) (Q := Q) (y := y) (rF_11 h.1.1).2.1 hok.1 h.2.1.1
      exact ⟨J, R, u, g1, fr_mo g2 fun a b j w => by unfold tf_S at w; unfold clS; omega, relc_sm h hok (fr_mo g2 fun a b j w => by unfold tf_S at w; unfold sC; omega) (g4 e).1 ((g2 _ _ _ (fun w => by unfold tf_S at w; omega)).trans h.2.1.2.2.2.2.1) (fun i hi => (g2 _ _ _ (fun w => by unfold tf_S at w; omega)).trans (h.2.1.2.2.2.2.2.1 i hi)), fun _ _ _ _ => rfl⟩
    · obtain ⟨J, g1, g2, g3, g4⟩ := m_end (d := d + 90) (R := R) (Q := Q) (y := y) hok.1 h.1.1
      exact ⟨J, Q, g1, fr_mo g2 fun a b j w => by unfold tg_S at w; unfold mdS; omega, relm_sm h hok (fr_mo g2 fun a b j w => by unfold tg_S at w; unfold sM; omega) (g4 e) ((g2 _ _ _ (fun w => by unfold tg_S at w; omega)).trans h.1.2.2.1) (fun i hi => (g2 _ _ _ (fun w => by unfold tg_S at w; omega)).trans (h.1.2.2.2 i hi)), fun _ _ _ _ => rfl⟩
  · refine op_k (v := if 0 ≤ y ∧ y ≤ nI tp.1 then nI 1 else nI 0) hok (fun d u I R Q h => ?_) (fun d I R Q hr h => ?_)
    · obtain ⟨J, g1, g2, g3, g4⟩ := c_end (d := d + 90) (R := R) (Q := Q) (y := y) (rF_11 h.1.1).2.1 hok.1 h.2.1.1
      obtain rfl := g3 e
      exact g1
    · obtain ⟨J, g1, g2, g3, g4⟩ := m_end (d := d + 90) (R := R) (Q := Q) (y := y) hok.1 h.1.1
      obtain rfl := g3 e
      exact g1
theorem op_feed (hok : rel_ok s) {X : Nat → Int32} : op1 97 161 [.int (X 0), .int (X 1), .int (X 2), .int (X 3), .int (X 4)] s := by
  obtain ⟨tp, w, st, rf, o⟩ := s
  by_cases e : 240 < tp.1 + sp_c5 X
  · refine op_k (v := if 240 < tp.1 + sp_c5 X then -nI 1 else nI (sp_a5 tp X).1) hok (fun d u I R Q h => ?_) (fun d I R Q hr h => ?_)
    · obtain ⟨J, g1, g2, g3, g4⟩ := c_feed (d := d + 89) (R := R) (Q := Q) (x := X) (rF_11 h.1.1).2.1 (rF_zc h.1.1).1 hok.1 h.2.1.1
      obtain rfl := g3 e
      exact g1
    · obtain ⟨J, g1, g2, g3, g4⟩ := m_feed (d := d + 89) (R := R) (Q := Q) (x := X) hr hok.1 h.1.1
      obtain rfl := g3 e
      exact g1
  · have key : tp_ok (sp_a5 tp X).1 (sp_a5 tp X).2 := a5_ok hok.1 (by omega)
    refine ⟨if 240 < tp.1 + sp_c5 X then -nI 1 else nI (sp_a5 tp X).1, (sp_a5 tp X, w, st, rf, o), fun d u I R Q h => ?_, fun d I R Q hr h => ?_, ⟨key, hok.2.1, hok.2.2.1, hok.2.2.2⟩⟩
    · obtain ⟨J, g1, g2, g3, g4⟩ := c_feed (d := d + 89) (R := R) (Q := Q) (x := X) (rF_11 h.1.1).2.1 (rF_zc h.1.1).1 hok.1 h.2.1.1
      exact ⟨J, R, u, g1, fr_mo g2 fun a b j w => by unfold tf_S at w; unfold clS; omega, relc_sm h hok (fr_mo g2 fun a b j w => by unfold tf_S at w; unfold sC; omega) (g4 e).1 ((g2 _ _ _ (fun w => by unfold tf_S at w; omega)).trans h.2.1.2.2.2.2.1) (fun i hi => (g2 _ _ _ (fun w => by unfold tf_S at w; omega)).trans (h.2.1.2.2.2.2.2.1 i hi)), fun _ _ _ _ => rfl⟩
    · obtain ⟨J, g1, g2, g3, g4⟩ := m_feed (d := d + 89) (R := R) (Q := Q) (x := X) hr hok.1 h.1.1
      exact ⟨J, Q, g1, fr_mo g2 fun a b j w => by unfold tg_S at w; unfold mdS; omega, relm_sm h hok (fr_mo g2 fun a b j w => by unfold tg_S at w; unfold sM; omega) (g4 e) ((g2 _ _ _ (fun w => by unfold tg_S at w; omega)).trans h.1.2.2.1) (fun i hi => (g2 _ _ _ (fun w => by unfold tg_S at w; omega)).trans (h.1.2.2.2 i hi)), fun _ _ _ _ => rfl⟩
end
