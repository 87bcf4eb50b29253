/-! The relation behind a call that changes something. -/
def uC (u : Nat) : Nat → Nat → Nat → Prop := fun a b j => fC u a b j ∨ hc_S a b j ∨ ic_S a b j ∨ (na_S 0 a b j ∨ na_S 1 a b j) ∨ (a = 30 ∨ (a = 11 ∧ j = 6)) ∨ tf_S a b j
def uM (n : Nat) : Nat → Nat → Nat → Prop := fun a b j => fM n a b j ∨ (a = 60 ∨ a = 63 ∨ a = 71 ∨ a = 61 ∨ a = 42 ∨ (65 ≤ a ∧ a ≤ 69)) ∨ (a = 12 ∧ (j = 37 ∨ j = 52 ∨ j = 43 ∨ j = 49 ∨ j = 34 ∨ j = 2 ∨ j = 30))
section
variable {tp tp' : Nat × (Nat → Nat)} {w : zLw} {st st' : Nat} {rf rf' : Nat → Int32} {E : zE} {k k' : Nat} {PK PK' : Nat → Nat → Nat → Int32} {tk tk' : Nat → Nat} {EL EL' : Nat → Nat → Int32} {im im' : Option ((Nat → Nat → Int32) × Nat × (Nat → Nat → Int32))} {k0 k1 k0' k1' : Nat} {N0 N1 N0' N1' : Nat → Nat → Nat} {u : Nat} {I J : am_I} {R : am_R} {Q : am_Q} {o : Option zLu}
theorem uC_of {a b j : Nat} (h : uC u a b j) : ¬ (a = 2 ∨ a = 4 ∨ a = 5 ∨ (a = 8 ∧ ¬ j = 4) ∨ a = 29 ∨ a = 33 ∨ a = 34 ∨ 100 ≤ a) ∧ (a = 11 → j = 15 ∨ j = 6) ∧ (a = 3 → j = 3 ∨ b = 0) ∧ (a = 27 → b = 0) ∧ (a = 6 → j = 7 ∨ j = 8 ∨ ¬ b = u) ∧ ((a = 9 ∨ (19 ≤ a ∧ a ≤ 22)) → b ≤ 11 ∧ ¬ b = u ∨ 2 ≤ b) ∧ (a = 9 → b < 2 → j = 4) ∧ ((14 ≤ a ∧ a ≤ 18) → ¬ b = u) := by
  unfold uC fC hc_S ic_S na_S tf_S at h
  omega
theorem uM_of {n a b j : Nat} (h : uM n a b j) : ¬ (56 ≤ a ∧ a ≤ 59) ∧ (a = 12 → ¬ (j = 28 ∨ j = 29 ∨ j = 13 ∨ j = 33)) ∧ (a = 43 ∨ a = 44 → 520 * n ≤ j) ∧ (a = 45 ∨ a = 46 → n ≤ j) ∧ (a = 47 ∨ a = 48 ∨ a = 49 → 140 * n ≤ j) := by
  unfold uM fM at h
  omega
theorem relc_up (h : rel_c (tp, w, st, rf, some (E, k, PK, tk, EL, im, (k0, N0), (k1, N1))) u I R) (hok : rel_ok (tp, w, st, rf, some (E, k, PK, tk, EL, im, (k0, N0), (k1, N1)))) (hf : am_fr (uC u) I J) (a1 : tc_at J tp'.1 tp'.2) (a5 : J 11 0 6 = nI st') (a6 : rc_at J rf') (b6 : ∃ f lo, hc_at J k' PK' tk' f lo EL') (b7 : zc_im J im') (b8 : nt_at J 0 k0' N0') (b9 : nt_at J 1 k1' N1') : rel_c (tp', w, st', rf', some (E, k', PK', tk', EL', im', (k0', N0'), (k1', N1'))) u J R := by
  obtain ⟨hR, ⟨x1, x2, x3, x4, x5, x6, x7⟩, ⟨l1, l2, l3, l4, l5⟩, -⟩ := h
  have hu := hR.2.1
  have z0 : ∀ a b j, (a = 2 ∨ a = 4 ∨ a = 5 ∨ (a = 8 ∧ ¬ j = 4) ∨ a = 29 ∨ a = 33 ∨ a = 34 ∨ 100 ≤ a) → ¬ uC u a b j := fun a b j ha h => (uC_of h).1 ha
  have zu : ∀ a j, (14 ≤ a ∧ a ≤ 18) → ¬ uC u a u j := fun a j ha h => (uC_of h).2.2.2.2.2.2.2 ha rfl
  have z11 : ∀ j, ¬ (j = 15 ∨ j = 6) → ¬ uC u 11 0 j := fun j hj h => hj ((uC_of h).2.1 rfl)
  refine ⟨hR, ⟨a1, st_fr x2 hf (fun a b => z0 _ _ _ (by omega)), sx_fr x3 hf (fun a j _ _ => z0 _ _ _ (by omega)), w_fr' x4 hok.2.1 hf (z11 _ (by decide)) (z11 _ (by decide)) (fun v h1 h2 h => by have := (uC_of h).2.2.1 rfl; omega) (fun v j h1 h2 h => by have := (uC_of h).2.2.2.1 rfl; omega), a5, a6, fun v hv => ⟨(hf _ _ _ (fun h => by have := (uC_of h).2.2.2.2.2.2.1 rfl hv; omega)).trans (x7 v hv).1, (hf _ _ _ (fun h => by have := (uC_of h).2.2.2.2.2.2.1 rfl hv; omega)).trans (x7 v hv).2⟩⟩, ⟨fun j hj => (hf _ _ _ (zu _ _ (by omega))).trans (l1 j hj), bs_fr l2 hf (fun j => zu _ _ (by omega)), fun c hc => (hf _ _ _ (zu _ _ (by omega))).trans (l3 c hc), pl_fr l4 hf (fun a j ha h => by have := (uC_of h).2.2.2.2.2.1 (by omega); omega), ds_fr l5 hf (fun h => by have := (uC_of h).2.2.2.2.1 rfl; omega) (fun j => zu _ _ (by omega)) (fun j => zu _ _ (by omega))⟩, b6, b7, b8, b9⟩
theorem wm_up {w : zLw} (h : w_m I w) (hok : w_ok w) (hf : am_fr (uM w.1) I J) : w_m J w := by
  obtain ⟨h1, h2, h3⟩ := h
  obtain ⟨k1, k2, k3⟩ := hok
  refine ⟨(hf _ _ _ (fun v => by have := (uM_of v).2.1 rfl; omega)).trans h1, (hf _ _ _ (fun v => by have := (uM_of v).2.1 rfl; omega)).trans h2, fun i hi => ?_⟩
  obtain ⟨⟨a1, a2⟩, b1, b2⟩ := h3 i hi
  obtain ⟨o1, o2⟩ := k2 i hi
  have hlen := cls_len _ o1
  exact ⟨⟨(hf _ _ _ (fun v => by have := (uM_of v).2.2.2.1 (Or.inl rfl); omega)).trans a1, fun j hj => ⟨(hf _ _ _ (fun v => by have := (uM_of v).2.2.1 (Or.inl rfl); omega)).trans (a2 j hj).1, (hf _ _ _ (fun v => by have := (uM_of v).2.2.1 (Or.inr rfl); omega)).trans (a2 j hj).2⟩⟩, (hf _ _ _ (fun v => by have := (uM_of v).2.2.2.1 (Or.inr rfl); omega)).trans b1, fun j hj => ⟨(hf _ _ _ (fun v => by have := (uM_of v).2.2.2.2 (Or.inl rfl); omega)).trans (b2 j hj).1, (hf _ _ _ (fun v => by have := (uM_of v).2.2.2.2 (Or.inr (Or.inl rfl)); omega)).trans (b2 j hj).2.1, (hf _ _ _ (fun v => by have := (uM_of v).2.2.2.2 (Or.inr (Or.inr rfl)); omega)).trans (b2 j hj).2.2⟩⟩
theorem relm_up (h : rel_m (tp, w, st, rf, some (E, k, PK, tk, EL, im, (k0, N0), (k1, N1))) I) (hok : rel_ok (tp, w, st, rf, some (E, k, PK, tk, EL, im, (k0, N0), (k1, N1)))) (hf : am_fr (uM w.1) I J) (a1 : tm_at J tp'.1 tp'.2) (a5 : J 12 0 34 = nI st') (a6 : rm_at J rf') (b6 : hm_at J (zn E) k' PK' tk' EL') (b7 : zm_im J im') (b8 : mn_at J k0' N0') (b9 : ms_at J k1' N1') : rel_m (tp', w, st', rf', some (E, k', PK', tk', EL', im', (k0', N0'), (k1', N1'))) J := by
  obtain ⟨⟨x1, x2, x3, x4⟩, ⟨l1, l2, l3, l4⟩, -⟩ := h
  have z5 : ∀ a j, (56 ≤ a ∧ a ≤ 59) → J a 0 j = I a 0 j := fun a j ha => hf _ _ _ (fun v => (uM_of v).1 ha)
  have z12 : ∀ j, (j = 28 ∨ j = 29) → J 12 0 j = I 12 0 j := fun j hj => hf _ _ _ (fun v => by have := (uM_of v).2.1 rfl; omega)
  obtain ⟨c1, c2, c3, c4, c5, c6⟩ := l3
  exact ⟨⟨a1, wm_up x2 hok.2.1 hf, a5, a6⟩, ⟨fun j hj => (z5 _ _ (by omega)).trans (l1 j hj), fun c hc => (z5 _ _ (by omega)).trans (l2 c hc), ⟨(z12 _ (by omega)).trans c1, c2, c3, c4, fun j hj => ⟨(z5 _ _ (by omega)).trans (c5 j hj).1, (z5 _ _ (by omega)).trans (c5 j hj).2.1, (z5 _ _ (by omega)).trans (c5 j hj).2.2.1, (z5 _ _ (by omega)).trans (c5 j hj).2.2.2⟩, c6⟩, ⟨(z12 _ (by omega)).trans l4.1, fun i hi => ⟨(z5 _ _ (by omega)).trans (l4.2 i hi).1, (z5 _ _ (by omega)).trans (l4.2 i hi).2⟩⟩⟩, b6, b7, b8, b9⟩
/-- what is small: TAPE, STIRS, STATUS -/
def sC : Nat → Nat → Nat → Prop := fun a _ j => a = 30 ∨ (a = 11 ∧ j = 6) ∨ a = 13 ∨ (a = 10 ∧ j = 1)
def sM : Nat → Nat → Nat → Prop := fun a _ j => a = 61 ∨ a = 42 ∨ (a = 12 ∧ (j = 34 ∨ j = 2))
theorem relc_sm (h : rel_c (tp, w, st, rf, o) u I R) (hok : rel_ok (tp, w, st, rf, o)) (hf : am_fr sC I J) (a1 : tc_at J tp'.1 tp'.2) (a5 : J 11 0 6 = nI st') (a6 : rc_at J rf') : rel_c (tp', w, st', rf', o) u J R := by
  have zz : ∀ {a b j}, ¬ (a = 30 ∨ (a = 11 ∧ j = 6) ∨ a = 13 ∨ (a = 10 ∧ j = 1)) → J a b j = I a b j := fun {a b j} ha => hf a b j ha
  cases o with
  | none =>
    obtain ⟨hR, ⟨x1, x2, x3, x4, x5, x6, x7⟩, n1, ⟨g, g1, g2⟩, n3, n4, n5, n6, n7⟩ := h
    exact ⟨hR, ⟨a1, st_fr x2 hf (fun a b w => by unfold sC at w; omega), sx_fr x3 hf (fun a j _ _ w => by unfold sC at w; omega), w_fr' x4 hok.2.1 hf (fun w => by unfold sC at w; omega) (fun w => by unfold sC at w; omega) (fun v _ _ w => by unfold sC at w; omega) (fun v j _ _ w => by unfold sC at w; omega), a5, a6, fun v hv => ⟨(zz (by omega)).trans (x7 v hv).1, (zz (by omega)).trans (x7 v hv).2⟩⟩, pl_fr n1 hf (fun a j ha w => by unfold sC at w; omega), ⟨g, g1, (zz (by omega)).trans g2⟩, (zz (by omega)).trans n3, (zz (by omega)).trans n4, (zz (by omega)).trans n5, (zz (by omega)).trans n6, (zz (by omega)).trans n7⟩
  | some l =>
    obtain ⟨E, k, PK, tk, EL, im, ⟨k0, N0⟩, k1, N1⟩ := l
    have L := get_l hok
    have hk := L.k40
    refine relc_up h hok (fr_mo hf fun a b j w => ?_) a1 a5 a6 ?_ ?_ ?_ ?_
    · unfold sC at w; unfold uC tf_S; omega
    · obtain ⟨f, lo, h6⟩ := h.2.2.2.1
      exact ⟨f, lo, hc_fr hk h6 hf (fun w => by unfold sC at w; omega) (fun w => by unfold sC at w; omega) (fun a b j ha h1 h2 w => by unfold sC at w; omega) (fun a j ha w => by unfold sC at w; omega)⟩
    · exact ci_fr h.2.2.2.2.1 hf (fun w => by unfold sC at w; omega) (fun a j ha w => by unfold sC at w; omega) (fun a j ha w => by unfold sC at w; omega)
    · exact nt_fr h.2.2.2.2.2.1 hf (fun w => by unfold sC at w; omega) (fun a i ha w => by unfold sC at w; omega)
    · exact nt_fr h.2.2.2.2.2.2 hf (fun w => by unfold sC at w; omega) (fun a i ha w => by unfold sC at w; omega)
theorem hm_fr {Z : Nat → Nat → Nat → Prop} {n : Nat} (h : hm_at I n k PK tk EL) (hf : am_fr Z I J) (h1 : ¬ Z 12 0 30) (h2 : ¬ Z 12 0 37) (h3 : ∀ a j, (a = 60 ∨ a = 63) → ¬ Z a 0 j) : hm_at J n k PK tk EL := ⟨(hf _ _ _ h1).trans h.1, (hf _ _ _ h2).trans h.2.1, fun j hj => sn_cp (h.2.2.1 j hj) (fun i _ => hf _ _ _ (h3 _ _ (by omega))), sn_cp h.2.2.2 (fun i _ => hf _ _ _ (h3 _ _ (by omega)))⟩
theorem mi_fr {Z : Nat → Nat → Nat → Prop} (h : zm_im I im) (hf : am_fr Z I J) (h1 : ¬ Z 12 0 52) (h2 : ∀ j, ¬ Z 71 0 j) : zm_im J im := by
  match im, h with
  | none, h => exact (hf _ _ _ h1).trans h
  | some (P, t, e), ⟨a, b⟩ => exact ⟨(hf _ _ _ h1).trans a, sn_cp b fun i _ => hf _ _ _ (h2 _)⟩
theorem mn_fr {Z : Nat → Nat → Nat → Prop} (h : mn_at I k0 N0) (hf : am_fr Z I J) (h1 : ¬ Z 12 0 43) (h2 : ∀ a j, (a = 65 ∨ a = 66) → ¬ Z a 0 j) : mn_at J k0 N0 := ⟨(hf _ _ _ h1).trans h.1, fun i hi => ⟨(hf _ _ _ (h2 _ _ (by omega))).trans (h.2 i hi).1, (hf _ _ _ (h2 _ _ (by omega))).trans (h.2 i hi).2⟩⟩
theorem relm_sm (h : rel_m (tp, w, st, rf, o) I) (hok : rel_ok (tp, w, st, rf, o)) (hf : am_fr sM I J) (a1 : tm_at J tp'.1 tp'.2) (a5 : J 12 0 34 = nI st') (a6 : rm_at J rf') : rel_m (tp', w, st', rf', o) J := by
  have zz : ∀ {a b j}, ¬ (a = 61 ∨ a = 42 ∨ (a = 12 ∧ (j = 34 ∨ j = 2))) → J a b j = I a b j := fun {a b j} ha => hf a b j ha
  have hu : am_fr (uM w.1) I J := fr_mo hf fun a b j w => by unfold sM at w; unfold uM; omega
  cases o with
  | none =>
    obtain ⟨⟨x1, x2, x3, x4⟩, n1, n2, n3, n4, n5, n6, n7, n8⟩ := h
    exact ⟨⟨a1, wm_up x2 hok.2.1 hu, a5, a6⟩, (zz (by omega)).trans n1, fun j hj => (zz (by omega)).trans (n2 j hj), (zz (by omega)).trans n3, (zz (by omega)).trans n4, (zz (by omega)).trans n5, (zz (by omega)).trans n6, (zz (by omega)).trans n7, (zz (by omega)).trans n8⟩
  | some l =>
    obtain ⟨E, k, PK, tk, EL, im, ⟨k0, N0⟩, k1, N1⟩ := l
    refine relm_up h hok hu a1 a5 a6 ?_ ?_ ?_ ?_
    · exact hm_fr h.2.2.1 hf (fun w => by unfold sM at w; omega) (fun w => by unfold sM at w; omega) (fun a j ha w => by unfold sM at w; omega)
    · exact mi_fr h.2.2.2.1 hf (fun w => by unfold sM at w; omega) (fun j w => by unfold sM at w; omega)
    · exact mn_fr h.2.2.2.2.1 hf (fun w => by unfold sM at w; omega) (fun a j ha w => by unfold sM at w; omega)
    · exact ms_fr h.2.2.2.2.2 hf (fun w => by unfold sM at w; omega) (fun a j ha w => by unfold sM at w; omega)
end
