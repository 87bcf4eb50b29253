/-! The relation: the model's frame. -/
section
variable {I J : am_I} {R : am_R} {u n k : Nat} {s : zSt} {Z : Nat → Nat → Nat → Prop} {w : zLw} {PK : Nat → Nat → Nat → Int32} {tk : Nat → Nat} {EL : Nat → Nat → Int32} {im : Option ((Nat → Nat → Int32) × Nat × (Nat → Nat → Int32))} {N : Nat → Nat → Nat}
theorem fM_of {a b j : Nat} (h : fM n a b j) : ¬ (a = 42 ∨ (56 ≤ a ∧ a ≤ 61) ∨ a = 63 ∨ (65 ≤ a ∧ a ≤ 69) ∨ a = 71) ∧ (a = 12 → j = 0 ∨ (3 ≤ j ∧ j ≤ 5) ∨ j = 14 ∨ (21 ≤ j ∧ j ≤ 23) ∨ j = 40 ∨ j = 44 ∨ j = 45) ∧ (a = 43 ∨ a = 44 → 520 * n ≤ j) ∧ (a = 45 ∨ a = 46 → n ≤ j) ∧ (a = 47 ∨ a = 48 ∨ a = 49 → 140 * n ≤ j) := by
  unfold fM at h
  omega
theorem sn_fr {a off t : Nat} {P : Nat → Nat → Int32} (h : sn_at I a off P t EL) (hf : am_fr Z I J) (h1 : ∀ j, ¬ Z a 0 j) : sn_at J a off P t EL := sn_cp h fun i _ => hf _ _ _ (h1 _)
theorem wm_fr (h : w_m I w) (hok : w_ok w) (hf : am_fr (fM w.1) I J) : w_m J w := by
  obtain ⟨h1, h2, h3⟩ := h
  obtain ⟨k1, k2, k3⟩ := hok
  refine ⟨(hf _ _ _ (fun v => by have := (fM_of v).2.1 rfl; omega)).trans h1, (hf _ _ _ (fun v => by have := (fM_of v).2.1 rfl; omega)).trans h2, fun i hi => ?_⟩
  obtain ⟨⟨a1, a2⟩, b1, b2⟩ := h3 i hi
  obtain ⟨o1, o2⟩ := k2 i hi
  have hlen := cls_len _ o1
  exact ⟨⟨(hf _ _ _ (fun v => by have := (fM_of v).2.2.2.1 (Or.inl rfl); omega)).trans a1, fun j hj => ⟨(hf _ _ _ (fun v => by have := (fM_of v).2.2.1 (Or.inl rfl); omega)).trans (a2 j hj).1, (hf _ _ _ (fun v => by have := (fM_of v).2.2.1 (Or.inr rfl); omega)).trans (a2 j hj).2⟩⟩, (hf _ _ _ (fun v => by have := (fM_of v).2.2.2.1 (Or.inr rfl); omega)).trans b1, fun j hj => ⟨(hf _ _ _ (fun v => by have := (fM_of v).2.2.2.2 (Or.inl rfl); omega)).trans (b2 j hj).1, (hf _ _ _ (fun v => by have := (fM_of v).2.2.2.2 (Or.inr (Or.inl rfl)); omega)).trans (b2 j hj).2.1, (hf _ _ _ (fun v => by have := (fM_of v).2.2.2.2 (Or.inr (Or.inr rfl)); omega)).trans (b2 j hj).2.2⟩⟩
/-- the frame with the plate now, which stands as it did -/
def fM6 (n : Nat) : Nat → Nat → Nat → Prop := fun a b j => fM n a b j ∨ (a = 60 ∧ j < 102)
theorem rm12 {j : Nat} (hf : am_fr (fM6 n) I J) (h : ¬ (j = 0 ∨ (3 ≤ j ∧ j ≤ 5) ∨ j = 14 ∨ (21 ≤ j ∧ j ≤ 23) ∨ j = 40 ∨ j = 44 ∨ j = 45)) : J 12 0 j = I 12 0 j := hf _ _ _ (fun v => by
  rcases v with v | v
  · have := (fM_of v).2.1 rfl; omega
  · omega)
theorem rm_a {a j : Nat} (hf : am_fr (fM6 n) I J) (h : a = 42 ∨ (56 ≤ a ∧ a ≤ 59) ∨ a = 61 ∨ a = 63 ∨ (65 ≤ a ∧ a ≤ 69) ∨ a = 71) : J a 0 j = I a 0 j := hf _ _ _ (fun v => by
  rcases v with v | v
  · exact (fM_of v).1 (by omega)
  · omega)
theorem wm_fr6 (h : w_m I w) (hok : w_ok w) (hf : am_fr (fM6 w.1) I J) : w_m J w := by
  have hg : am_fr (fM w.1) I (fun a b j => if a = 60 then I a b j else J a b j) := fun a b j v => by
    by_cases e : a = 60
    · exact if_pos e
    · show (if a = 60 then I a b j else J a b j) = _
      rw [if_neg e]; exact hf _ _ _ (fun w => by
        rcases w with w | w
        · exact v w
        · omega)
  have hK := wm_fr h hok hg
  exact hK
theorem relm_fr6 (h : rel_m s I) (hok : rel_ok s) (hf : am_fr (fM6 s.2.1.1) I J) (h60 : match s.2.2.2.2 with
    | none => ∀ j, j < 102 → J 60 0 j = I 60 0 j
    | some l => mm_at J (l.2.2.1 l.2.1)) : rel_m s J := by
  obtain ⟨⟨x1, x2, x3, x4⟩, hl⟩ := h
  refine ⟨⟨⟨(rm12 hf (by omega)).trans x1.1, fun i hi => (rm_a hf (by omega)).trans (x1.2 i hi)⟩, wm_fr6 x2 hok.2.1 hf, (rm12 hf (by omega)).trans x3, fun i hi => (rm_a hf (by omega)).trans (x4 i hi)⟩, ?_⟩
  have z60 : ∀ j, 102 ≤ j → J 60 0 j = I 60 0 j := fun j hj => hf _ _ _ (fun v => by
    rcases v with v | v
    · exact (fM_of v).1 (by omega)
    · omega)
  obtain ⟨s1, s2, s3, s4, o⟩ := s
  cases o with
  | none =>
    obtain ⟨n1, n2, n3, n4, n5, n6, n7, n8⟩ := hl
    exact ⟨(rm12 hf (by omega)).trans n1, fun j hj => by
      by_cases e : j < 102
      · exact (h60 j e).trans (n2 j hj)
      · exact (z60 j (by omega)).trans (n2 j hj), (rm12 hf (by omega)).trans n3, (rm12 hf (by omega)).trans n4, (rm12 hf (by omega)).trans n5, (rm12 hf (by omega)).trans n6, (rm12 hf (by omega)).trans n7, (rm12 hf (by omega)).trans n8⟩
  | some l =>
    obtain ⟨E, k, PK, tk, EL, im, ⟨k0, N0⟩, k1, N1⟩ := l
    obtain ⟨⟨l1, l2, l3, l4⟩, ⟨m1, m2, m3, m4⟩, l7, l8, l9⟩ := hl
    have h60 : mm_at J (PK k) := h60
    refine ⟨⟨fun j hj => (rm_a hf (by omega)).trans (l1 j hj), fun c hc => (rm_a hf (by omega)).trans (l2 c hc), ?_, ⟨(rm12 hf (by omega)).trans l4.1, fun i hi => ⟨(rm_a hf (by omega)).trans (l4.2 i hi).1, (rm_a hf (by omega)).trans (l4.2 i hi).2⟩⟩⟩, ⟨(rm12 hf (by omega)).trans m1, (rm12 hf (by omega)).trans m2, fun j hj => sn_cp (m3 j hj) (fun i _ => rm_a hf (by omega)), sn_of m4 h60 (fun j h1 _ => z60 j h1)⟩, ?_, ⟨(rm12 hf (by omega)).trans l8.1, fun i hi => ⟨(rm_a hf (by omega)).trans (l8.2 i hi).1, (rm_a hf (by omega)).trans (l8.2 i hi).2⟩⟩, ⟨(rm12 hf (by omega)).trans l9.1, fun i hi => ⟨(rm_a hf (by omega)).trans (l9.2 i hi).1, (rm_a hf (by omega)).trans (l9.2 i hi).2.1, (rm_a hf (by omega)).trans (l9.2 i hi).2.2⟩⟩⟩
    · obtain ⟨b1, b2, b3, b4, b5, b6⟩ := l3
      exact ⟨(rm12 hf (by omega)).trans b1, b2, b3, b4, fun j hj => ⟨(rm_a hf (by omega)).trans (b5 j hj).1, (rm_a hf (by omega)).trans (b5 j hj).2.1, (rm_a hf (by omega)).trans (b5 j hj).2.2.1, (rm_a hf (by omega)).trans (b5 j hj).2.2.2⟩, b6⟩
    · match im, l7 with
      | none, l7 => exact (rm12 hf (by omega)).trans l7
      | some (P, t, e), ⟨a, b⟩ => exact ⟨(rm12 hf (by omega)).trans a, sn_cp b fun i _ => rm_a hf (by omega)⟩
theorem relm_fr (h : rel_m s I) (hok : rel_ok s) (hf : am_fr (fM s.2.1.1) I J) : rel_m s J := by
  have e60 : ∀ j, J 60 0 j = I 60 0 j := fun j => hf _ _ _ (fun v => (fM_of v).1 (by omega))
  refine relm_fr6 h hok (fr_mo hf fun a b j v => Or.inl v) ?_
  obtain ⟨s1, s2, s3, s4, o⟩ := s
  cases o with
  | none => exact fun j _ => e60 j
  | some l =>
    obtain ⟨E, k, PK, tk, EL, im, ⟨k0, N0⟩, k1, N1⟩ := l
    obtain ⟨-, ⟨m1, m2, m3, m4⟩, -⟩ := h.2
    have hI := (hok.2.2.2 _ rfl).2.1.2.1 k (Nat.le_refl _)
    have hI4 : PK k 4 0 = nI (zn E) := hI.1.1
    have hm := sn_mm m4 (m1.trans hI4.symm)
    exact mm_fr hm hf (fun j _ v => (fM_of v).1 (by omega)) (fun v => by have := (fM_of v).2.1 rfl; omega)
end
