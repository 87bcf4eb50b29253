/-! TEXT of a LAW: the model's relation. -/
theorem law_fr {I J : am_I} {i : Nat} {K : zl_K} (h : zm_law I i K) (e : ∀ a j, 43 ≤ a → a ≤ 49 → J a 0 j = I a 0 j) : zm_law J i K := by
  obtain ⟨⟨a1, a2⟩, b1, b2⟩ := h
  exact ⟨⟨(e _ _ (by omega) (by omega)).trans a1, fun j hj => ⟨(e _ _ (by omega) (by omega)).trans (a2 j hj).1, (e _ _ (by omega) (by omega)).trans (a2 j hj).2⟩⟩, (e _ _ (by omega) (by omega)).trans b1, fun j hj => ⟨(e _ _ (by omega) (by omega)).trans (b2 j hj).1, (e _ _ (by omega) (by omega)).trans (b2 j hj).2.1, (e _ _ (by omega) (by omega)).trans (b2 j hj).2.2⟩⟩
theorem take_m {tp : Nat × (Nat → Nat)} {c : Nat} {Ks : Nat → zl_K} {p : Option Nat} {st : Nat} {rf : Nat → Int32} {o : Option zLu} {I J X : am_I} {K : zl_K} (h : rel_m (tp, (c, Ks, p), st, rf, o) I) (hok : rel_ok (tp, (c, Ks, p), st, rf, o)) (hJ : am_fr (zR_S c) I J) (k1 : zm_law J c K) (hX : am_fr (fun a b j => a = 12 ∧ b = 0 ∧ (j = 2 ∨ j = 13)) J X) (x1 : X 12 0 2 = nI 0) (x2 : X 12 0 13 = nI (c + 1)) : rel_m ((0, tp.2), (c + 1, zKs Ks c K, p), st, rf, o) X := by
  have hlm : am_fr lmS I X := fr_tr (fr_mo hJ fun a b j w => zR_lm w) (fr_mo hX fun a b j w => by unfold lmS; omega)
  obtain ⟨⟨y1, y2, y7, y8⟩, hl⟩ := h
  have hwJ : w_m J (c, Ks, p) := wm_fr y2 hok.2.1 (fr_mo hJ fun a b j w => (zR_f (Nat.le_refl _) w).1)
  have e43 : ∀ a j, 43 ≤ a → a ≤ 49 → X a 0 j = J a 0 j := fun a j h1 h2 => hX _ _ _ (by omega)
  refine ⟨⟨⟨x1, fun i hi => absurd hi (Nat.not_lt_zero _)⟩, ⟨x2, (hX _ _ _ (by omega)).trans hwJ.2.1, fun i hi => ?_⟩, (hlm _ _ _ (lmS_no (by omega))).trans y7, fun i hi => (hlm _ _ _ (lmS_no (by omega))).trans (y8 i hi)⟩, relmo_fr hl hlm⟩
  have hi : i < c + 1 := hi
  show zm_law X i (if i = c then K else Ks i)
  by_cases e : i = c
  · rw [if_pos e, e]; exact law_fr k1 e43
  · rw [if_neg e]
    exact law_fr (hwJ.2.2 i (show i < c by omega)) e43
