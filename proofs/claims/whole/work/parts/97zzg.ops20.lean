/-! LAW: which holds. -/
section
variable {s : zSt} {x y : Int32}
/-- holding another LAW, or none -/
theorem law_c {tp : Nat × (Nat → Nat)} {c : Nat} {Ks : Nat → zl_K} {p p' : Option Nat} {st : Nat} {rf : Nat → Int32} {o : Option zLu} {u : Nat} {I : am_I} {R : am_R} (h : rel_c (tp, (c, Ks, p), st, rf, o) u I R) (hok : rel_ok (tp, (c, Ks, p), st, rf, o)) {v : Int32} (hv : v = (match p' with | none => -nI 1 | some l => nI l)) {r : Option Nat} (hr : r = p'.map (fun l => am_mk 3 (l + 1))) {X : am_I} (x1 : X 11 0 5 = v) (x2 : am_fr (fun a b j => a = 11 ∧ b = 0 ∧ j = 5) I X) : rel_c (tp, (c, Ks, p'), st, rf, o) u X (am_sR R 2 0 (am_uR (R 2 0) 1 r)) := by
  obtain ⟨⟨h1, h2, h3, h4, h5⟩, ⟨y1, y2, y3, ⟨y4, y5, y6⟩, y7, y8, y9⟩, hl⟩ := h
  have e : ∀ a b j, ¬ (a = 2 ∧ b = 0 ∧ j = 1) → am_sR R 2 0 (am_uR (R 2 0) 1 r) a b j = R a b j := fun a b j hh => by
    unfold am_sR am_uR
    by_cases q : a = 2 ∧ b = 0
    · rw [if_pos q]
      show (if j = 1 then r else R 2 0 j) = _
      rw [if_neg (fun w => hh ⟨q.1, q.2, w⟩), q.1, q.2]
    · rw [if_neg q]
  have zz : ∀ {a b j}, ¬ (a = 11 ∧ b = 0 ∧ j = 5) → X a b j = I a b j := fun {a b j} ha => x2 a b j ha
  have hc4 : c ≤ 4 := hok.2.1.1
  refine ⟨⟨rF_cg h1 (fun a b j n1 n2 => e a b j (fun w => n1 ⟨w.1, by omega⟩)), h2, (e _ _ _ (by decide)).trans h3, (e _ _ _ (by omega)).trans h4, ?_⟩, ⟨tc_fr y1 x2 (by decide) (fun j => by omega), st_fr y2 x2 (fun a b => by omega), sx_fr y3 x2 (fun a j h1 h2 => by omega), ⟨(zz (by decide)).trans y4, x1.trans hv, fun i hi => lw_fr (y6 i hi) x2 (by omega) (fun j => by omega)⟩, (zz (by decide)).trans y7, fun i hi => (zz (by omega)).trans (y8 i hi), fun v hv => ⟨(zz (by omega)).trans (y9 v hv).1, (zz (by omega)).trans (y9 v hv).2⟩⟩, relo_fr hok.2.2.2 hl (fr_mo x2 fun a b j w => Or.inr (Or.inr (Or.inr ⟨w.1, Or.inr w.2.2⟩)))⟩
  rw [← hr]
  unfold am_sR am_uR
  rw [if_pos ⟨rfl, rfl⟩]
  rfl
theorem law_m {tp : Nat × (Nat → Nat)} {c : Nat} {Ks : Nat → zl_K} {p p' : Option Nat} {st : Nat} {rf : Nat → Int32} {o : Option zLu} {I : am_I} (h : rel_m (tp, (c, Ks, p), st, rf, o) I) {v : Int32} (hv : v = (match p' with | none => -nI 1 | some l => nI l)) {X : am_I} (x1 : X 12 0 33 = v) (x2 : am_fr (fun a b j => a = 12 ∧ b = 0 ∧ j = 33) I X) : rel_m (tp, (c, Ks, p'), st, rf, o) X := by
  obtain ⟨⟨y1, ⟨y4, y5, y6⟩, y7, y8⟩, hl⟩ := h
  have zz : ∀ {a b j}, ¬ (a = 12 ∧ b = 0 ∧ j = 33) → X a b j = I a b j := fun {a b j} ha => x2 a b j ha
  refine ⟨⟨tm_fr y1 x2 (by decide) (fun j => by omega), ⟨(zz (by decide)).trans y4, x1.trans hv, fun i hi => ?_⟩, (zz (by decide)).trans y7, fun i hi => (zz (by omega)).trans (y8 i hi)⟩, relmo_fr hl (fr_mo x2 fun a b j w => Or.inr ⟨w.1, Or.inr (Or.inl w.2.2)⟩)⟩
  obtain ⟨⟨a1, a2⟩, b1, b2⟩ := y6 i hi
  exact ⟨⟨(zz (by omega)).trans a1, fun j hj => ⟨(zz (by omega)).trans (a2 j hj).1, (zz (by omega)).trans (a2 j hj).2⟩⟩, (zz (by omega)).trans b1, fun j hj => ⟨(zz (by omega)).trans (b2 j hj).1, (zz (by omega)).trans (b2 j hj).2.1, (zz (by omega)).trans (b2 j hj).2.2⟩⟩
end
