/-! TEXT of a LAW: both sides. -/
section
variable {s : zSt}
theorem zc_lw {a b j : Nat} (h : zc_S a b j) : lwS a b j := by
  unfold zc_S at h
  unfold lwS
  omega
theorem tk_lw {c a b j : Nat} (h : tkS c a b j) : lwS a b j := by
  unfold tkS la_S at h
  unfold lwS
  omega
theorem lw_cl {a b j : Nat} (h : lwS a b j) : clS a b j := by
  unfold lwS at h
  unfold clS
  omega
theorem zR_lm {n a b j : Nat} (h : zR_S n a b j) : lmS a b j := by
  unfold zR_S zr_S zm_S at h
  unfold lmS
  omega
/-- one LAW more -/
def zKs (Ks : Nat → zl_K) (c : Nat) (K : zl_K) : Nat → zl_K := fun i => if i = c then K else Ks i
theorem take_c {tp : Nat × (Nat → Nat)} {c : Nat} {Ks : Nat → zl_K} {p : Option Nat} {st : Nat} {rf : Nat → Int32} {o : Option zLu} {u : Nat} {I X : am_I} {R : am_R} {K : zl_K} (h : rel_c (tp, (c, Ks, p), st, rf, o) u I R) (hok : rel_ok (tp, (c, Ks, p), st, rf, o)) (hc : c < 4) (hf : am_fr (fun a b j => zc_S a b j ∨ tkS c a b j) I X) (h1 : lw_at X (c + 1) ((zl_cls K).map zl_c)) (h2 : X 11 0 4 = nI (c + 1)) (h3 : X 10 0 1 = nI 0) : rel_c ((0, tp.2), (c + 1, zKs Ks c K, p), st, rf, o) u X R := by
  have hw : am_fr lwS I X := fr_mo hf fun a b j w => w.elim zc_lw tk_lw
  have zz : ∀ {a b j}, ¬ (a = 3 ∨ a = 27 ∨ a = 10 ∨ (a = 11 ∧ (j = 4 ∨ j = 5))) → X a b j = I a b j := fun {a b j} ha => hw a b j ha
  obtain ⟨hR, ⟨y1, y2, y3, ⟨y4, y5, y6⟩, y7, y8, y9⟩, hl⟩ := h
  refine ⟨hR, ⟨⟨h3, fun i hi => absurd hi (Nat.not_lt_zero _)⟩, st_fr y2 hw (fun a b => lwS_no (by omega)), sx_fr y3 hw (fun a j _ _ => lwS_no (by omega)), ⟨h2, (hf _ _ _ (fun w => by unfold zc_S tkS la_S at w; omega)).trans y5, fun i hi => ?_⟩, (zz (by omega)).trans y7, fun i hi => (zz (by omega)).trans (y8 i hi), fun v hv => ⟨(zz (by omega)).trans (y9 v hv).1, (zz (by omega)).trans (y9 v hv).2⟩⟩, relo_fr hok.2.2.2 hl hw⟩
  have hi : i < c + 1 := hi
  show lw_at X (i + 1) ((zl_cls (if i = c then K else Ks i)).map zl_c)
  by_cases e : i = c
  · rw [if_pos e, e]; exact h1
  · rw [if_neg e]
    exact lw_fr (y6 i (show i < c by omega)) hf (fun w => by unfold zc_S tkS la_S at w; omega) (fun j w => by unfold zc_S tkS la_S at w; omega)
end
