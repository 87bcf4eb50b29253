/-! LAW that holds. -/
theorem rF_cg {R R' : am_R} (h : rF R) (e : ∀ a b j, ¬ (a = 2 ∧ j < 2) → ¬ (a = 7 ∧ j = 1) → R' a b j = R a b j) : rF R' := by
  unfold rF pa_R ac_R pp_R lo_R nt_R zc_R tc_R lw_R mm_R at h ⊢
  simp (disch := omega) only [e]
  exact h
def rlo_c (u : Nat) (I : am_I) (o : Option zLu) : Prop := match o with
  | none => rn_c u I
  | some l => rl_c u I l
def rlo_m (I : am_I) (o : Option zLu) : Prop := match o with
  | none => rn_m I
  | some l => rl_m I l
/-- where LAWS are kept, and TAPE -/
def lwS : Nat → Nat → Nat → Prop := fun a _ j => a = 3 ∨ a = 27 ∨ a = 10 ∨ (a = 11 ∧ (j = 4 ∨ j = 5))
section
variable {u : Nat} {I J : am_I} {o : Option zLu}
theorem lwS_no {a b j : Nat} (h : ¬ (a = 3 ∨ a = 27 ∨ a = 10 ∨ (a = 11 ∧ (j = 4 ∨ j = 5)))) : ¬ lwS a b j := h
theorem relo_fr (ho : ∀ l, o = some l → rl_ok l) (h : rlo_c u I o) (hf : am_fr lwS I J) : rlo_c u J o := by
  have zz : ∀ {a b j}, ¬ (a = 3 ∨ a = 27 ∨ a = 10 ∨ (a = 11 ∧ (j = 4 ∨ j = 5))) → J a b j = I a b j := fun {a b j} ha => hf a b j ha
  cases o with
  | none =>
    obtain ⟨n1, ⟨g, g1, g2⟩, n3, n4, n5, n6, n7⟩ := h
    exact ⟨pl_fr n1 hf (fun a j ha => lwS_no (by omega)), ⟨g, g1, (zz (by omega)).trans g2⟩, (zz (by omega)).trans n3, (zz (by omega)).trans n4, (zz (by omega)).trans n5, (zz (by omega)).trans n6, (zz (by omega)).trans n7⟩
  | some l =>
    obtain ⟨E, k, PK, tk, EL, im, ⟨k0, N0⟩, k1, N1⟩ := l
    have hk : k ≤ 40 := (ho _ rfl).2.1.1
    obtain ⟨⟨l1, l2, l3, l4, l5⟩, ⟨f, lo, l6⟩, l7, l8, l9⟩ := h
    exact ⟨⟨fun j hj => (zz (by omega)).trans (l1 j hj), bs_fr l2 hf (fun j => lwS_no (by omega)), fun c hc => (zz (by omega)).trans (l3 c hc), pl_fr l4 hf (fun a j ha => lwS_no (by omega)), ds_fr l5 hf (lwS_no (by omega)) (fun j => lwS_no (by omega)) (fun j => lwS_no (by omega))⟩, ⟨f, lo, hc_fr hk l6 hf (lwS_no (by omega)) (lwS_no (by omega)) (fun a b j ha h1 h2 => lwS_no (by omega)) (fun a j ha => lwS_no (by omega))⟩, ci_fr l7 hf (lwS_no (by omega)) (fun a j ha => lwS_no (by omega)) (fun a j ha => lwS_no (by omega)), nt_fr l8 hf (lwS_no (by omega)) (fun a i ha => lwS_no (by omega)), nt_fr l9 hf (lwS_no (by omega)) (fun a i ha => lwS_no (by omega))⟩
def lmS : Nat → Nat → Nat → Prop := fun a _ j => (43 ≤ a ∧ a ≤ 49) ∨ (a = 12 ∧ (j = 13 ∨ j = 33 ∨ j = 2 ∨ (3 ≤ j ∧ j ≤ 5) ∨ j = 14))
theorem lmS_no {a b j : Nat} (h : ¬ ((43 ≤ a ∧ a ≤ 49) ∨ (a = 12 ∧ (j = 13 ∨ j = 33 ∨ j = 2 ∨ (3 ≤ j ∧ j ≤ 5) ∨ j = 14)))) : ¬ lmS a b j := h
theorem relmo_fr (h : rlo_m I o) (hf : am_fr lmS I J) : rlo_m J o := by
  have zz : ∀ {a b j}, ¬ ((43 ≤ a ∧ a ≤ 49) ∨ (a = 12 ∧ (j = 13 ∨ j = 33 ∨ j = 2 ∨ (3 ≤ j ∧ j ≤ 5) ∨ j = 14))) → J a b j = I a b j := fun {a b j} ha => hf a b j ha
  cases o with
  | none =>
    obtain ⟨n1, n2, n3, n4, n5, n6, n7, n8⟩ := h
    exact ⟨(zz (by omega)).trans n1, fun j hj => (zz (by omega)).trans (n2 j hj), (zz (by omega)).trans n3, (zz (by omega)).trans n4, (zz (by omega)).trans n5, (zz (by omega)).trans n6, (zz (by omega)).trans n7, (zz (by omega)).trans n8⟩
  | some l =>
    obtain ⟨E, k, PK, tk, EL, im, ⟨k0, N0⟩, k1, N1⟩ := l
    obtain ⟨⟨l1, l2, l3, l4⟩, l6, l7, l8, l9⟩ := h
    obtain ⟨c1, c2, c3, c4, c5, c6⟩ := l3
    exact ⟨⟨fun j hj => (zz (by omega)).trans (l1 j hj), fun c hc => (zz (by omega)).trans (l2 c hc), ⟨(zz (by omega)).trans c1, c2, c3, c4, fun j hj => ⟨(zz (by omega)).trans (c5 j hj).1, (zz (by omega)).trans (c5 j hj).2.1, (zz (by omega)).trans (c5 j hj).2.2.1, (zz (by omega)).trans (c5 j hj).2.2.2⟩, c6⟩, ⟨(zz (by omega)).trans l4.1, fun i hi => ⟨(zz (by omega)).trans (l4.2 i hi).1, (zz (by omega)).trans (l4.2 i hi).2⟩⟩⟩, hm_fr l6 hf (lmS_no (by omega)) (lmS_no (by omega)) (fun a j ha => lmS_no (by omega)), mi_fr l7 hf (lmS_no (by omega)) (fun j => lmS_no (by omega)), mn_fr l8 hf (lmS_no (by omega)) (fun a j ha => lmS_no (by omega)), ms_fr l9 hf (lmS_no (by omega)) (fun a j ha => lmS_no (by omega))⟩
end
