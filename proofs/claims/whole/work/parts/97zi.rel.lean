/-! The relation that every call keeps. -/
def zc_im (I : am_I) (im : Option ((Nat → Nat → Int32) × Nat × (Nat → Nat → Int32))) : Prop := match im with
  | none => I 11 0 15 = nI 0
  | some (P, t, e) => I 11 0 15 = nI 1 ∧ ∃ lo, ic_at I P t lo e
def zm_im (I : am_I) (im : Option ((Nat → Nat → Int32) × Nat × (Nat → Nat → Int32))) : Prop := match im with
  | none => I 12 0 52 = nI 0
  | some (P, t, e) => I 12 0 52 = nI 1 ∧ sn_at I 71 0 P t e
/-- the LUNCH, the class -/
def rl_c (u : Nat) (I : am_I) : zLu → Prop := fun (E, k, PK, tk, EL, im, (k0, N0), (k1, N1)) => ((∀ j, j < 6 → I 14 u j = nI (E.2.1 j)) ∧ bs_at I u (zn E) (sp_B (E.2.1 0) (E.2.1 1)) ∧ (∀ c, c < 25 → I 15 u c = nI (zd_sh E.2.2.2.1 c)) ∧ pp_at I u (zP0 E) ∧ ds_at I u E.2.2.2.2.length (zD E.2.2.2.2 0) (zD E.2.2.2.2 1)) ∧ (∃ f lo, hc_at I k PK tk f lo EL) ∧ zc_im I im ∧ nt_at I 0 k0 N0 ∧ nt_at I 1 k1 N1
/-- the LUNCH, the model -/
def rl_m (I : am_I) : zLu → Prop := fun (E, k, PK, tk, EL, im, (k0, N0), (k1, N1)) => ((∀ j, j < 6 → I 56 0 j = nI (E.2.1 j)) ∧ (∀ c, c < 25 → I 58 0 c = nI (zd_sh E.2.2.2.1 c)) ∧ md_at I E.2.2.1.length (zn E) (zD E.2.2.1 0) (zP0 E) ∧ me_at I E.2.2.2.2.length (zD E.2.2.2.2 0) (zD E.2.2.2.2 1)) ∧ hm_at I (zn E) k PK tk EL ∧ zm_im I im ∧ mn_at I k0 N0 ∧ ms_at I k1 N1
def rl_ok : zLu → Prop := fun (E, k, PK, tk, _, im, (k0, N0), (k1, N1)) => (zd_ok E ∧ zd_g E) ∧ hd_ok (zn E) (E.2.1 4) k PK tk ∧ tk k ≤ 9999 ∧ (∀ P t e, im = some (P, t, e) → pt_I (zn E) (E.2.1 4) t P ∧ P 4 1 = nI t ∧ t ≤ 9999) ∧ nt_ok k0 N0 ∧ nt_ok k1 N1 ∧ ∀ i, i < k1 → N1 0 i < zn E ∧ ¬ zP0 E 0 (N1 0 i) ≤ 0
def rn_c (u : Nat) (I : am_I) : Prop := pp_at I 12 (fun _ _ => nI 0) ∧ (∃ f, f < 40 ∧ I 0 0 1 = nI f) ∧ I 0 0 2 = nI 0 ∧ I 11 0 15 = nI 0 ∧ I 8 0 4 = nI 0 ∧ I 8 1 4 = nI 0 ∧ I 6 u 5 = nI 0
def rn_m (I : am_I) : Prop := I 12 0 30 = nI 0 ∧ (∀ j, j < 283 → I 60 0 j = nI 0) ∧ I 12 0 37 = nI 0 ∧ I 12 0 43 = nI 0 ∧ I 12 0 49 = nI 0 ∧ I 12 0 28 = nI 0 ∧ I 12 0 29 = nI 0 ∧ I 12 0 52 = nI 0
def rx_c (I : am_I) (s : zSt) : Prop := tc_at I s.1.1 s.1.2 ∧ st_at I ∧ sx_at I ∧ w_c I s.2.1 ∧ I 11 0 6 = nI s.2.2.1 ∧ rc_at I s.2.2.2.1 ∧ ∀ v, v < 2 → I 9 v 5 = nI 0 ∧ I 9 v 6 = nI 0
def rx_m (I : am_I) (s : zSt) : Prop := tm_at I s.1.1 s.1.2 ∧ w_m I s.2.1 ∧ I 12 0 34 = nI s.2.2.1 ∧ rm_at I s.2.2.2.1
def rel_ok (s : zSt) : Prop := tp_ok s.1.1 s.1.2 ∧ w_ok s.2.1 ∧ s.2.2.1 ≤ 9 ∧ ∀ l, s.2.2.2.2 = some l → rl_ok l
def rel_c (s : zSt) (u : Nat) (I : am_I) (R : am_R) : Prop := rR R u s.2.1 ∧ rx_c I s ∧ match s.2.2.2.2 with
  | none => rn_c u I
  | some l => rl_c u I l
def rel_m (s : zSt) (I : am_I) : Prop := rx_m I s ∧ match s.2.2.2.2 with
  | none => rn_m I
  | some l => rl_m I l
/-- where the class may write without being asked for it later -/
def fC (u : Nat) : Nat → Nat → Nat → Prop := fun a b j => ((a = 12 ∨ (42 ≤ a ∧ a ≤ 72)) ∨ (a = 31 ∨ a = 32 ∨ a = 28 ∨ a = 41 ∨ (23 ≤ a ∧ a ≤ 26) ∨ a = 1 ∨ a = 7)) ∨ ((a = 3 ∧ (j = 3 ∨ b = 0)) ∨ (a = 27 ∧ b = 0) ∨ (a = 10 ∧ j = 2) ∨ (a = 6 ∧ (j = 7 ∨ j = 8))) ∨ ((a = 9 ∨ (19 ≤ a ∧ a ≤ 22)) ∧ 2 ≤ b ∧ b ≤ 11) ∨ (b < 2 ∧ ¬ b = u ∧ ((14 ≤ a ∧ a ≤ 22) ∨ (a = 9 ∧ j = 4) ∨ a = 6))
/-- where the model may write; of the LAWS those behind the n-th -/
def fM (n : Nat) : Nat → Nat → Nat → Prop := fun a _ j => ((a < 12 ∨ (13 ≤ a ∧ a ≤ 41)) ∨ (a = 50 ∨ a = 51 ∨ a = 52 ∨ a = 53 ∨ a = 54 ∨ a = 55 ∨ a = 62 ∨ a = 64 ∨ a = 70 ∨ a = 72)) ∨ (a = 12 ∧ (j = 0 ∨ (3 ≤ j ∧ j ≤ 5) ∨ j = 14 ∨ (21 ≤ j ∧ j ≤ 23) ∨ j = 40 ∨ j = 44 ∨ j = 45)) ∨ ((a = 43 ∨ a = 44) ∧ 520 * n ≤ j) ∨ ((a = 45 ∨ a = 46) ∧ n ≤ j) ∨ ((a = 47 ∨ a = 48 ∨ a = 49) ∧ 140 * n ≤ j)
section
variable {I J : am_I} {R : am_R} {u n k : Nat} {s : zSt} {Z : Nat → Nat → Nat → Prop} {w : zLw} {PK : Nat → Nat → Nat → Int32} {tk : Nat → Nat} {f lo : Nat} {EL : Nat → Nat → Int32} {im : Option ((Nat → Nat → Int32) × Nat × (Nat → Nat → Int32))} {N : Nat → Nat → Nat}
theorem lo_fr {v t : Nat} (h : lo_at I v lo t EL) (hf : am_fr Z I J) (h1 : ∀ a j, (a = 35 ∨ a = 36 ∨ a = 37) → ¬ Z a v j) : lo_at J v lo t EL := fun x hx1 hx2 w hw => (hf _ _ _ (h1 _ _ (by omega))).trans (h x hx1 hx2 w hw)
theorem hc_fr (hk : k ≤ 40) (h : hc_at I k PK tk f lo EL) (hf : am_fr Z I J) (h1 : ¬ Z 0 0 1) (h2 : ¬ Z 0 0 2) (h3 : ∀ a b j, (a = 9 ∨ a = 19 ∨ a = 20 ∨ a = 21 ∨ a = 22) → 12 ≤ b → b ≤ 52 → ¬ Z a b j) (h4 : ∀ a j, (a = 35 ∨ a = 36 ∨ a = 37) → ¬ Z a 0 j) : hc_at J k PK tk f lo EL := by
  obtain ⟨a1, a2, a3, a4, a5, a6, a7⟩ := h
  exact ⟨a1, (hf _ _ _ h1).trans a2, (hf _ _ _ h2).trans a3, fun j hj => pl_fr (a4 j hj) hf (fun a i ha => h3 _ _ _ ha (by unfold sp_pl; omega) (by unfold sp_pl; omega)), pl_fr a5 hf (fun a i ha => h3 _ _ _ ha (by omega) (by omega)), lo_fr a6 hf h4, a7⟩
theorem ci_fr (h : zc_im I im) (hf : am_fr Z I J) (h1 : ¬ Z 11 0 15) (h2 : ∀ a j, (a = 9 ∨ a = 19 ∨ a = 20 ∨ a = 21 ∨ a = 22) → ¬ Z a 53 j) (h3 : ∀ a j, (a = 35 ∨ a = 36 ∨ a = 37) → ¬ Z a 1 j) : zc_im J im := by
  match im, h with
  | none, h => exact (hf _ _ _ h1).trans h
  | some (P, t, e), ⟨a, l, b1, b2, b3⟩ => exact ⟨(hf _ _ _ h1).trans a, l, pl_fr b1 hf h2, lo_fr b2 hf h3, b3⟩
theorem w_fr' (h : w_c I w) (hok : w_ok w) (hf : am_fr Z I J) (h1 : ¬ Z 11 0 4) (h2 : ¬ Z 11 0 5) (h3 : ∀ v, 1 ≤ v → v ≤ 4 → ¬ Z 3 v 1) (h4 : ∀ v j, 1 ≤ v → v ≤ 4 → ¬ Z 27 v j) : w_c J w := by
  have h0 := hok.1
  exact ⟨(hf _ _ _ h1).trans h.1, (hf _ _ _ h2).trans h.2.1, fun i hi => lw_fr (h.2.2 i hi) hf (h3 _ (by omega) (by omega)) (fun j => h4 _ _ (by omega) (by omega))⟩
theorem fC_of {a b j : Nat} (h : fC u a b j) : ¬ (a = 0 ∨ a = 2 ∨ a = 4 ∨ a = 5 ∨ a = 8 ∨ a = 11 ∨ a = 13 ∨ a = 29 ∨ a = 30 ∨ (33 ≤ a ∧ a ≤ 40) ∨ 100 ≤ a) ∧ (a = 3 → j = 3 ∨ b = 0) ∧ (a = 27 → b = 0) ∧ (a = 10 → j = 2) ∧ (a = 6 → j = 7 ∨ j = 8 ∨ ¬ b = u) ∧ ((a = 9 ∨ (19 ≤ a ∧ a ≤ 22)) → b ≤ 11 ∧ ¬ b = u ∨ (2 ≤ b ∧ b ≤ 11)) ∧ (a = 9 → b < 2 → j = 4) ∧ ((14 ≤ a ∧ a ≤ 18) → ¬ b = u) := by
  unfold fC at h
  omega
theorem relc_fr (h : rel_c s u I R) (hok : rel_ok s) (hf : am_fr (fC u) I J) : rel_c s u J R := by
  obtain ⟨hR, ⟨x1, x2, x3, x4, x5, x6, x7⟩, hl⟩ := h
  have hu := hR.2.1
  have z0 : ∀ a b j, (a = 0 ∨ a = 2 ∨ a = 4 ∨ a = 5 ∨ a = 8 ∨ a = 11 ∨ a = 13 ∨ a = 29 ∨ a = 30 ∨ (33 ≤ a ∧ a ≤ 40) ∨ 100 ≤ a) → ¬ fC u a b j := fun a b j ha h => (fC_of h).1 ha
  have z9 : ∀ a b j, (a = 9 ∨ a = 19 ∨ a = 20 ∨ a = 21 ∨ a = 22) → (12 ≤ b ∨ b = u) → ¬ fC u a b j := fun a b j ha hb h => by
    have := (fC_of h).2.2.2.2.2.1 (by omega)
    omega
  refine ⟨hR, ⟨tc_fr x1 hf (fun h => by have := (fC_of h).2.2.2.1 rfl; omega) (fun j => z0 _ _ _ (by omega)), st_fr x2 hf (fun a b => z0 _ _ _ (by omega)), sx_fr x3 hf (fun a j _ _ => z0 _ _ _ (by omega)), w_fr' x4 hok.2.1 hf (z0 _ _ _ (by omega)) (z0 _ _ _ (by omega)) (fun v h1 h2 h => by have := (fC_of h).2.1 rfl; omega) (fun v j h1 h2 h => by have := (fC_of h).2.2.1 rfl; omega), (hf _ _ _ (z0 _ _ _ (by omega))).trans x5, fun i hi => (hf _ _ _ (z0 _ _ _ (by omega))).trans (x6 i hi), fun v hv => ⟨(hf _ _ _ (fun h => by have := (fC_of h).2.2.2.2.2.2.1 rfl hv; omega)).trans (x7 v hv).1, (hf _ _ _ (fun h => by have := (fC_of h).2.2.2.2.2.2.1 rfl hv; omega)).trans (x7 v hv).2⟩⟩, ?_⟩
  obtain ⟨s1, s2, s3, s4, o⟩ := s
  cases o with
  | none =>
    obtain ⟨n1, ⟨g, g1, g2⟩, n3, n4, n5, n6, n7⟩ := hl
    exact ⟨pl_fr n1 hf (fun a j ha => z9 _ _ _ ha (Or.inl (by omega))), ⟨g, g1, (hf _ _ _ (z0 _ _ _ (by omega))).trans g2⟩, (hf _ _ _ (z0 _ _ _ (by omega))).trans n3, (hf _ _ _ (z0 _ _ _ (by omega))).trans n4, (hf _ _ _ (z0 _ _ _ (by omega))).trans n5, (hf _ _ _ (z0 _ _ _ (by omega))).trans n6, (hf _ _ _ (fun h => by have := (fC_of h).2.2.2.2.1 rfl; omega)).trans n7⟩
  | some l =>
    obtain ⟨E, k, PK, tk, EL, im, ⟨k0, N0⟩, k1, N1⟩ := l
    obtain ⟨⟨l1, l2, l3, l4, l5⟩, ⟨f, lo, l6⟩, l7, l8, l9⟩ := hl
    have hk : k ≤ 40 := (hok.2.2.2 _ rfl).2.1.1
    have zu : ∀ a j, (14 ≤ a ∧ a ≤ 18) → ¬ fC u a u j := fun a j ha h => (fC_of h).2.2.2.2.2.2.2 ha rfl
    exact ⟨⟨fun j hj => (hf _ _ _ (zu _ _ (by omega))).trans (l1 j hj), bs_fr l2 hf (fun j => zu _ _ (by omega)), fun c hc => (hf _ _ _ (zu _ _ (by omega))).trans (l3 c hc), pl_fr l4 hf (fun a j ha => z9 _ _ _ ha (Or.inr rfl)), ds_fr l5 hf (fun h => by have := (fC_of h).2.2.2.2.1 rfl; omega) (fun j => zu _ _ (by omega)) (fun j => zu _ _ (by omega))⟩, ⟨f, lo, hc_fr hk l6 hf (z0 _ _ _ (by omega)) (z0 _ _ _ (by omega)) (fun a b j ha h1 h2 => z9 _ _ _ ha (Or.inl h1)) (fun a j ha => z0 _ _ _ (by omega))⟩, ci_fr l7 hf (z0 _ _ _ (by omega)) (fun a j ha => z9 _ _ _ ha (Or.inl (by omega))) (fun a j ha => z0 _ _ _ (by omega)), nt_fr l8 hf (z0 _ _ _ (by omega)) (fun a i ha => z0 _ _ _ (by omega)), nt_fr l9 hf (z0 _ _ _ (by omega)) (fun a i ha => z0 _ _ _ (by omega))⟩
end
