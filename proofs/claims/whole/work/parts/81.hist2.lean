/-! What was: a TEN, an ACT undone, the IMAGE. -/
/-- a TEN of T keeps FOOD where it is, and counts -/
def tT (T : pl_T) : Prop := ∀ (x : Int32) (X : Nat → Nat → Int32), (∀ c, (T x X).1 0 c = X 0 c) ∧ (T x X).1 4 1 = X 4 1 + nI 1
def pa_R (R : am_R) : Prop := R 11 0 8 = some (am_mk 2 0) ∧ R 11 0 10 = some (am_mk 9 12) ∧ R 11 0 12 = some (am_mk 5 0) ∧ R 11 0 11 = some (am_mk 0 0) ∧ R 11 0 13 = some (am_mk 9 53) ∧ R 11 0 14 = some (am_mk 5 1) ∧ (∀ p, p < 54 → pp_R R p) ∧ lo_R R 0 ∧ lo_R R 1 ∧ ac_R R
section
variable {d n b m k f lo t q : Nat} {I J : am_I} {R : am_R} {Q : am_Q} {P : Nat → Nat → Int32} {E : Nat → Nat → Int32} {T : pl_T} {PK : Nat → Nat → Nat → Int32} {tk : Nat → Nat}
/-- the history behind a TEN -/
theorem hd_pass (hk : kT T n b) (hT : tT T) (h : hd_ok n b k PK tk) (hst : ∀ j, j + 1 = k → tk j = tk k) : hd_ok n b k (sp_nw k PK (T (nI q) (PK k)).1) (sp_nw k tk (tk k + 1)) := by
  have hI := h.2.1 k (Nat.le_refl _)
  refine hd_now h (hk (tk k) q (PK k) hI.1).1 ?_ (fun j hj => by rw [hst j hj]; omega)
  rw [(hT _ _).2, hI.2, nI_add]
theorem c_passH (hr : pa_R R) (hT : cT T n b R Q I) (hk : kT T n b) (hT4 : tT T) (hb : 1 ≤ b ∧ b ≤ 99) (hn2 : n ≤ 25) (hd : hd_ok n b k PK tk) (hst : ∀ j, j + 1 = k → tk j = tk k) (hk1 : 1 ≤ k) (htm : tk k < 2 ^ 28) (hq : q ≤ 9) (h : hc_at I k PK tk f lo E) : ∃ J, am_cal (d + 9) 114 [.ref (am_mk 11 0), .int (nI q)] I R Q = some (none, J, R, Q) ∧ am_fr (fun a b j => kk_S 12 a b j ∨ hc_S a b j) I J ∧ hc_at J k (sp_nw k PK (T (nI q) (PK k)).1) (sp_nw k tk (tk k + 1)) f (max lo (tk k + 1 - 100)) (sp_lg E (tk k + 1) (nI q) (sp_least (T (nI q) (PK k)).1) (T (nI q) (PK k)).2) := by
  obtain ⟨h1, h2, h3, h4, h5, h6, h7⟩ := h
  obtain ⟨r8, r10, r12, r11, r13, r14, rp, rl, rl1, ra⟩ := hr
  have hI := hd.2.1 k (Nat.le_refl _)
  have ht : (T (nI q) (PK k)).1 4 1 = nI (tk k + 1) := by rw [(hT4 _ _).2, hI.2, nI_add]
  obtain ⟨J, a1, a2, a3, a4⟩ := c_pass (d := d) (Q := Q) r8 r10 r12 rp rl hT hk hb hn2 hI.1 htm hq h5 ht htm h6
  have hm0 := hd_mono hd 0 (k - 1) (by omega) (by omega)
  have hst' := hst (k - 1) (by omega)
  have hk40 := hd.1
  have h0 : ¬ 0 = k := by omega
  refine ⟨J, a1, fr_mo a2 fun a b j w => ?_, h1, (a2 _ _ _ (fun w => by unfold ct_S kk_S lo_S at w; omega)).trans h2, (a2 _ _ _ (fun w => by unfold ct_S kk_S lo_S at w; omega)).trans h3, fun j hj => ?_, ?_, ?_, ?_⟩
  · rcases w with w | w
    · exact Or.inl w
    · right; unfold lo_S at w; unfold hc_S; omega
  · have : ¬ j = k := by omega
    simp only [sp_nw, if_neg this]
    exact pl_fr (h4 j hj) a2 (fun a j ha w => by unfold ct_S kk_S lo_S at w; unfold sp_pl at w; omega)
  · simp only [sp_nw, if_true]; exact a3
  · simp only [sp_nw, if_true]; exact a4
  · simp only [sp_nw, if_neg h0]
    omega
theorem m_passH (hr : mm_R R) (hT : mT T n b R Q I) (hk : kT T n b) (hb : 1 ≤ b ∧ b ≤ 99) (hn2 : n ≤ 25) (hd : hd_ok n b k PK tk) (htm : tk k < 2 ^ 28) (hq : q ≤ 9) (h : hm_at I n k PK tk E) : ∃ J, am_cal (d + 9) 220 [.ref (am_mk 12 0), .int (nI q)] I R Q = some (none, J, R, Q) ∧ am_fr mw_S I J ∧ hm_at J n k (sp_nw k PK (T (nI q) (PK k)).1) (sp_nw k tk (tk k + 1)) (sp_lg E (tk k + 1) (nI q) (sp_least (T (nI q) (PK k)).1) (T (nI q) (PK k)).2) := by
  obtain ⟨h1, h2, h3, h4⟩ := h
  have hI := hd.2.1 k (Nat.le_refl _)
  obtain ⟨J, a1, a2, a3⟩ := m_passTen (d := d) (Q := Q) hr hT hk hb hn2 hI.1 htm hq h4 (by rw [h1]; exact hI.1.1.symm)
  have hmk := hd_mono hd
  refine ⟨J, a1, a2, (a2 _ _ _ (fun w => by unfold mw_S at w; omega)).trans h1, (a2 _ _ _ (fun w => by unfold mw_S at w; omega)).trans h2, fun j hj => ?_, ?_⟩
  · have : ¬ j = k := by omega
    simp only [sp_nw, if_neg this]
    have hle := (hmk j k (by omega) (Nat.le_refl _)).1
    refine sn_E (sn_cp (h3 j hj) (fun i hi => a2 _ _ _ (fun w => by unfold mw_S at w; omega))) fun x w hx => ?_
    rw [sp_lg, if_neg (by omega)]
  · simp only [sp_nw, if_true]; exact a3
/-- an ACT undone -/
theorem hd_undo (h : hd_ok n b (k + 1) PK tk) : hd_ok n b k PK tk := ⟨by have := h.1; omega, fun j hj => h.2.1 j (by omega), fun j hj => h.2.2 j (by omega)⟩
theorem c_undoH (hr : pa_R R) (hd : hd_ok n b (k + 1) PK tk) (h : hc_at I (k + 1) PK tk f lo E) : ∃ J, am_cal (d + 1) 3 [.ref (am_mk 0 0), .ref (am_mk 9 12)] I R Q = some (none, J, R, Q) ∧ am_fr hc_S I J ∧ hc_at J k PK tk ((f + 39) % 40) lo E := by
  obtain ⟨h1, h2, h3, h4, h5, h6, h7⟩ := h
  have hk := hd.1
  have e := h4 k (by omega)
  rw [show sp_pl f (k + 1) k = 13 + (f + 39) % 40 by unfold sp_pl; omega] at e
  obtain ⟨J, a1, a2, a3, a4, a5⟩ := c_takeBack (d := d) (Q := Q) hr.2.2.2.2.2.2.2.2.2 h2 h1 h3 (by omega) e (hd.2.1 k (by omega)).1
  refine ⟨J, a1, fr_mo a2 fun a b j w => by unfold ab_S at w; unfold hc_S; omega, Nat.mod_lt _ (by decide), a4, a5, fun j hj => ?_, a3, fun x q1 q2 w hw => ?_, h7⟩
  · rw [show sp_pl ((f + 39) % 40) k j = sp_pl f (k + 1) j by unfold sp_pl; omega]
    exact pl_fr (h4 j (by omega)) a2 (fun a j ha w => by unfold ab_S at w; unfold sp_pl at w; omega)
  · have := (hd.2.2 k (by omega)).1
    exact (a2 _ _ _ (fun v => by unfold ab_S at v; omega)).trans (h6 x q1 (by omega) w hw)
theorem m_undoH (hr : mm_R R) (hd : hd_ok n b (k + 1) PK tk) (h : hm_at I n (k + 1) PK tk E) : ∃ J, am_cal d 236 [.ref (am_mk 12 0)] I R Q = some (some (.int (nI k)), J, R, Q) ∧ am_fr hm_S I J ∧ hm_at J n k PK tk E := by
  obtain ⟨h1, h2, h3, h4⟩ := h
  have hk := hd.1
  obtain ⟨J, a1, a2, a3, a4⟩ := m_undo (d := d) (Q := Q) hr h2 (by omega)
  refine ⟨J, a1, fr_mo a2 fun a b j w => by unfold hm_S; omega, (a2 _ _ _ (fun w => by omega)).trans h1, a3, fun j hj => sn_cp (h3 j (by omega)) (fun i hi => a2 _ _ _ (fun w => by omega)), sn_cp (h3 k (by omega)) (fun i hi => by rw [Nat.zero_add]; exact a4 i hi)⟩
end
