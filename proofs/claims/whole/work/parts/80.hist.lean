/-! What was: ACTS kept, the LOG, the plate now (the last of PK), on either side. -/
/-- the TENS of what was kept, then of now -/
def hd_ok (n b k : Nat) (PK : Nat → Nat → Nat → Int32) (tk : Nat → Nat) : Prop := k ≤ 40 ∧ (∀ j, j ≤ k → pt_I n b (tk j) (PK j) ∧ PK j 4 1 = nI (tk j)) ∧ ∀ j, j < k → tk j ≤ tk (j + 1) ∧ tk (j + 1) ≤ tk j + 1
/-- the class's place of the j-th -/
abbrev sp_pl (f k j : Nat) : Nat := 13 + (f + 40 - k + j) % 40
def hc_at (I : am_I) (k : Nat) (PK : Nat → Nat → Nat → Int32) (tk : Nat → Nat) (f lo : Nat) (E : Nat → Nat → Int32) : Prop := f < 40 ∧ I 0 0 1 = nI f ∧ I 0 0 2 = nI k ∧ (∀ j, j < k → pp_at I (sp_pl f k j) (PK j)) ∧ pp_at I 12 (PK k) ∧ lo_at I 0 lo (tk k) E ∧ lo ≤ tk 0 - 60
def hm_at (I : am_I) (n k : Nat) (PK : Nat → Nat → Nat → Int32) (tk : Nat → Nat) (E : Nat → Nat → Int32) : Prop := I 12 0 30 = nI n ∧ I 12 0 37 = nI k ∧ (∀ j, j < k → sn_at I 63 (283 * j) (PK j) (tk j) E) ∧ sn_at I 60 0 (PK k) (tk k) E
/-- one more kept, now as it was -/
def sp_kk (k : Nat) : Nat := k - sp_go k + 1
def sp_kj (k j : Nat) : Nat := min (j + sp_go k) k
/-- now is P -/
def sp_nw {α : Type} (k : Nat) (PK : Nat → α) (P : α) : Nat → α := fun j => if j = k then P else PK j
/-- where the class's history lies -/
def hc_S : Nat → Nat → Nat → Prop := fun a b j => ((a = 9 ∨ a = 19 ∨ a = 20 ∨ a = 21 ∨ a = 22) ∧ 12 ≤ b ∧ b ≤ 52) ∨ (a = 0 ∧ (j = 1 ∨ j = 2)) ∨ ((a = 35 ∨ a = 36 ∨ a = 37) ∧ b = 0)
def hm_S : Nat → Nat → Nat → Prop := fun a b j => (a = 60 ∧ b = 0 ∧ j < 283) ∨ a = 63 ∨ (a = 12 ∧ (j = 30 ∨ j = 37))
section
variable {d n b m k f lo t q : Nat} {I J : am_I} {R : am_R} {Q : am_Q} {P : Nat → Nat → Int32} {E : Nat → Nat → Int32} {T : pl_T} {PK : Nat → Nat → Nat → Int32} {tk : Nat → Nat}
theorem hd_mono (h : hd_ok n b k PK tk) : ∀ i j, i ≤ j → j ≤ k → tk i ≤ tk j ∧ tk j ≤ tk i + (j - i) := by
  intro i j hij
  obtain ⟨m, rfl⟩ := Nat.exists_eq_add_of_le hij
  clear hij
  induction m with
  | zero => intro _; exact ⟨Nat.le_refl _, Nat.le_add_right _ _⟩
  | succ m ih =>
    intro hk
    have h1 := ih (by omega)
    have h2 := h.2.2 (i + m) (by omega)
    rw [show i + (m + 1) = i + m + 1 from rfl]
    omega
theorem go_le (k : Nat) (h : k ≤ 40) : sp_kk k ≤ 40 ∧ sp_kk k ≤ k + 1 ∧ k ≤ sp_kk k ∧ sp_kk k + sp_go k = k + 1 ∧ 1 ≤ sp_kk k ∧ sp_go k ≤ 1 := by
  unfold sp_kk sp_go
  by_cases e : k = 40
  · rw [if_pos e]; omega
  · rw [if_neg e]; omega
theorem kj_k (k : Nat) (h : k ≤ 40) : sp_kj k (sp_kk k) = k := by
  have := go_le k h
  unfold sp_kj
  omega
theorem kk_min (k : Nat) (h : k ≤ 40) : sp_kk k = min (k + 1) 40 := by
  unfold sp_kk sp_go
  by_cases e : k = 40
  · rw [if_pos e]; omega
  · rw [if_neg e]; omega
theorem hd_keep (h : hd_ok n b k PK tk) : hd_ok n b (sp_kk k) (fun j => PK (sp_kj k j)) (fun j => tk (sp_kj k j)) := by
  have g := go_le k h.1
  refine ⟨g.1, fun j hj => h.2.1 _ (Nat.min_le_right _ _), fun j hj => ?_⟩
  have e1 : sp_kj k j = j + sp_go k := by unfold sp_kj; omega
  by_cases e : j + 1 = sp_kk k
  · have e2 : sp_kj k (j + 1) = k := by rw [e]; exact kj_k k h.1
    show tk (sp_kj k j) ≤ tk (sp_kj k (j + 1)) ∧ tk (sp_kj k (j + 1)) ≤ tk (sp_kj k j) + 1
    rw [e1, e2, show j + sp_go k = k by omega]
    omega
  · have e2 : sp_kj k (j + 1) = j + sp_go k + 1 := by unfold sp_kj; omega
    show tk (sp_kj k j) ≤ tk (sp_kj k (j + 1)) ∧ tk (sp_kj k (j + 1)) ≤ tk (sp_kj k j) + 1
    rw [e1, e2]
    exact h.2.2 _ (by omega)
theorem hd_now (h : hd_ok n b k PK tk) {t' : Nat} (hP : pt_I n b t' P) (hP4 : P 4 1 = nI t') (ht : ∀ j, j + 1 = k → tk j ≤ t' ∧ t' ≤ tk j + 1) : hd_ok n b k (sp_nw k PK P) (sp_nw k tk t') := by
  refine ⟨h.1, fun j hj => ?_, fun j hj => ?_⟩
  · by_cases e : j = k
    · simp only [sp_nw, if_pos e]; exact ⟨hP, hP4⟩
    · simp only [sp_nw, if_neg e]; exact h.2.1 j hj
  · have e0 : ¬ j = k := by omega
    by_cases e : j + 1 = k
    · simp only [sp_nw, if_pos e, if_neg e0]; exact ht j e
    · simp only [sp_nw, if_neg e, if_neg e0]; exact h.2.2 j hj
theorem c_keepH (hr : ac_R R) (hd : hd_ok n b k PK tk) (h : hc_at I k PK tk f lo E) : ∃ J, am_cal (d + 1) 2 [.ref (am_mk 0 0), .ref (am_mk 9 12)] I R Q = some (none, J, R, Q) ∧ am_fr hc_S I J ∧ hc_at J (sp_kk k) (fun j => PK (sp_kj k j)) (fun j => tk (sp_kj k j)) ((f + 1) % 40) lo E := by
  obtain ⟨h1, h2, h3, h4, h5, h6, h7⟩ := h
  have g := go_le k hd.1
  have hm := hd_mono hd
  obtain ⟨J, a1, a2, a3, a4, a5⟩ := c_keep (d := d) (Q := Q) hr h5 (hd.2.1 k (Nat.le_refl _)).1 h2 h1 h3 hd.1
  refine ⟨J, a1, fr_mo a2 fun a b j w => by unfold ac_S at w; unfold hc_S; omega, Nat.mod_lt _ (by decide), a4, by rw [kk_min k hd.1]; exact a5, fun j hj => ?_, ?_, ?_, ?_⟩
  · have e1 : sp_kj k j = j + sp_go k := by unfold sp_kj; omega
    show pp_at J (sp_pl ((f + 1) % 40) (sp_kk k) j) (PK (sp_kj k j))
    rw [e1]
    by_cases e : j + sp_go k = k
    · rw [e, show sp_pl ((f + 1) % 40) (sp_kk k) j = 13 + f by unfold sp_pl; omega]
      exact a3
    · have hne : ¬ sp_pl f k (j + sp_go k) = 13 + f := by unfold sp_pl; omega
      rw [show sp_pl ((f + 1) % 40) (sp_kk k) j = sp_pl f k (j + sp_go k) by unfold sp_pl; omega]
      exact pl_fr (h4 _ (by omega)) a2 (fun a j ha w => by unfold ac_S at w; omega)
  · show pp_at J 12 (PK (sp_kj k (sp_kk k)))
    rw [kj_k k hd.1]
    exact pl_fr h5 a2 (fun a j ha w => by unfold ac_S at w; omega)
  · show lo_at J 0 lo (tk (sp_kj k (sp_kk k))) E
    rw [kj_k k hd.1]
    exact fun x q1 q2 w hw => (a2 _ _ _ (fun v => by unfold ac_S at v; omega)).trans (h6 x q1 q2 w hw)
  · have := (hm 0 (sp_kj k 0) (Nat.zero_le _) (Nat.min_le_right _ _)).1
    show lo ≤ tk (sp_kj k 0) - 60
    omega
theorem m_keepH (hr : mm_R R) (hk : k ≤ 40) (h : hm_at I n k PK tk E) : ∃ J, am_cal d 224 [.ref (am_mk 12 0)] I R Q = some (none, J, R, Q) ∧ am_fr hm_S I J ∧ hm_at J n (sp_kk k) (fun j => PK (sp_kj k j)) (fun j => tk (sp_kj k j)) E := by
  obtain ⟨h1, h2, h3, h4⟩ := h
  have g := go_le k hk
  obtain ⟨J, a1, a2, a3, a4, a5⟩ := m_keep (d := d) (Q := Q) hr h2 hk
  refine ⟨J, a1, fr_mo a2 fun a b j w => by unfold kp_S at w; unfold hm_S; omega, (a2 _ _ _ (fun w => by unfold kp_S at w; omega)).trans h1, a3, fun j hj => ?_, ?_⟩
  · have e1 : sp_kj k j = j + sp_go k := by unfold sp_kj; omega
    show sn_at J 63 (283 * j) (PK (sp_kj k j)) (tk (sp_kj k j)) E
    rw [e1]
    by_cases e : j + sp_go k = k
    · have ej : j = k - sp_go k := by omega
      rw [e, ej]
      exact sn_cp h4 (fun i hi => by rw [Nat.zero_add]; exact a4 i hi)
    · exact sn_cp (h3 _ (by omega)) (fun i hi => a5 j (by omega) i hi)
  · show sn_at J 60 0 (PK (sp_kj k (sp_kk k))) (tk (sp_kj k (sp_kk k))) E
    rw [kj_k k hk]
    exact sn_cp h4 (fun i hi => a2 _ _ _ (fun w => by unfold kp_S at w; omega))
/-- now changed, no TEN -/
theorem c_nowH (h : hc_at I k PK tk f lo E) (hf : am_fr (pp_S 12) I J) (hP : pp_at J 12 P) (hk : k ≤ 40) : hc_at J k (sp_nw k PK P) tk f lo E := by
  obtain ⟨h1, h2, h3, h4, h5, h6, h7⟩ := h
  refine ⟨h1, (hf _ _ _ (fun w => by unfold pp_S at w; omega)).trans h2, (hf _ _ _ (fun w => by unfold pp_S at w; omega)).trans h3, fun j hj => ?_, ?_, fun x q1 q2 w hw => (hf _ _ _ (fun v => by unfold pp_S at v; omega)).trans (h6 x q1 q2 w hw), h7⟩
  · have : ¬ j = k := by omega
    simp only [sp_nw, if_neg this]
    exact pl_fr (h4 j hj) hf (fun a j ha w => by unfold pp_S at w; unfold sp_pl at w; omega)
  · simp only [sp_nw, if_true]; exact hP
theorem m_nowH (h : hm_at I n k PK tk E) (hf : am_fr (fun a b j => mw_S a b j ∧ (a = 60 → j < 102)) I J) (hP : mm_at J P) : hm_at J n k (sp_nw k PK P) tk E := by
  obtain ⟨h1, h2, h3, h4⟩ := h
  refine ⟨(hf _ _ _ (fun w => by unfold mw_S at w; omega)).trans h1, (hf _ _ _ (fun w => by unfold mw_S at w; omega)).trans h2, fun j hj => ?_, ?_⟩
  · have : ¬ j = k := by omega
    simp only [sp_nw, if_neg this]
    exact sn_cp (h3 j hj) (fun i hi => hf _ _ _ (fun w => by unfold mw_S at w; omega))
  · simp only [sp_nw, if_true]
    exact sn_of h4 hP (fun j q1 q2 => hf _ _ _ (fun w => by have := w.2 rfl; omega))
end
