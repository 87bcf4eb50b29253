/-! A TEN of the model is the real T. -/
section
variable {n b w h m : Nat} {I : am_I} {R : am_R} {Q : am_Q} {V : (Nat → Int32) → Int32} {G : (Nat → Int32) → Prop} {SH : Nat → Int32} {sp : Int32} {P : Nat → Nat → Int32}
theorem I_ok (h : pt_I n b m P) (hm : m < 2 ^ 29) : pt_ok P := by
  obtain ⟨h1, h2, ⟨t, ht, ht2⟩, h3, -⟩ := h
  exact ⟨h2, t, by omega, ht2⟩
theorem I_z (h : pt_I n b m P) (hn : n ≤ 25) : pt_z n P := fun c hc h0 => by
  obtain ⟨t, i, g, u, e0, e1, e2, e3, l0, l1, l2, l3, z, o⟩ := h.2.2.2.1 c (by omega)
  rw [e0, nI_le0 (by omega)] at h0
  rw [e1, (z h0).1]
  decide
theorem real_mT (hr : mm_R R) (ho : mo_at I w h n) (hn2 : n ≤ 25) (hS : ∀ c, c < n → I 58 0 c = SH c) (hsp : I 56 0 3 = sp) (hbs : I 56 0 4 = nI b) (hV : ∀ (d : Nat) (J : am_I), am_fr mev_S I J → mk_V G R Q (d + 5) J V) (hVc : ∀ f g : Nat → Int32, (∀ j, j < 6 → f j = g j) → V f = V g) (hG : ∀ (m : Nat) (P : Nat → Nat → Int32) (q k : Nat), pt_I n b m P → q ≤ 9 → k < n → ¬ P 0 k ≤ 0 → ∀ f : Nat → Int32, (∀ j, j < 6 → f j = sp_let (sp_B w h) SH n (nI q) P k j) → G f) : mT (fun pw P => sp_ten V (sp_B w h) SH sp (nI b) n pw P) n b R Q I := by
  intro d J m q P hf hP hI hm hq
  have e58 : ∀ c, J 58 0 c = I 58 0 c := fun c => hf _ _ _ (fun w => by unfold mev_S at w; omega)
  have e563 : J 56 0 3 = sp := (hf _ _ _ (fun w => by unfold mev_S at w; omega)).trans hsp
  have e564 : J 56 0 4 = nI b := (hf _ _ _ (fun w => by unfold mev_S at w; omega)).trans hbs
  have hsh : ∀ c, c < n → J 58 0 c = SH c := fun c hc => (e58 c).trans (hS c hc)
  obtain ⟨K, g1, g2, g3⟩ := m_heat (d := d + 2) (Q := Q) (pw := nI q) hr (mo_fr ho hf (fun j w => by unfold mev_S at w; omega)) hP hI.1 hn2 (I_ok hI hm) (I_z hI hn2) (hV d J hf) hVc (fun k hkn hk0 f hff => hG m P q k hI hq hkn hk0 f (fun j hj => by rw [hff j hj, let_sh hsh hkn]))
  rw [ten_sh hsh, e563, e564] at g1 g3
  exact ⟨K, g1, g2, g3⟩
end
