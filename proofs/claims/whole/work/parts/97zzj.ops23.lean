/-! How long a LAW is that was read. -/
theorem cls_240 {L : Nat} {B : Nat → Nat} {K : zl_K} (h : zc_Rd L B (-nI 1) K) : (zl_cls K).length ≤ 240 := by
  obtain ⟨J, C1, -, -, -, h1, h2⟩ := h 72 (fun a b j => if a = 10 then nI L else if a = 13 then nI (B j) else nI ((am_strs.getD b []).getD j 0)) (fun a b j => if a = 10 then some (am_mk 13 0) else if a = 4 then (if j = 0 then some (am_mk 10 0) else some (am_mk 3 0)) else if j = 0 then some (am_mk 27 b) else some (am_mk 28 b)) (fun _ _ _ => 0) (Nat.le_refl _) ⟨rfl, ⟨rfl, rfl⟩, rfl, rfl⟩ ⟨rfl, fun _ _ => rfl⟩ (fun _ _ _ _ => rfl)
  rw [← h2 rfl]
  exact h1
