/-! One run of the A-machine, from the script: it answers 1. -/
theorem str_bytes : ∀ j, j < 8 → ∀ i, i < (am_strs.getD j []).length → (am_sb8.getD j []).getD i 0 = nI ((am_strs.getD j []).getD i 0) := by decide +kernel
theorem am_goal : am_Goal := by
  intro L xs hL
  obtain ⟨I, R, g, hF, k2, k7, kn, h365, i5, i33, fI, h126⟩ := law_made (L := L) (xs := xs) hL 9
  have z : ∀ {a b j : Nat}, a < 100 → ¬ (a = 11 ∧ b = 0 ∧ j = 5) → ¬ (a = 12 ∧ b = 0 ∧ j = 33) → I a b j = nI 0 := fun ha h1 h2 => (fI _ _ _ h1 h2).trans (zI0 ha)
  have st : st_at I := fun j i hj hi => (fI 101 j i (by omega) (by omega)).trans ((show am_I0 L xs 101 j i = (am_sb8.getD j []).getD i 0 from if_pos rfl).trans (str_bytes j hj i hi))
  have sx : sx_at I := fun k i hk hi => (fI (110 + k) 0 i (by omega) (by omega)).trans (by
    unfold am_I0
    rw [if_neg (by omega), if_neg (by omega), if_neg (by omega), if_pos (by omega), Nat.add_sub_cancel_left])
  have hok : rel_ok ((0, fun _ => 0), (0, fun _ => [], none), 0, fun _ => nI 0, none) := ⟨⟨Nat.zero_le _, fun i hi => absurd hi (Nat.not_lt_zero _)⟩, ⟨Nat.zero_le _, fun i hi => absurd hi (Nat.not_lt_zero _), fun l hl => (by cases hl)⟩, Nat.zero_le _, fun l hl => (by cases hl)⟩
  have hc : rel_c ((0, fun _ => 0), (0, fun _ => [], none), 0, fun _ => nI 0, none) 1 I R := ⟨⟨hF, by decide, k2, k7, kn⟩, ⟨⟨z (by decide) (by decide) (by decide), fun i hi => absurd hi (Nat.not_lt_zero _)⟩, st, sx, ⟨z (by decide) (by decide) (by decide), i5, fun i hi => absurd hi (Nat.not_lt_zero _)⟩, z (by decide) (by decide) (by decide), fun i hi => z (by decide) (by omega) (by omega), fun v hv => ⟨z (by decide) (by omega) (by omega), z (by decide) (by omega) (by omega)⟩⟩, ⟨⟨fun c hc => ⟨z (by decide) (by omega) (by omega), z (by decide) (by omega) (by omega), z (by decide) (by omega) (by omega), z (by decide) (by omega) (by omega)⟩, z (by decide) (by decide) (by decide), z (by decide) (by decide) (by decide), z (by decide) (by decide) (by decide)⟩, ⟨0, by decide, z (by decide) (by decide) (by decide)⟩, z (by decide) (by decide) (by decide), z (by decide) (by decide) (by decide), z (by decide) (by decide) (by decide), z (by decide) (by decide) (by decide), z (by decide) (by decide) (by decide)⟩⟩
  have hm : rel_m ((0, fun _ => 0), (0, fun _ => [], none), 0, fun _ => nI 0, none) I := ⟨⟨⟨z (by decide) (by decide) (by decide), fun i hi => absurd hi (Nat.not_lt_zero _)⟩, ⟨z (by decide) (by decide) (by decide), i33, fun i hi => absurd hi (Nat.not_lt_zero _)⟩, z (by decide) (by decide) (by decide), fun i hi => z (by decide) (by omega) (by omega)⟩, ⟨z (by decide) (by decide) (by decide), fun j hj => z (by decide) (by omega) (by omega), z (by decide) (by decide) (by decide), z (by decide) (by decide) (by decide), z (by decide) (by decide) (by decide), z (by decide) (by decide) (by decide), z (by decide) (by decide) (by decide), z (by decide) (by decide) (by decide)⟩⟩
  have hgx : am_gx R ≤ 0 := by
    unfold am_gx
    rw [h126]
    exact Nat.le_refl _
  have hS : lS L xs 0 ((0, fun _ => 0), (0, fun _ => [], none), 0, fun _ => nI 0, none) 1 I R := ⟨hok, hc, hm, fun j => (fI _ _ _ (by omega) (by omega)).trans rfl, ⟨(fI _ _ _ (by omega) (by omega)).trans rfl, hL⟩, h365, hgx⟩
  obtain ⟨I', R', Q', g2, r1, r2⟩ := lc_loop (d := 9) (Q := am_Q0) hS am_J am_J
  exact ⟨I', R', Q', g.trans g2, r1, r2⟩
