/-! Sums and means of a plate. -/
theorem fold_trunc {α : Type} {F : α → Nat → α} {a : α} {n N : Nat} (h : n ≤ N) (e : ∀ x c, n ≤ c → c < N → F x c = x) : am_fold F a N = am_fold F a n := by
  obtain ⟨k, rfl⟩ := Nat.exists_eq_add_of_le h
  induction k with
  | zero => rfl
  | succ k ih => rw [show n + (k + 1) = n + k + 1 from rfl, fold_s, e _ _ (by omega) (by omega), ih (by omega) fun x c h1 h2 => e x c h1 (by omega)]
section
variable {n b m : Nat} {P : Nat → Nat → Int32}
theorem ce_food {c : Nat} (h : ce_ok n b P c) (hf : ¬ P 0 c ≤ 0) : c < n := by
  obtain ⟨t, i, g, u, h0, h1, h2, h3, ht, hi, hg, hu, hz, hn⟩ := h
  by_cases q : c < n
  · exact q
  · exact absurd (by rw [h0, hn (by omega)]; decide) hf
theorem ce_no {c : Nat} (h : ce_ok n b P c) (hf : P 0 c ≤ 0) : P 0 c = nI 0 ∧ P 1 c = nI 0 ∧ P 2 c = nI 0 ∧ P 3 c = nI 0 := by
  obtain ⟨t, i, g, u, h0, h1, h2, h3, ht, hi, hg, hu, hz, hn⟩ := h
  have t0 : t = 0 := by rw [h0] at hf; exact (nI_le00 (by omega)).mp hf
  obtain ⟨z1, z2, z3⟩ := hz t0
  exact ⟨by rw [h0, t0], by rw [h1, z1], by rw [h2, z2], by rw [h3, z3]⟩
theorem ce_out {c : Nat} (h : ce_ok n b P c) (hc : n ≤ c) : P 0 c ≤ 0 := by
  by_cases q : P 0 c ≤ 0
  · exact q
  · exact absurd (ce_food h q) (by omega)
theorem sums_nat (hb : 1 ≤ b ∧ b ≤ 99) (h : ∀ c, c < 25 → ce_ok n b P c) : ∀ N, N ≤ 25 → ∃ k S T U : Nat, am_fold (sp_fd (P 0)) (nI 0) N = nI k ∧ am_fold (fun a c => a + P 1 c) (nI 0) N = nI S ∧ am_fold (fun a c => a + P 2 c) (nI 0) N = nI T ∧ am_fold (fun a c => a + P 3 c) (nI 0) N = nI U ∧ k ≤ N ∧ S ≤ 99 * k ∧ T ≤ (b - 1) * k ∧ U ≤ k ∧ ((∃ c, c < N ∧ ¬ P 0 c ≤ 0) → 1 ≤ k) ∧ (S = 0 ↔ ∀ c, c < N → P 1 c ≤ 0) := by
  intro N
  induction N with
  | zero => exact fun _ => ⟨0, 0, 0, 0, rfl, rfl, rfl, rfl, by omega, by omega, by omega, by omega, fun ⟨c, hc, _⟩ => absurd hc (Nat.not_lt_zero _), ⟨fun _ c hc => absurd hc (Nat.not_lt_zero _), fun _ => rfl⟩⟩
  | succ N ih =>
    intro hN
    obtain ⟨k, S, T, U, e0, e1, e2, e3, i1, i2, i3, i4, i5, i6⟩ := ih (by omega)
    obtain ⟨t, i, g, u, h0, h1, h2, h3, ht, hi, hg, hu, hz, hn⟩ := h N (by omega)
    by_cases q : P 0 N ≤ 0
    · have t0 : t = 0 := by rw [h0] at q; exact (nI_le00 (by omega)).mp q
      obtain ⟨z1, z2, z3⟩ := hz t0
      refine ⟨k, S, T, U, ?_, ?_, ?_, ?_, by omega, i2, i3, i4, fun ⟨c, hc, hf⟩ => i5 ⟨c, ?_, hf⟩, ?_⟩
      · rw [fold_s, e0, sp_fd, if_pos q, nI_add]; rfl
      · rw [fold_s, e1, h1, z1, nI_add]; rfl
      · rw [fold_s, e2, h2, z2, nI_add]; rfl
      · rw [fold_s, e3, h3, z3, nI_add]; rfl
      · rcases Nat.lt_succ_iff_lt_or_eq.mp hc with w | w
        · exact w
        · rw [w] at hf; exact absurd q hf
      · rw [i6]
        constructor
        · intro w c hc
          rcases Nat.lt_succ_iff_lt_or_eq.mp hc with v | v
          · exact w c v
          · rw [v, h1, z1]; decide
        · exact fun w c hc => w c (by omega)
    · refine ⟨k + 1, S + i, T + g, U + u, ?_, ?_, ?_, ?_, by omega, by omega, ?_, by omega, fun _ => by omega, ?_⟩
      · rw [fold_s, e0, sp_fd, if_neg q, nI_add]
      · rw [fold_s, e1, h1, nI_add]
      · rw [fold_s, e2, h2, nI_add]
      · rw [fold_s, e3, h3, nI_add]
      · rw [Nat.mul_add, Nat.mul_one]; omega
      · constructor
        · intro w c hc
          rcases Nat.lt_succ_iff_lt_or_eq.mp hc with v | v
          · exact i6.mp (by omega) c v
          · rw [v, h1, show i = 0 by omega]; decide
        · intro w
          have := i6.mpr fun c hc => w c (by omega)
          have w2 := w N (by omega)
          rw [h1] at w2
          have := (nI_le00 (by omega)).mp w2
          omega
theorem foods_n (hn : n ≤ 25) (h : ∀ c, c < 25 → ce_ok n b P c) : am_fold (sp_fd (P 0)) (nI 0) n = sp_foods P := (fold_trunc hn fun x c h1 h2 => by rw [sp_fd, if_pos (ce_out (h c h2) h1), nI_0, Int32.add_zero]).symm
theorem allOf_n {f : Nat → Int32} (hn : n ≤ 25) (h : ∀ c, c < 25 → ce_ok n b P c) (hf : ∀ c, c < 25 → P 0 c ≤ 0 → f c = nI 0) : am_fold (fun a c => a + if P 0 c ≤ 0 then nI 0 else f c) (nI 0) n = am_fold (fun a c => a + f c) (nI 0) 25 := by
  rw [fold_trunc hn fun x c h1 h2 => by
    show x + f c = x
    rw [hf c h2 (ce_out (h c h2) h1), nI_0, Int32.add_zero]]
  refine fold_congr fun x c hc => ?_
  by_cases q : P 0 c ≤ 0
  · rw [if_pos q, hf c (by omega) q]
  · rw [if_neg q]
/-- means, as numbers -/
theorem means_nat (hb : 1 ≤ b ∧ b ≤ 99) (h : pt_I n b m P) : ∃ k S T U : Nat, sp_foods P = nI k ∧ sp_ice P = nI S ∧ sp_deg P = nI T ∧ am_fold (fun a c => a + P 3 c) (nI 0) 25 = nI U ∧ 1 ≤ k ∧ k ≤ 25 ∧ S / k ≤ 99 ∧ T / k < b ∧ S < 10000 ∧ T < 10000 ∧ U ≤ 25 ∧ (S = 0 ↔ ∀ c, c < 25 → P 1 c ≤ 0) ∧ sp_dv (sp_ice P) (sp_foods P) = nI (S / k) ∧ sp_dv (sp_deg P) (sp_foods P) = nI (T / k) ∧ ¬ sp_foods P = 0 := by
  obtain ⟨h1, h2, h3, h4, h5⟩ := h
  obtain ⟨k, S, T, U, e0, e1, e2, e3, i1, i2, i3, i4, i5, i6⟩ := sums_nat hb h4 25 (Nat.le_refl _)
  have hk := i5 h5
  have e0' : sp_foods P = nI k := e0
  have e1' : sp_ice P = nI S := e1
  have e2' : sp_deg P = nI T := e2
  have s1 : S ≤ 99 * 25 := Nat.le_trans i2 (Nat.mul_le_mul_left _ i1)
  have s2 : T ≤ (b - 1) * k := i3
  have s3 : T ≤ 98 * 25 := Nat.le_trans i3 (Nat.mul_le_mul (by omega) i1)
  have k0 : ¬ nI k = 0 := by rw [nI_eq0 (by omega)]; omega
  refine ⟨k, S, T, U, e0', e1', e2', e3, hk, i1, ?_, ?_, by omega, by omega, by omega, i6, ?_, ?_, by rw [e0']; exact k0⟩
  · exact Nat.div_le_of_le_mul (by rw [Nat.mul_comm]; exact i2)
  · have : T / k ≤ b - 1 := Nat.div_le_of_le_mul (by rw [Nat.mul_comm]; exact s2)
    omega
  · rw [e0', e1', sp_dv, if_neg k0, nI_div (by omega) (by omega)]
  · rw [e0', e2', sp_dv, if_neg k0, nI_div (by omega) (by omega)]
theorem mix_I (hb : 1 ≤ b ∧ b ≤ 99) (h : pt_I n b m P) : pt_I n b m (sp_mix P) := by
  obtain ⟨k, S, T, U, -, -, -, -, -, -, q1, q2, -, -, -, -, d1, d2, -⟩ := means_nat hb h
  obtain ⟨h1, h2, h3, h4, c0, hc0, hf0⟩ := h
  have e4 : ∀ j, sp_mix P 4 j = P 4 j := fun j => by
    rw [sp_mix]
    split
    · rfl
    · rw [if_neg (by decide), if_neg (by decide)]
  have e0 : ∀ j, sp_mix P 0 j = P 0 j := fun j => by
    rw [sp_mix]
    split
    · rfl
    · rw [if_neg (by decide), if_neg (by decide)]
  have e3 : ∀ j, sp_mix P 3 j = P 3 j := fun j => by
    rw [sp_mix]
    split
    · rfl
    · rw [if_neg (by decide), if_neg (by decide)]
  refine ⟨(e4 0).trans h1, by rw [e4]; exact h2, by rw [e4]; exact h3, fun c hc => ?_, c0, hc0, by rw [e0]; exact hf0⟩
  obtain ⟨t, i, g, u, q0, q1', q2', q3, ht, hi, hg, hu, hz, hn⟩ := h4 c hc
  by_cases q : P 0 c ≤ 0
  · refine ⟨t, i, g, u, by rw [e0, q0], ?_, ?_, by rw [e3, q3], ht, hi, hg, hu, hz, hn⟩
    · rw [sp_mix, if_pos q, q1']
    · rw [sp_mix, if_pos q, q2']
  · refine ⟨t, S / k, T / k, u, by rw [e0, q0], ?_, ?_, by rw [e3, q3], ht, q1, q2, hu, fun w => absurd (show P 0 c ≤ 0 by rw [q0, w]; decide) q, hn⟩
    · rw [sp_mix, if_neg q, if_pos rfl, d1]
    · rw [sp_mix, if_neg q, if_neg (by decide), if_pos rfl, d2]
/-- the least DEGREES: class and model -/
def sp_least (P : Nat → Nat → Int32) : Int32 := am_fold (fun a c => if P 0 c ≤ 0 then a else if P 2 c < a then P 2 c else a) (nI 1000000000) 25
def sp_ext (P : Nat → Nat → Int32) (most : Bool) (n : Nat) : Int32 := am_fold (fun a c => if ¬ P 0 c ≤ 0 ∧ (a = -nI 1 ∨ if most then P 2 a.toNatClampNeg < P 2 c else P 2 c < P 2 a.toNatClampNeg) then nI c else a) (-nI 1) n
theorem m1_ne {j : Nat} (h : j < 2 ^ 31) : ¬ nI j = -nI 1 := fun q => by
  have := nI_0le h
  rw [q] at this
  exact absurd (of_eq_true this) (by decide)
theorem least_nat (hb : b ≤ 99) (h : ∀ c, c < 25 → ce_ok n b P c) : ∀ N, N ≤ 25 → (am_fold (fun a c => if ¬ P 0 c ≤ 0 ∧ (a = -nI 1 ∨ if (false = true) then P 2 a.toNatClampNeg < P 2 c else P 2 c < P 2 a.toNatClampNeg) then nI c else a) (-nI 1) N = -nI 1 ∧ (∀ c, c < N → P 0 c ≤ 0) ∧ am_fold (fun a c => if P 0 c ≤ 0 then a else if P 2 c < a then P 2 c else a) (nI 1000000000) N = nI 1000000000) ∨ (∃ j, j < N ∧ am_fold (fun a c => if ¬ P 0 c ≤ 0 ∧ (a = -nI 1 ∨ if (false = true) then P 2 a.toNatClampNeg < P 2 c else P 2 c < P 2 a.toNatClampNeg) then nI c else a) (-nI 1) N = nI j ∧ ¬ P 0 j ≤ 0 ∧ am_fold (fun a c => if P 0 c ≤ 0 then a else if P 2 c < a then P 2 c else a) (nI 1000000000) N = P 2 j ∧ ∀ c, c < N → ¬ P 0 c ≤ 0 → ¬ P 2 c < P 2 j) := by
  intro N
  induction N with
  | zero => exact fun _ => Or.inl ⟨rfl, fun c hc => absurd hc (Nat.not_lt_zero _), rfl⟩
  | succ N ih =>
    intro hN
    obtain ⟨t, i, g, u, h0, h1, h2, h3, ht, hi, hg, hu, hz, hn⟩ := h N (by omega)
    rcases ih (by omega) with ⟨e1, e2, e3⟩ | ⟨j, hj, e1, e2, e3, e4⟩
    · by_cases q : P 0 N ≤ 0
      · left
        refine ⟨?_, fun c hc => ?_, ?_⟩
        · rw [fold_s, e1, if_neg (fun w => w.1 q)]
        · rcases Nat.lt_succ_iff_lt_or_eq.mp hc with w | w
          · exact e2 c w
          · rw [w]; exact q
        · rw [fold_s, e3, if_pos q]
      · right
        refine ⟨N, by omega, ?_, q, ?_, fun c hc hf => ?_⟩
        · rw [fold_s, e1, if_pos ⟨q, Or.inl rfl⟩]
        · rw [fold_s, e3, if_neg q, if_pos (by rw [h2, nI_lt2 (by omega) (by decide)]; omega)]
        · rcases Nat.lt_succ_iff_lt_or_eq.mp hc with w | w
          · exact absurd (e2 c w) hf
          · rw [w]; exact Int32.lt_irrefl
    · right
      have hjc : (nI j).toNatClampNeg = j := nI_clamp (by omega)
      by_cases q : P 0 N ≤ 0
      · refine ⟨j, by omega, ?_, e2, ?_, fun c hc hf => ?_⟩
        · rw [fold_s, e1, if_neg (fun w => w.1 q)]
        · rw [fold_s, e3, if_pos q]
        · rcases Nat.lt_succ_iff_lt_or_eq.mp hc with w | w
          · exact e4 c w hf
          · rw [w] at hf; exact absurd q hf
      · by_cases q2 : P 2 N < P 2 j
        · refine ⟨N, by omega, ?_, q, ?_, fun c hc hf => ?_⟩
          · rw [fold_s, e1, if_pos ⟨q, Or.inr (by rw [if_neg (by decide), hjc]; exact q2)⟩]
          · rw [fold_s, e3, if_neg q, if_pos q2]
          · rcases Nat.lt_succ_iff_lt_or_eq.mp hc with w | w
            · exact fun v => e4 c w hf (Int32.lt_trans v q2)
            · rw [w]; exact Int32.lt_irrefl
        · refine ⟨j, by omega, ?_, e2, ?_, fun c hc hf => ?_⟩
          · rw [fold_s, e1, if_neg (fun w => w.2.elim (m1_ne (by omega)) (fun v => by rw [if_neg (by decide), hjc] at v; exact q2 v))]
          · rw [fold_s, e3, if_neg q, if_neg q2]
          · rcases Nat.lt_succ_iff_lt_or_eq.mp hc with w | w
            · exact e4 c w hf
            · rw [w]; exact q2
end
