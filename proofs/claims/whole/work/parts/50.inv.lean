/-! What holds of every plate; a TEN keeps it. -/
theorem max_nat (x : Int32) : ∃ r, r < 2 ^ 31 ∧ sp_max (nI 0) x = nI r := by
  by_cases e : nI 0 < x
  · rw [sp_max, if_pos e]
    obtain ⟨j, hj, rfl⟩ := nI_of (x := x) (Int32.not_lt.mpr (by rw [← nI_0]; exact Int32.le_of_lt e))
    exact ⟨j, hj, rfl⟩
  · exact ⟨0, by decide, by rw [sp_max, if_neg e]⟩
theorem gain_nat (x : Int32) : ∃ q, q ≤ 99 ∧ sp_max (nI 0) (sp_min (nI 99) x) = nI q := by
  obtain ⟨r, hr, e⟩ := max_nat (sp_min (nI 99) x)
  refine ⟨r, ?_, e⟩
  by_cases e1 : x < nI 99
  · rw [sp_min, if_pos e1] at e
    by_cases e2 : nI 0 < x
    · rw [sp_max, if_pos e2] at e
      rw [e, nI_lt2 hr (by decide)] at e1
      omega
    · rw [sp_max, if_neg e2, nI_eq2 (by decide) hr] at e
      omega
  · rw [sp_min, if_neg e1, sp_max, if_pos (by decide), nI_eq2 (by decide) hr] at e
    omega
theorem sub_neg {a b : Nat} (h : a ≤ b) (hb : b < 2 ^ 31) : ¬ nI 0 < nI a - nI b := by
  intro q
  have e : nI a - nI b = -nI (b - a) := by
    rw [← nI_sub h, Int32.neg_sub]
  rw [e] at q
  have h1 := Int32.lt_iff_toInt_lt.mp q
  have h2 : (nI 0).toInt = 0 := by rw [nI_toInt (by decide)]; rfl
  rw [h2] at h1
  have h3 : (-nI (b - a)).toInt = -((b - a : Nat) : Int) := by
    rw [Int32.toInt_neg, nI_toInt (by omega)]
    exact bm_32 (by omega) (by omega)
  omega
theorem max_sub {a b : Nat} (ha : a < 2 ^ 31) (hb : b < 2 ^ 31) : sp_max (nI 0) (nI a - nI b) = nI (a - b) := by
  by_cases e : b ≤ a
  · rw [nI_sub e]
    by_cases e1 : a - b = 0
    · rw [e1, sp_max, if_neg (by decide)]
    · rw [sp_max, if_pos (by rw [nI_lt2 (by decide) (by omega)]; omega)]
  · rw [sp_max, if_neg (sub_neg (by omega) hb), show a - b = 0 by omega]
/-- a CELL of a plate of n CELLS, of an oven at which it bursts from b on -/
def ce_ok (n b : Nat) (P : Nat → Nat → Int32) (c : Nat) : Prop := ∃ t i g u : Nat, P 0 c = nI t ∧ P 1 c = nI i ∧ P 2 c = nI g ∧ P 3 c = nI u ∧ t ≤ 9 ∧ i ≤ 99 ∧ g < b ∧ u ≤ 1 ∧ (t = 0 → i = 0 ∧ g = 0 ∧ u = 0) ∧ (n ≤ c → t = 0)
def pt_I (n b m : Nat) (P : Nat → Nat → Int32) : Prop := P 4 0 = nI n ∧ (P 4 2 = nI 0 ∨ P 4 2 = nI 1) ∧ (∃ t, t ≤ m ∧ P 4 1 = nI t) ∧ (∀ c, c < 25 → ce_ok n b P c) ∧ ∃ c, c < 25 ∧ ¬ P 0 c ≤ 0
theorem nI_le00 {t : Nat} (ht : t < 2 ^ 31) : nI t ≤ 0 ↔ t = 0 := by rw [nI_le0 ht]
/-- before it bursts -/
def ce_2 (n : Nat) (P : Nat → Nat → Int32) (c : Nat) : Prop := ∃ t i g u : Nat, P 0 c = nI t ∧ P 1 c = nI i ∧ P 2 c = nI g ∧ P 3 c = nI u ∧ t ≤ 9 ∧ i ≤ 99 ∧ g < 2 ^ 31 ∧ u ≤ 1 ∧ (t = 0 → i = 0 ∧ g = 0 ∧ u = 0) ∧ (n ≤ c → t = 0)
section
variable {n b m : Nat} {P : Nat → Nat → Int32} {V : (Nat → Int32) → Int32} {B : Nat → Nat → Int32} {sh : Nat → Int32} {sp pw : Int32}
theorem warm_ce {c : Nat} (hb : b ≤ 99) (h : ce_ok n b P c) : ∃ t i g u : Nat, sp_warm V B sh n pw P 0 c = nI t ∧ sp_warm V B sh n pw P 1 c = nI i ∧ sp_warm V B sh n pw P 2 c = nI g ∧ sp_warm V B sh n pw P 3 c = nI u ∧ t ≤ 9 ∧ i ≤ 99 ∧ g < 1000 ∧ u ≤ 1 ∧ (t = 0 → i = 0 ∧ g = 0 ∧ u = 0) ∧ (n ≤ c → t = 0) ∧ (i = 0 ∨ g < b) := by
  obtain ⟨t, i, g, u, h0, h1, h2, h3, ht, hi, hg, hu, hz, hn⟩ := h
  have e4 : ∀ a, a < 4 → ¬ a = 4 := fun a ha q => by omega
  by_cases hc : c < n ∧ ¬ P 0 c ≤ 0
  · have ht0 : ¬ t = 0 := fun q => hc.2 (by rw [h0, q]; decide)
    obtain ⟨q, hq, eg⟩ := gain_nat (V (sp_let B sh n pw P c))
    by_cases hp : P 1 c ≤ 0
    · have hi0 : i = 0 := by rw [h1] at hp; exact (nI_le00 (by omega)).mp hp
      have w : ∀ a, a < 4 → sp_warm V B sh n pw P a c = if a = 2 then P 2 c + nI q else P a c := fun a ha => by
        rw [sp_warm, if_neg (e4 a ha), if_pos hc, if_pos hp, sp_gain, eg]
      refine ⟨t, i, g + q, u, ?_, ?_, ?_, ?_, ht, hi, by omega, hu, fun e => absurd e ht0, hn, Or.inl hi0⟩
      · rw [w 0 (by decide), if_neg (by decide), h0]
      · rw [w 1 (by decide), if_neg (by decide), h1]
      · rw [w 2 (by decide), if_pos rfl, h2, nI_add]
      · rw [w 3 (by decide), if_neg (by decide), h3]
    · have w : ∀ a, a < 4 → sp_warm V B sh n pw P a c = if a = 1 then sp_max (nI 0) (P 1 c - nI q / nI 2) else P a c := fun a ha => by
        rw [sp_warm, if_neg (e4 a ha), if_pos hc, if_neg hp, sp_gain, eg]
      refine ⟨t, i - q / 2, g, u, ?_, ?_, ?_, ?_, ht, by omega, by omega, hu, fun e => absurd e ht0, hn, Or.inr hg⟩
      · rw [w 0 (by decide), if_neg (by decide), h0]
      · rw [w 1 (by decide), if_pos rfl, h1, nI_div (by omega) (by decide), max_sub (by omega) (by omega)]
      · rw [w 2 (by decide), if_neg (by decide), h2]
      · rw [w 3 (by decide), if_neg (by decide), h3]
  · have w : ∀ a, a < 4 → sp_warm V B sh n pw P a c = P a c := fun a ha => by rw [sp_warm, if_neg (e4 a ha), if_neg hc]
    exact ⟨t, i, g, u, by rw [w 0 (by decide), h0], by rw [w 1 (by decide), h1], by rw [w 2 (by decide), h2], by rw [w 3 (by decide), h3], ht, hi, by omega, hu, hz, hn, Or.inr hg⟩
theorem spread_ce {c : Nat} {X : Nat → Nat → Int32} (h : ce_2 n X c) : ce_2 n (fun a j => if a = 4 then X a j else sp_spread B sp n X a j) c := by
  obtain ⟨t, i, g, u, h0, h1, h2, h3, ht, hi, hg, hu, hz, hn⟩ := h
  have e4 : ∀ a, a < 4 → ¬ a = 4 := fun a ha q => by omega
  by_cases hc : c < n
  · obtain ⟨fl, hfl⟩ : ∃ fl, fl = if X 0 c ≤ 0 then nI 0 else sp_flow B sp X c := ⟨_, rfl⟩
    by_cases hp : X 1 c ≤ 0
    · have hi0 : i = 0 := by rw [h1] at hp; exact (nI_le00 (by omega)).mp hp
      have w : ∀ a, a < 4 → (if a = 4 then X a c else sp_spread B sp n X a c) = if a = 2 then sp_max (nI 0) (X 2 c + fl) else X a c := fun a ha => by
        rw [if_neg (e4 a ha), sp_spread, if_pos hc, if_pos hp, hfl]
      obtain ⟨r, hr, er⟩ := max_nat (X 2 c + fl)
      refine ⟨t, i, r, u, (w 0 (by decide)).trans ((if_neg (by decide)).trans h0), (w 1 (by decide)).trans ((if_neg (by decide)).trans h1), (w 2 (by decide)).trans ((if_pos rfl).trans er), (w 3 (by decide)).trans ((if_neg (by decide)).trans h3), ht, hi, hr, hu, fun e => ?_, hn⟩
      obtain ⟨z1, z2, z3⟩ := hz e
      refine ⟨z1, ?_, z3⟩
      rw [if_pos (by rw [h0, e]; decide)] at hfl
      rw [h2, z2, hfl, show sp_max (nI 0) (nI 0 + nI 0) = nI 0 by decide, nI_eq2 (by decide) hr] at er
      omega
    · have w : ∀ a, a < 4 → (if a = 4 then X a c else sp_spread B sp n X a c) = if a = 1 then sp_max (nI 0) (X 1 c - sp_max (nI 0) fl) else X a c := fun a ha => by
        rw [if_neg (e4 a ha), sp_spread, if_pos hc, if_neg hp, hfl]
      obtain ⟨r, hr, er⟩ := max_nat fl
      refine ⟨t, i - r, g, u, (w 0 (by decide)).trans ((if_neg (by decide)).trans h0), (w 1 (by decide)).trans ((if_pos rfl).trans (by rw [er, h1, max_sub (by omega) hr])), (w 2 (by decide)).trans ((if_neg (by decide)).trans h2), (w 3 (by decide)).trans ((if_neg (by decide)).trans h3), ht, by omega, hg, hu, fun e => ?_, hn⟩
      obtain ⟨z1, z2, z3⟩ := hz e
      exact ⟨by omega, z2, z3⟩
  · have w : ∀ a, a < 4 → (if a = 4 then X a c else sp_spread B sp n X a c) = X a c := fun a ha => by rw [if_neg (e4 a ha), sp_spread, if_neg hc]
    exact ⟨t, i, g, u, (w 0 (by decide)).trans h0, (w 1 (by decide)).trans h1, (w 2 (by decide)).trans h2, (w 3 (by decide)).trans h3, ht, hi, hg, hu, hz, hn⟩
theorem burst_ce {c : Nat} {X : Nat → Nat → Int32} (hb : 50 ≤ b ∧ b ≤ 99) (h : ce_2 n X c) : ce_ok n b (sp_burst (nI b) n X) c := by
  obtain ⟨t, i, g, u, h0, h1, h2, h3, ht, hi, hg, hu, hz, hn⟩ := h
  have e4 : ∀ a, a < 4 → ¬ a = 4 := fun a ha q => by omega
  by_cases hc : c < n ∧ sp_bt (nI b) X c
  · have w : ∀ a, a < 4 → sp_burst (nI b) n X a c = if a = 3 then nI 1 else if a = 2 then nI b - nI 10 else X a c := fun a ha => by rw [sp_burst, if_neg (e4 a ha), if_pos hc]
    refine ⟨t, i, b - 10, 1, ?_, ?_, ?_, ?_, ht, hi, by omega, Nat.le_refl _, fun e => absurd (show X 0 c ≤ 0 by rw [h0, e]; decide) hc.2.1, hn⟩
    · rw [w 0 (by decide), if_neg (by decide), if_neg (by decide), h0]
    · rw [w 1 (by decide), if_neg (by decide), if_neg (by decide), h1]
    · rw [w 2 (by decide), if_neg (by decide), if_pos rfl, nI_sub (by omega)]
    · rw [w 3 (by decide), if_pos rfl]
  · have w : ∀ a, a < 4 → sp_burst (nI b) n X a c = X a c := fun a ha => by rw [sp_burst, if_neg (e4 a ha), if_neg hc]
    refine ⟨t, i, g, u, by rw [w 0 (by decide), h0], by rw [w 1 (by decide), h1], by rw [w 2 (by decide), h2], by rw [w 3 (by decide), h3], ht, hi, ?_, hu, hz, hn⟩
    by_cases e : t = 0
    · have := (hz e).2.1; omega
    · have hcn : c < n := by
        by_cases q : c < n
        · exact q
        · exact absurd (hn (by omega)) e
      by_cases q : X 2 c < nI b
      · rw [h2, nI_lt2 hg (by omega)] at q; exact q
      · exact absurd ⟨hcn, fun z => e (by rw [h0] at z; exact (nI_le00 (by omega)).mp z), q⟩ hc
theorem ten_I (hb : 50 ≤ b ∧ b ≤ 99) (h : pt_I n b m P) : pt_I n b (m + 1) (sp_ten V B sh sp (nI b) n pw P).1 := by
  obtain ⟨h1, h2, ⟨t, ht, ht2⟩, h3, c0, hc0, hf0⟩ := h
  have key : ∀ P1 : Nat → Nat → Int32, (∀ j, P1 4 j = P 4 j) → (∀ j, P1 0 j = P 0 j) → (∀ c, c < 25 → ce_2 n P1 c) → pt_I n b (m + 1) (sp_up (sp_burst (nI b) n (fun a j => if a = 4 then P1 a j else sp_spread B sp n P1 a j)) 4 1 (P 4 1 + nI 1)) := by
    intro P1 e4 e0 hP1
    have u4 : ∀ j, ¬ j = 1 → sp_up (sp_burst (nI b) n (fun a j => if a = 4 then P1 a j else sp_spread B sp n P1 a j)) 4 1 (P 4 1 + nI 1) 4 j = P 4 j := fun j hj => by
      rw [up_nc hj, sp_burst, if_pos rfl]
      exact (if_pos rfl).trans (e4 j)
    refine ⟨(u4 0 (by decide)).trans h1, ?_, ⟨t + 1, by omega, by rw [up_eq, ht2, nI_add]⟩, fun c hc => ?_, c0, hc0, ?_⟩
    · rw [u4 2 (by decide)]; exact h2
    · obtain ⟨t, i, g, u, q0, q1, q2, q3, qr⟩ := burst_ce hb (spread_ce (B := B) (sp := sp) (hP1 c hc))
      exact ⟨t, i, g, u, by rw [up_na (by decide)]; exact q0, by rw [up_na (by decide)]; exact q1, by rw [up_na (by decide)]; exact q2, by rw [up_na (by decide)]; exact q3, qr⟩
    · rw [up_na (by decide)]
      have e : sp_burst (nI b) n (fun a j => if a = 4 then P1 a j else sp_spread B sp n P1 a j) 0 c0 = P 0 c0 := by
        have s : (fun a j => if a = 4 then P1 a j else sp_spread B sp n P1 a j) 0 c0 = P 0 c0 := by
          show (if 0 = 4 then P1 0 c0 else sp_spread B sp n P1 0 c0) = P 0 c0
          rw [if_neg (by decide), sp_spread]
          by_cases q : c0 < n
          · rw [if_pos q]
            by_cases q2 : P1 1 c0 ≤ 0
            · rw [if_pos q2, if_neg (by decide), e0]
            · rw [if_neg q2, if_neg (by decide), e0]
          · rw [if_neg q, e0]
        rw [sp_burst, if_neg (by decide)]
        split
        · rw [if_neg (by decide), if_neg (by decide)]; exact s
        · exact s
      rw [e]; exact hf0
  have k1 : ∀ c, c < 25 → ce_2 n P c := fun c hc => by
    obtain ⟨t, i, g, u, q0, q1, q2, q3, a1, a2, a3, a4⟩ := h3 c hc
    exact ⟨t, i, g, u, q0, q1, q2, q3, a1, a2, by omega, a4⟩
  simp only [sp_ten]
  by_cases e : pw ≤ 0
  · rw [if_pos e]
    exact key P (fun _ => rfl) (fun _ => rfl) k1
  · rw [if_neg e]
    refine key _ (fun j => if_pos rfl) (fun j => warm_0) (fun c hc => ?_)
    obtain ⟨t, i, g, u, q0, q1, q2, q3, a1, a2, a3, a4, a5, a6, -⟩ := warm_ce (V := V) (B := B) (sh := sh) (pw := pw) hb.2 (h3 c hc)
    exact ⟨t, i, g, u, q0, q1, q2, q3, a1, a2, by omega, a4, a5, a6⟩
end
