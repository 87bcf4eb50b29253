/-! The real TEN: FOOD stays in place, TENS are counted; only the CELLS' shares matter. -/
section
variable {n k : Nat} {P : Nat → Nat → Int32} {V : (Nat → Int32) → Int32} {B : Nat → Nat → Int32} {sh sh' : Nat → Int32} {sp bs pw : Int32}
theorem spread_0 {j : Nat} : sp_spread B sp n P 0 j = P 0 j := by
  unfold sp_spread
  by_cases e : j < n
  · rw [if_pos e]
    by_cases e1 : P 1 j ≤ 0
    · rw [if_pos e1, if_neg (by decide)]
    · rw [if_neg e1, if_neg (by decide)]
  · rw [if_neg e]
theorem burst_0 {j : Nat} : sp_burst bs n P 0 j = P 0 j := by
  unfold sp_burst
  rw [if_neg (by decide)]
  by_cases e : j < n ∧ sp_bt bs P j
  · rw [if_pos e, if_neg (by decide), if_neg (by decide)]
  · rw [if_neg e]
theorem ten_tT : tT (fun pw P => sp_ten V B sh sp bs n pw P) := fun x X => by
  refine ⟨fun c => ?_, ?_⟩
  · simp only [sp_ten]
    rw [sp_up, if_neg (fun w => absurd w.1 (by decide)), burst_0, if_neg (by decide), spread_0]
    by_cases e : x ≤ 0
    · rw [if_pos e]
    · rw [if_neg e]; exact warm_0
  · simp only [sp_ten]
    rw [sp_up, if_pos ⟨rfl, rfl⟩]
theorem let_sh (h : ∀ c, c < n → sh c = sh' c) (hk : k < n) : sp_let B sh n pw P k = sp_let B sh' n pw P k := by
  have hi : (if sp_opp P then n - 1 - k else k) < n := by
    by_cases e : sp_opp P
    · rw [if_pos e]; omega
    · rw [if_neg e]; exact hk
  funext j
  unfold sp_let
  rw [h _ hi]
theorem warm_sh (h : ∀ c, c < n → sh c = sh' c) : sp_warm V B sh n pw P = sp_warm V B sh' n pw P := by
  funext a j
  unfold sp_warm
  by_cases e : j < n ∧ ¬ P 0 j ≤ 0
  · have e2 : sp_gain V B sh n pw P j = sp_gain V B sh' n pw P j := by unfold sp_gain; rw [let_sh h e.1]
    rw [e2]
  · rw [if_neg e, if_neg e]
theorem ten_sh (h : ∀ c, c < n → sh c = sh' c) : sp_ten V B sh sp bs n pw P = sp_ten V B sh' sp bs n pw P := by
  unfold sp_ten
  rw [warm_sh h]
theorem ten_kT {b : Nat} (hb : 50 ≤ b ∧ b ≤ 99) (hn : n ≤ 25) : kT (fun pw P => sp_ten V B sh sp (nI b) n pw P) n b := fun m q P h => by
  refine ⟨ten_I hb h, ?_⟩
  have key : ∀ (X : Nat → Nat → Int32) (c : Nat), ∃ u, u ≤ c ∧ sp_bursts (nI b) c X = nI u := by
    intro X c
    induction c with
    | zero => exact ⟨0, Nat.le_refl _, rfl⟩
    | succ c ih =>
      obtain ⟨u, hu, e⟩ := ih
      unfold sp_bursts at e ⊢
      rw [fold_s, e]
      by_cases q : sp_bt (nI b) X c
      · rw [if_pos q, nI_add]; exact ⟨u + 1, by omega, rfl⟩
      · rw [if_neg q]; exact ⟨u, by omega, rfl⟩
  obtain ⟨u, hu, e⟩ := key _ n
  exact ⟨u, by omega, e⟩
end
