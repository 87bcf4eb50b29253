/-! What the methods' names and signatures say. -/
def am_slots : List Nat → Nat
  | [] => 0
  | t :: ts => (if t = 2 then 2 else 1) + am_slots ts
def am_chM (M : Nat) : Bool := plainFor (am_yy M) && (am_yy M).cls == am_on M && decide ((am_yy M).cls ≠ "java/lang/invoke/MethodHandle" ∧ (am_yy M).cls ≠ "java/lang/invoke/VarHandle") && decide ((parseMethodDescriptor (am_yy M).desc).map (fun d => d.parameters.length) = some ((am_sg M).length - (if am_isS M = true then 0 else 1))) && decide (am_slots (am_sg M) ≤ am_ml M) && (am_lg M || (am_sg M).all (fun t => t != 2)) && decide (am_ml M ≤ 20) && (am_isS M || ((am_sg M).headD 0 == 1 && decide (am_oc M < 13) && am_RX (am_oc M) == (am_yy M).cls))
theorem am_chM_0 : ∀ i, i < 30 → am_chM (0 + i) = true := by decide +kernel
theorem am_chM_30 : ∀ i, i < 30 → am_chM (30 + i) = true := by decide +kernel
theorem am_chM_60 : ∀ i, i < 30 → am_chM (60 + i) = true := by decide +kernel
theorem am_chM_90 : ∀ i, i < 30 → am_chM (90 + i) = true := by decide +kernel
theorem am_chM_120 : ∀ i, i < 30 → am_chM (120 + i) = true := by decide +kernel
theorem am_chM_150 : ∀ i, i < 30 → am_chM (150 + i) = true := by decide +kernel
theorem am_chM_180 : ∀ i, i < 30 → am_chM (180 + i) = true := by decide +kernel
theorem am_chM_210 : ∀ i, i < 30 → am_chM (210 + i) = true := by decide +kernel
theorem am_chM_240 : ∀ i, i < 30 → am_chM (240 + i) = true := by decide +kernel
theorem am_chM_270 : ∀ i, i < 13 → am_chM (270 + i) = true := by decide +kernel
theorem am_chM_all (M : Nat) (h : M < 283) : am_chM M = true := by
  rcases Nat.lt_or_ge M 30 with q | q
  · have e := am_chM_0 (M - 0) (by omega)
    rwa [show 0 + (M - 0) = M by omega] at e
  rcases Nat.lt_or_ge M 60 with q | q
  · have e := am_chM_30 (M - 30) (by omega)
    rwa [show 30 + (M - 30) = M by omega] at e
  rcases Nat.lt_or_ge M 90 with q | q
  · have e := am_chM_60 (M - 60) (by omega)
    rwa [show 60 + (M - 60) = M by omega] at e
  rcases Nat.lt_or_ge M 120 with q | q
  · have e := am_chM_90 (M - 90) (by omega)
    rwa [show 90 + (M - 90) = M by omega] at e
  rcases Nat.lt_or_ge M 150 with q | q
  · have e := am_chM_120 (M - 120) (by omega)
    rwa [show 120 + (M - 120) = M by omega] at e
  rcases Nat.lt_or_ge M 180 with q | q
  · have e := am_chM_150 (M - 150) (by omega)
    rwa [show 150 + (M - 150) = M by omega] at e
  rcases Nat.lt_or_ge M 210 with q | q
  · have e := am_chM_180 (M - 180) (by omega)
    rwa [show 180 + (M - 180) = M by omega] at e
  rcases Nat.lt_or_ge M 240 with q | q
  · have e := am_chM_210 (M - 210) (by omega)
    rwa [show 210 + (M - 210) = M by omega] at e
  rcases Nat.lt_or_ge M 270 with q | q
  · have e := am_chM_240 (M - 240) (by omega)
    rwa [show 240 + (M - 240) = M by omega] at e
  rcases Nat.lt_or_ge M 283 with q | q
  · have e := am_chM_270 (M - 270) (by omega)
    rwa [show 270 + (M - 270) = M by omega] at e
  omega
