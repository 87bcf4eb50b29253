/-! What both sides ask ahead of a call. -/
theorem ahq {u a b j : Nat} (h : ah_S a b j) : qC u a b j := by
  unfold qC clS fC
  unfold ah_S at h
  omega
theorem ntq {u a b j : Nat} (h : nt_S 0 a b j) : qC u a b j := by
  unfold qC clS fC
  unfold nt_S at h
  omega
theorem coq {u a b j : Nat} (h : co_S u a b j) : qC u a b j := by
  unfold qC clS fC
  unfold co_S at h
  omega
theorem maq {n a b j : Nat} (h : ma_S 0 a b j) : qM n a b j := by
  unfold qM mdS fM6 fM
  unfold ma_S at h
  omega
theorem moq {n a b j : Nat} (h : mo_S a b j) : qM n a b j := by
  unfold qM mdS fM6 fM
  unfold mo_S at h
  omega
theorem mhq {n a b j : Nat} (h : mh_S a b j) : qM n a b j := by
  unfold qM mdS fM6 fM
  unfold mh_S at h
  omega
theorem rF_p0 {R : am_R} (h : pa_R R) : R 9 12 0 = some (am_mk 19 12) := (h.2.2.2.2.2.2.1 12 (by decide)).1
theorem in_nat0 {x : Int32} {b : Nat} (hb : b < 2 ^ 31) (h : 0 ≤ x ∧ x ≤ nI b) : ∃ k, k ≤ b ∧ x = nI k := in_nat hb (by rw [nI_0]; exact h)
section
variable {w : zLw} {E : zE} {P : Nat → Nat → Int32} {k : Nat} {PK : Nat → Nat → Nat → Int32} {tk : Nat → Nat} {u : Nat} {I : am_I} {R : am_R} {Q : am_Q}
theorem lC.lun (C : lC w E P u I R Q) (L : lF w E k PK tk) (d : Nat) : am_cal d 104 [.ref (am_mk 11 0)] I R Q = some (some (.int (nI 1)), I, R, Q) := by
  have h := c_lunch (d := d) (Q := Q) C.pa.2.1 C.h4 L.n25
  have := L.n1
  rw [if_neg (by omega)] at h
  exact h
theorem nC.lun (C : nC u I R) (d : Nat) : am_cal d 104 [.ref (am_mk 11 0)] I R Q = some (some (.int (nI 0)), I, R, Q) := by
  have h := c_lunch (d := d) (Q := Q) C.pa.2.1 C.h4 (by decide)
  rw [if_pos rfl] at h
  exact h
theorem lM.lun (C : lM w E P I R Q) (L : lF w E k PK tk) (d : Nat) : am_cal d 202 [.ref (am_mk 12 0)] I R Q = some (some (.int (nI 1)), I, R, Q) := by
  have h := m_lunch (d := d) (R := R) (Q := Q) C.hc L.n25
  have := L.n1
  rw [if_neg (by omega)] at h
  exact h
theorem nM.lun (C : nM I) (d : Nat) : am_cal d 202 [.ref (am_mk 12 0)] I R Q = some (some (.int (nI 0)), I, R, Q) := by
  have h := m_lunch (d := d) (R := R) (Q := Q) C.hc (by decide)
  rw [if_pos rfl] at h
  exact h
theorem lC.pow (C : lC w E P u I R Q) (L : lF w E k PK tk) (d : Nat) (x : Int32) : am_cal d 106 [.ref (am_mk 11 0), .int x] I R Q = some (some (.int (if 0 ≤ x ∧ x ≤ nI (E.2.1 2) then nI 1 else nI 0)), I, R, Q) := c_isPower C.pa.1 C.kk (C.ov 2 (by decide)) L.q9
theorem lM.pow (C : lM w E P I R Q) (L : lF w E k PK tk) (d : Nat) (x : Int32) : am_cal (d + 1) 205 [.ref (am_mk 12 0), .int x] I R Q = some (some (.int (if 0 ≤ x ∧ x ≤ nI (E.2.1 2) then nI 1 else nI 0)), I, R, Q) := by
  exact m_isPower C.hr C.hc L.n25 L.n1 (C.ov 2 (by decide)) L.q9
theorem lC.food (C : lC w E (PK k) u I R Q) (L : lF w E k PK tk) (d : Nat) (x : Int32) : am_cal d 76 [.ref (am_mk 9 12), .int x] I R Q = some (some (.int (if pp_f (PK k) x then nI 1 else nI 0)), I, R, Q) := c_food (rF_p0 C.pa) C.pp L.pt.1 L.n25
theorem lM.food (C : lM w E (PK k) I R Q) (L : lF w E k PK tk) (d : Nat) (x : Int32) : am_cal (d + 2) 204 [.ref (am_mk 12 0), .int x] I R Q = some (some (.int (if pp_f (PK k) x then nI 1 else nI 0)), I, R, Q) := m_isFood C.hr C.mm L.pt.1 L.n25
theorem nC.food (C : nC u I R) (d : Nat) (x : Int32) : am_cal d 76 [.ref (am_mk 9 12), .int x] I R Q = some (some (.int (nI 0)), I, R, Q) := by
  have h := c_food (d := d) (Q := Q) (n := 0) (x := x) (rF_p0 C.pa) C.pp rfl (by decide)
  rw [if_neg (fun q => q.2.2 (show nI 0 ≤ 0 by decide))] at h
  exact h
theorem nM.food (C : nM I) (hr : mm_R R) (d : Nat) (x : Int32) : am_cal (d + 2) 204 [.ref (am_mk 12 0), .int x] I R Q = some (some (.int (nI 0)), I, R, Q) := by
  have h := m_isFood (d := d) (Q := Q) (n := 0) (x := x) hr C.mm rfl (by decide)
  rw [if_neg (fun q => q.2.2 (show nI 0 ≤ 0 by decide))] at h
  exact h
end
