theorem am_look_mem {l : List am_E} {pc : Nat} {q : Instr × Nat × (Nat × Nat × Int)} (h : l.lookup pc = some q) : (pc, q) ∈ l := by
  induction l with
  | nil => simp at h
  | cons a l ih =>
    obtain ⟨k, b⟩ := a
    rw [List.lookup_cons] at h
    by_cases e : pc = k
    · subst e
      simp at h
      subst h
      exact List.mem_cons_self
    · have e2 : (pc == k) = false := by simp [e]
      rw [e2] at h
      exact List.mem_cons_of_mem _ (ih h)
theorem am_fetch_lt {M pc : Nat} {q : Instr × Nat × (Nat × Nat × Int)} (h : am_fetch M pc = some q) : M < 283 := by
  rcases Nat.lt_or_ge M 283 with a | a
  · exact a
  · exfalso
    have e : am_TB M = [] := by
      unfold am_TB
      have hl : am_tbs.length = 283 := by decide +kernel
      rw [List.getD_eq_getElem?_getD, List.getElem?_eq_none (by omega)]
      rfl
    unfold am_fetch at h
    rw [e] at h
    simp at h
theorem am_chk_at {M pc len : Nat} {i : Instr} {z : Nat × Nat × Int} (h : am_fetch M pc = some (i, len, z)) : decode (am_cc M) pc = .ok (i, len) ∧ (am_il i = 0 ∨ len = am_il i) ∧ am_chI M pc i z = true := by
  have h1 := am_chk_all M (am_fetch_lt h)
  unfold am_chk at h1
  have h2 := List.all_eq_true.mp h1 _ (am_look_mem h)
  unfold am_chE at h2
  rw [Bool.and_eq_true, Bool.and_eq_true] at h2
  refine ⟨of_decide_eq_true h2.1.1, ?_, h2.2⟩
  have h3 := h2.1.2
  rw [Bool.or_eq_true, beq_iff_eq, beq_iff_eq] at h3
  exact h3
