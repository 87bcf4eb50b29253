/-! What the A-machine answers, without a count of steps: equations. -/
theorem am_cl_mono {f g : Nat → List Value → am_I → am_R → am_Q → Option am_X} (h : ∀ M a I R Q x, f M a I R Q = some x → g M a I R Q = some x) {M : Nat} {args : List Value} {I : am_I} {R : am_R} {Q : am_Q} {x : am_X} (hx : am_cl f M args I R Q = some x) : am_cl g M args I R Q = some x := by
  unfold am_cl at hx ⊢
  by_cases h1 : M < 900
  · rw [if_pos h1] at hx ⊢
    exact h _ _ _ _ _ _ hx
  · rw [if_neg h1] at hx ⊢
    by_cases h2 : M = 950
    · rw [if_pos h2] at hx ⊢
      split at hx
      · rename_i a x0 y0 b
        by_cases h3 : b = am_mk 72 0 ∧ a % 128 = 11
        · rw [if_pos h3] at hx ⊢
          cases hf : f am_spot [.ref a, .int x0, .int y0] I R Q with
          | none => rw [hf] at hx; cases hx
          | some z =>
            rw [hf] at hx
            rw [h _ _ _ _ _ _ hf]
            exact hx
        · rw [if_neg h3] at hx
          cases hx
      · cases hx
    · rw [if_neg h2] at hx ⊢
      exact hx
theorem am_run_mono1 : ∀ (n d M pc : Nat) (ls st : List Value) (I : am_I) (R : am_R) (Q : am_Q) (x : am_X), am_run n d M pc ls st I R Q = some x → am_run (n + 1) d M pc ls st I R Q = some x := by
  intro n
  induction n with
  | zero => intro d M pc ls st I R Q x h; simp [am_run] at h
  | succ n ih =>
    intro d M pc ls st I R Q x h
    rw [am_run] at h ⊢
    cases hf : am_fetch M pc with
    | none => rw [hf] at h; cases h
    | some q =>
      obtain ⟨i, len, z⟩ := q
      rw [hf] at h
      dsimp only at h ⊢
      cases hs : am_step i z pc ls st I R Q with
      | none => rw [hs] at h; cases h
      | some o =>
        rw [hs] at h
        rcases o with ⟨pc', ls', st', I', R', Q'⟩ | r | ⟨M', args, rest⟩
        · exact ih _ _ _ _ _ _ _ _ _ h
        · exact h
        · dsimp only at h ⊢
          cases d with
          | zero => exact h
          | succ d =>
            dsimp only at h ⊢
            cases hc : am_cl (fun M'' a I R Q => am_run n d M'' 0 (am_lo M'' a) [] I R Q) M' args I R Q with
            | none => rw [hc] at h; cases h
            | some y =>
              rw [hc] at h
              rw [am_cl_mono (fun M a I R Q x hx => ih _ _ _ _ _ _ _ _ _ hx) hc]
              obtain ⟨r, I', R', Q'⟩ := y
              exact ih _ _ _ _ _ _ _ _ _ h
theorem am_run_mono {n m d M pc : Nat} {ls st : List Value} {I : am_I} {R : am_R} {Q : am_Q} {x : am_X} (hnm : n ≤ m) (h : am_run n d M pc ls st I R Q = some x) : am_run m d M pc ls st I R Q = some x := by
  obtain ⟨k, rfl⟩ := Nat.exists_eq_add_of_le hnm
  induction k with
  | zero => exact h
  | succ k ih => exact am_run_mono1 _ _ _ _ _ _ _ _ _ _ (ih (Nat.le_add_right _ _))
noncomputable def am_ch (p : am_X → Prop) : Option am_X := @dite _ (∃ x, p x) (Classical.propDecidable _) (fun h => some (Classical.choose h)) (fun _ => none)
theorem am_ch_iff {p : am_X → Prop} (hu : ∀ x y, p x → p y → x = y) (x : am_X) : am_ch p = some x ↔ p x := by
  unfold am_ch
  by_cases h : ∃ x, p x
  · rw [dif_pos h]
    constructor
    · intro e
      have e2 := Option.some.inj e
      rw [← e2]
      exact Classical.choose_spec h
    · intro e
      rw [hu _ _ (Classical.choose_spec h) e]
  · rw [dif_neg h]
    constructor
    · intro e; cases e
    · intro e; exact absurd ⟨x, e⟩ h
/-- what a frame comes to -/
noncomputable def am_ev (d M pc : Nat) (ls st : List Value) (I : am_I) (R : am_R) (Q : am_Q) : Option am_X := am_ch fun x => ∃ n, am_run n d M pc ls st I R Q = some x
theorem am_ev_iff {d M pc : Nat} {ls st : List Value} {I : am_I} {R : am_R} {Q : am_Q} {x : am_X} : am_ev d M pc ls st I R Q = some x ↔ ∃ n, am_run n d M pc ls st I R Q = some x := by
  unfold am_ev
  refine am_ch_iff (fun x y hx hy => ?_) x
  obtain ⟨n, hn⟩ := hx
  obtain ⟨m, hm⟩ := hy
  have h1 := am_run_mono (Nat.le_max_left n m) hn
  have h2 := am_run_mono (Nat.le_max_right n m) hm
  exact Option.some.inj (h1.symm.trans h2)
/-- a call's answer -/
noncomputable def am_cal (d M : Nat) (args : List Value) (I : am_I) (R : am_R) (Q : am_Q) : Option am_X := am_cl (fun M a I R Q => am_ev d M 0 (am_lo M a) [] I R Q) M args I R Q
theorem am_cl_iff {d M : Nat} {args : List Value} {I : am_I} {R : am_R} {Q : am_Q} {x : am_X} : am_cal d M args I R Q = some x ↔ ∃ n, am_cl (fun M'' a I R Q => am_run n d M'' 0 (am_lo M'' a) [] I R Q) M args I R Q = some x := by
  unfold am_cal am_cl
  by_cases h1 : M < 900
  · simp only [if_pos h1]
    exact am_ev_iff
  · simp only [if_neg h1]
    by_cases h2 : M = 950
    · simp only [if_pos h2]
      split
      · rename_i a x0 y0 b
        by_cases h3 : b = am_mk 72 0 ∧ a % 128 = 11
        · simp only [if_pos h3]
          constructor
          · intro h
            cases hf : am_ev d am_spot 0 (am_lo am_spot [.ref a, .int x0, .int y0]) [] I R Q with
            | none => rw [hf] at h; cases h
            | some z =>
              rw [hf] at h
              obtain ⟨n, hn⟩ := am_ev_iff.mp hf
              exact ⟨n, by rw [hn]; exact h⟩
          · intro ⟨n, h⟩
            cases hf : am_run n d am_spot 0 (am_lo am_spot [.ref a, .int x0, .int y0]) [] I R Q with
            | none => rw [hf] at h; cases h
            | some z =>
              rw [hf] at h
              rw [am_ev_iff.mpr ⟨n, hf⟩]
              exact h
        · simp only [if_neg h3]
          exact ⟨fun h => (by cases h), fun ⟨_, h⟩ => (by cases h)⟩
      · exact ⟨fun h => (by cases h), fun ⟨_, h⟩ => (by cases h)⟩
    · simp only [if_neg h2]
      exact ⟨fun h => ⟨0, h⟩, fun ⟨_, h⟩ => h⟩
theorem am_ev_nx {d M pc : Nat} {ls st : List Value} {I : am_I} {R : am_R} {Q : am_Q} {i : Instr} {len : Nat} {z : Nat × Nat × Int} {pc' : Nat} {ls' st' : List Value} {I' : am_I} {R' : am_R} {Q' : am_Q} (h1 : am_fetch M pc = some (i, len, z)) (h2 : am_step i z pc ls st I R Q = some (.inl (pc', ls', st', I', R', Q'))) : am_ev d M pc ls st I R Q = am_ev d M pc' ls' st' I' R' Q' := by
  apply Option.ext
  intro x
  rw [am_ev_iff, am_ev_iff]
  constructor
  · rintro ⟨n, h⟩
    cases n with
    | zero => simp [am_run] at h
    | succ n => rw [am_run, h1] at h; dsimp only at h; rw [h2] at h; exact ⟨n, h⟩
  · rintro ⟨n, h⟩
    exact ⟨n + 1, by rw [am_run, h1]; dsimp only; rw [h2]; exact h⟩
theorem am_ev_ret {d M pc : Nat} {ls st : List Value} {I : am_I} {R : am_R} {Q : am_Q} {i : Instr} {len : Nat} {z : Nat × Nat × Int} {r : Option Value} (h1 : am_fetch M pc = some (i, len, z)) (h2 : am_step i z pc ls st I R Q = some (.inr (.inl r))) : am_ev d M pc ls st I R Q = some (r, I, R, Q) := by
  rw [am_ev_iff]
  exact ⟨1, by rw [am_run, h1]; dsimp only; rw [h2]⟩
/-- behind a call -/
def am_th (o : Option am_X) (f : Option Value → am_I → am_R → am_Q → Option am_X) : Option am_X := match o with
  | none => none
  | some (r, I, R, Q) => f r I R Q
theorem am_th_some (r : Option Value) (I : am_I) (R : am_R) (Q : am_Q) (f : Option Value → am_I → am_R → am_Q → Option am_X) : am_th (some (r, I, R, Q)) f = f r I R Q := rfl
theorem am_ev_call {d M pc : Nat} {ls st : List Value} {I : am_I} {R : am_R} {Q : am_Q} {i : Instr} {len : Nat} {z : Nat × Nat × Int} {M' : Nat} {args rest : List Value} (h1 : am_fetch M pc = some (i, len, z)) (h2 : am_step i z pc ls st I R Q = some (.inr (.inr (M', args, rest)))) : am_ev (d + 1) M pc ls st I R Q = am_th (am_cal d M' args I R Q) fun r I R Q => am_ev (d + 1) M (pc + 3) ls (r.toList ++ rest) I R Q := by
  apply Option.ext
  intro x
  rw [am_ev_iff]
  constructor
  · rintro ⟨n, h⟩
    cases n with
    | zero => simp [am_run] at h
    | succ n =>
      rw [am_run, h1] at h
      dsimp only at h
      rw [h2] at h
      dsimp only at h
      cases hc : am_cl (fun M'' a I R Q => am_run n d M'' 0 (am_lo M'' a) [] I R Q) M' args I R Q with
      | none => rw [hc] at h; cases h
      | some y =>
        rw [hc] at h
        rw [am_cl_iff.mpr ⟨n, hc⟩]
        obtain ⟨r, I', R', Q'⟩ := y
        exact am_ev_iff.mpr ⟨n, h⟩
  · intro h
    cases hc : am_cal d M' args I R Q with
    | none => rw [hc] at h; cases h
    | some y =>
      rw [hc] at h
      obtain ⟨r, I', R', Q'⟩ := y
      obtain ⟨n, hn⟩ := am_cl_iff.mp hc
      obtain ⟨k, hk⟩ := am_ev_iff.mp (show am_ev (d + 1) M (pc + 3) ls (r.toList ++ rest) I' R' Q' = some x from h)
      refine ⟨max n k + 1, ?_⟩
      rw [am_run, h1]
      dsimp only
      rw [h2]
      dsimp only
      rw [am_cl_mono (fun M a I R Q x hx => am_run_mono (Nat.le_max_left n k) hx) hn]
      exact am_run_mono (Nat.le_max_right n k) hk
theorem am_ev_br {d M pc : Nat} {ls st : List Value} {I : am_I} {R : am_R} {Q : am_Q} {i : Instr} {len : Nat} {z : Nat × Nat × Int} {c : Prop} {hc : Decidable c} {pc1 pc2 : Nat} {ls' st' : List Value} (h1 : am_fetch M pc = some (i, len, z)) (h2 : am_step i z pc ls st I R Q = if c then some (.inl (pc1, ls', st', I, R, Q)) else some (.inl (pc2, ls', st', I, R, Q))) : am_ev d M pc ls st I R Q = if c then am_ev d M pc1 ls' st' I R Q else am_ev d M pc2 ls' st' I R Q := by
  by_cases hh : c
  · rw [if_pos hh] at h2 ⊢
    exact am_ev_nx h1 h2
  · rw [if_neg hh] at h2 ⊢
    exact am_ev_nx h1 h2
theorem am_cal_ev {d M : Nat} {args : List Value} {I : am_I} {R : am_R} {Q : am_Q} (h : M < 900) : am_cal d M args I R Q = am_ev d M 0 (am_lo M args) [] I R Q := by
  unfold am_cal am_cl
  rw [if_pos h]
