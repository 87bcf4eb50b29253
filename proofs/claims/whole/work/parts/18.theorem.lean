/-! THE THEOREM of the A-machine: what it answers, the machine does. -/
/-- the calls beyond the machine's own methods: String's, the law's helper -/
def am_CX (l : Launch) (D : va_G) (cA : Nat → Nat) (A : Nat → Prop) (rm : Nat → Nat) (I0 : am_I) (Fx : State → Prop) : Prop :=
  ∀ (p : Program) (e : Env) (Rm : Room) (s : State) (m : MethodId) (args : Array Value) (below : List Frame) (meth : Method) (c : Code) (M n0 xg xg1 : Nat) (ad0 : Nat → Nat) (Qf : State → Prop) (pc : Nat) (als ast : List Value) (I : am_I) (R : am_R) (Q : am_Q) (k d idx kind : Nat) (z : Nat × Nat × Int) (vs rest : List Value) (r1 : Option Value) (I1 : am_I) (R1 : am_R) (Q1 : am_Q), am_Cx M A rm I0 Fx D cA p s m args meth c → am_P l D cA A rm I0 Fx k → am_chV M idx z kind = true → 283 ≤ z.1 → decode (am_cc M) pc = .ok (if kind = 0 then .invokevirtual idx else if kind = 1 then .invokestatic idx else .invokespecial idx, 3) → kind ≤ 2 → am_inv z pc als ast I R Q = some (.inr (.inr (z.1, vs, rest))) → am_cl (fun M'' a I R Q => am_run k d M'' 0 (am_lo M'' a) [] I R Q) z.1 vs I R Q = some (r1, I1, R1, Q1) → (2 * (d + 1) + 6 ≤ Rm.frames ∧ 80 * (d + 1 + 5) ≤ Rm.locals) → xg1 + am_gx R = xg + am_gx R1 → (∀ n', R1 127 0 0 = some n' → n' - n0 + xg1 ≤ Rm.cells ∧ am_ss n' - am_ss n0 + 6 * xg1 ≤ Rm.slots) → am_G p l e Rm s m args below meth c D cA A rm I0 M n0 xg1 ad0 Qf (pc + 3) als (r1.toList ++ rest) I1 R1 Q1 → am_G p l e Rm s m args below meth c D cA A rm I0 M n0 xg ad0 Qf pc als ast I R Q
/-- an end that is no call -/
def am_isRet (i : Instr) : Bool := match i with
  | .ireturn | .lreturn | .areturn | .return_ | .new _ => true
  | _ => false
theorem am_ret_noinv {i : Instr} {z : Nat × Nat × Int} {pc : Nat} {als ast : List Value} {I : am_I} {R : am_R} {Q : am_Q} {o : Nat × List Value × List Value} (hi : am_isRet i = true) : ¬ am_step i z pc als ast I R Q = some (.inr (.inr o)) := by
  intro hs
  cases i with
  | ireturn =>
    unfold am_step at hs
    dsimp only at hs
    (repeat' split at hs) <;> cases hs
  | lreturn =>
    unfold am_step at hs
    dsimp only at hs
    (repeat' split at hs) <;> cases hs
  | areturn =>
    unfold am_step at hs
    dsimp only at hs
    (repeat' split at hs) <;> cases hs
  | return_ =>
    unfold am_step at hs
    dsimp only at hs
    (repeat' split at hs) <;> cases hs
  | new x0 =>
    unfold am_step am_mkO at hs
    dsimp only at hs
    (repeat' split at hs) <;> cases hs
  | _ => cases hi
theorem am_step_inv {i : Instr} {z : Nat × Nat × Int} {pc : Nat} {als ast : List Value} {I : am_I} {R : am_R} {Q : am_Q} {M' : Nat} {vs rest : List Value} (hs : am_step i z pc als ast I R Q = some (.inr (.inr (M', vs, rest)))) : ∃ idx kind : Nat, kind ≤ 2 ∧ i = (if kind = 0 then .invokevirtual idx else if kind = 1 then .invokestatic idx else .invokespecial idx) ∧ am_inv z pc als ast I R Q = some (.inr (.inr (M', vs, rest))) := by
  cases i with
  | invokevirtual x0 => exact ⟨x0, 0, by decide, rfl, hs⟩
  | invokestatic x0 => exact ⟨x0, 1, by decide, rfl, hs⟩
  | invokespecial x0 => exact ⟨x0, 2, by decide, rfl, hs⟩
  | ireturn => exact absurd hs (am_ret_noinv rfl)
  | lreturn => exact absurd hs (am_ret_noinv rfl)
  | areturn => exact absurd hs (am_ret_noinv rfl)
  | return_ => exact absurd hs (am_ret_noinv rfl)
  | new x0 => exact absurd hs (am_ret_noinv rfl)
  | _ => exact absurd (am_step_out hs) (show ¬ (false = true) by decide)
theorem am_G_cnt {p : Program} {l : Launch} {e : Env} {Rm : Room} {s : State} {m : MethodId} {args : Array Value} {below : List Frame} {meth : Method} {c : Code} {D : va_G} {cA : Nat → Nat} {A : Nat → Prop} {rm : Nat → Nat} {I0 : am_I} {M n0 xg : Nat} {ad0 : Nat → Nat} {Qf : State → Prop} {pc : Nat} {als ast : List Value} {I : am_I} {R : am_R} {Q : am_Q} (h : ∀ n, R 127 0 0 = some n → am_G p l e Rm s m args below meth c D cA A rm I0 M n0 xg ad0 Qf pc als ast I R Q) : am_G p l e Rm s m args below meth c D cA A rm I0 M n0 xg ad0 Qf pc als ast I R Q := fun ad n H locs ls h1 h2 h3 h4 h5 h6 h7 => h n h4.2.1 ad n H locs ls h1 h2 h3 h4 h5 h6 h7
theorem am_chV_more {M idx kind : Nat} {z : Nat × Nat × Int} (hc : am_chV M idx z kind = true) (h1 : z.1 < 1000) : (z.1 < 900 → z.1 < 283) ∧ (z.1 = 950 → kind = 1 ∧ M = am_lst) ∧ (900 ≤ z.1 → z.1 < 903 ∨ z.1 = 950) ∧ (900 ≤ z.1 → z.1 < 903 → kind = 0) ∧ (283 ≤ z.1 → (am_oc M, idx, z.1) ∈ am_ml2) := by
  unfold am_chV at hc
  rcases am_or_beq hc with h | h
  · have := beq_iff_eq.mp h; omega
  · simp only [Bool.and_eq_true, Bool.or_eq_true, beq_iff_eq, bne_iff_ne, decide_eq_true_eq, ne_eq] at h
    obtain ⟨⟨⟨⟨⟨⟨⟨⟨⟨a1, a2⟩, a3⟩, a4⟩, a5⟩, a6⟩, a7⟩, a8⟩, a9⟩, a10⟩ := h
    refine ⟨fun q => by omega, fun q => a6.resolve_left (fun w => w q), fun q => by omega, fun q w => by omega, fun q => ?_⟩
    split at a1
    · rename_i h3
      simp only [Bool.and_eq_true, beq_iff_eq, decide_eq_true_eq] at a1
      omega
    · simp only [Bool.and_eq_true, Bool.or_eq_true, beq_iff_eq, decide_eq_true_eq] at a1
      exact am_cont a1.1
/-- a frame that is not the law's throws nothing that stays -/
theorem am_run_gx : ∀ (k d M pc : Nat) (ls st : List Value) (I : am_I) (R : am_R) (Q : am_Q) (r : Option Value) (I' : am_I) (R' : am_R) (Q' : am_Q) (n : Nat), M ≠ am_lst → am_run k d M pc ls st I R Q = some (r, I', R', Q') → R 127 0 0 = some n → am_gx R' = am_gx R := by
  intro k
  induction k with
  | zero => intro d M pc ls st I R Q r I' R' Q' n _ h; simp [am_run] at h
  | succ k ih =>
    intro d M pc ls st I R Q r I' R' Q' n hM h hn
    rw [am_run] at h
    cases hf : am_fetch M pc with
    | none => rw [hf] at h; cases h
    | some q =>
      obtain ⟨i, len, z⟩ := q
      rw [hf] at h
      dsimp only at h
      cases hs : am_step i z pc ls st I R Q with
      | none => rw [hs] at h; cases h
      | some o =>
        rw [hs] at h
        rcases o with ⟨pc', ls', st', I1, R1, Q1⟩ | r1 | ⟨M', vs, rest⟩
        · obtain ⟨n1, h1, -, h5⟩ := am_step_cnt hs hn
          have e := ih _ _ _ _ _ _ _ _ _ _ _ _ _ hM h h1
          rw [e]
          unfold am_gx
          rw [h5]
        · cases h
          rfl
        · dsimp only at h
          cases d with
          | zero => cases h
          | succ d =>
            dsimp only at h
            cases hc : am_cl (fun M'' a I R Q => am_run k d M'' 0 (am_lo M'' a) [] I R Q) M' vs I R Q with
            | none => rw [hc] at h; cases h
            | some y =>
              rw [hc] at h
              obtain ⟨r1, I1, R1, Q1⟩ := y
              obtain ⟨n1, h1, -, -⟩ := am_cl_cnt (fun M a I R Q r I' R' Q' n hq hn => am_run_cnt _ _ _ _ _ _ _ _ _ _ _ _ _ _ hq hn) hc hn
              have e := ih _ _ _ _ _ _ _ _ _ _ _ _ _ hM h h1
              rw [e]
              obtain ⟨hd, hl, hch⟩ := am_chk_at hf
              obtain ⟨idx, kind, hk2, hi, hinv⟩ := am_step_inv hs
              obtain ⟨hz1, hz2, -⟩ := am_inv_call hinv
              subst hz2
              have hchV : am_chV M idx z kind = true := by
                rw [hi] at hch
                rcases (show kind = 0 ∨ kind = 1 ∨ kind = 2 by omega) with q | q | q <;> subst q <;> exact hch
              obtain ⟨m1, m2, -⟩ := am_chV_more hchV hz1
              unfold am_cl at hc
              split at hc
              · rename_i hlt
                obtain ⟨g1, -⟩ := am_chV_own hchV (m1 hlt)
                exact ih _ _ _ _ _ _ _ _ _ _ _ _ _ g1 hc hn
              · split at hc
                · rename_i h950
                  exact absurd (m2 h950).2 hM
                · cases he : am_ext z.1 vs I with
                  | none => rw [he] at hc; cases hc
                  | some v => rw [he] at hc; cases hc; rfl
theorem am_all_P {l : Launch} {D : va_G} {cA : Nat → Nat} {A : Nat → Prop} {rm : Nat → Nat} {I0 : am_I} {Fx : State → Prop} (hT : am_FxT A Fx) (hX : am_CX l D cA A rm I0 Fx) : ∀ k, am_P l D cA A rm I0 Fx k := by
  intro k
  induction k with
  | zero => intro d M pc als ast I R Q r I' R' Q' h; simp [am_run] at h
  | succ k ih =>
    intro d M pc als ast I R Q r I' R' Q' h p e Rm s m args below meth c n0 xg xe ad0 Qf C hRm hgx hroom kret
    have hRm' : 1 ≤ Rm.frames ∧ 40 ≤ Rm.locals := ⟨by omega, by omega⟩
    rw [am_run] at h
    cases hf : am_fetch M pc with
    | none => rw [hf] at h; cases h
    | some q =>
      obtain ⟨i, len, z⟩ := q
      rw [hf] at h
      dsimp only at h
      cases hs : am_step i z pc als ast I R Q with
      | none => rw [hs] at h; cases h
      | some o =>
        rw [hs] at h
        have mono : ∀ (n1 n2 x1 : Nat), n1 ≤ n2 → x1 ≤ xe → (n2 - n0 + xe ≤ Rm.cells ∧ am_ss n2 - am_ss n0 + 6 * xe ≤ Rm.slots) → n1 - n0 + x1 ≤ Rm.cells ∧ am_ss n1 - am_ss n0 + 6 * x1 ≤ Rm.slots := by
          intro n1 n2 x1 h12 hx h3
          have := am_ss_mono h12
          omega
        rcases o with ⟨pc', ls', st', I1, R1, Q1⟩ | r1 | ⟨M', vs, rest⟩
        · refine am_G_cnt (fun n hn => ?_)
          obtain ⟨n1, a1, a2, a3⟩ := am_step_cnt hs hn
          obtain ⟨n2, g1, g2, g3⟩ := am_run_cnt _ _ _ _ _ _ _ _ _ _ _ _ _ _ h a1
          have e1 : am_gx R1 = am_gx R := by unfold am_gx; rw [a3]
          refine am_step_G C hf hs (fun n' hn' => ?_) hRm' (ih _ _ _ _ _ _ _ _ _ _ _ _ h p e Rm s m args below meth c n0 xg xe ad0 Qf C hRm (by rw [e1]; exact hgx) hroom kret)
          rw [a1] at hn'
          cases hn'
          exact mono n1 n2 xg g2 (by omega) (hroom n2 g1)
        · cases h
          have : xe = xg := by omega
          subst this
          exact kret pc als ast i len z hf hs
        · dsimp only at h
          cases d with
          | zero => cases h
          | succ d =>
            dsimp only at h
            cases hc : am_cl (fun M'' a I R Q => am_run k d M'' 0 (am_lo M'' a) [] I R Q) M' vs I R Q with
            | none => rw [hc] at h; cases h
            | some y =>
              rw [hc] at h
              obtain ⟨r1, I1, R1, Q1⟩ := y
              dsimp only at h
              refine am_G_cnt (fun n hn => ?_)
              obtain ⟨n1, a1, a2, a3⟩ := am_cl_cnt (fun M a I R Q r I' R' Q' n hq hn => am_run_cnt _ _ _ _ _ _ _ _ _ _ _ _ _ _ hq hn) hc hn
              obtain ⟨n2, g1, g2, g3⟩ := am_run_cnt _ _ _ _ _ _ _ _ _ _ _ _ _ _ h a1
              obtain ⟨xg1, hx1⟩ : ∃ xg1, xg1 + am_gx R = xg + am_gx R1 := ⟨xg + (am_gx R1 - am_gx R), by omega⟩
              have key := ih _ _ _ _ _ _ _ _ _ _ _ _ h p e Rm s m args below meth c n0 xg1 xe ad0 Qf C hRm (by omega) hroom kret
              obtain ⟨hd, hl, hch⟩ := am_chk_at hf
              obtain ⟨idx, kind, hk2, hi, hinv⟩ := am_step_inv hs
              obtain ⟨hz1, hz2, -⟩ := am_inv_call hinv
              subst hz2
              have hlen : len = 3 := by
                have e3 : am_il i = 3 := by
                  rw [hi]
                  rcases (show kind = 0 ∨ kind = 1 ∨ kind = 2 by omega) with q | q | q <;> subst q <;> rfl
                rw [e3] at hl
                exact hl.resolve_left (by decide)
              subst hlen
              have hchV : am_chV M idx z kind = true := by
                rw [hi] at hch
                rcases (show kind = 0 ∨ kind = 1 ∨ kind = 2 by omega) with q | q | q <;> subst q <;> exact hch
              rw [hi] at hd
              have hroom1 : ∀ n', R1 127 0 0 = some n' → n' - n0 + xg1 ≤ Rm.cells ∧ am_ss n' - am_ss n0 + 6 * xg1 ≤ Rm.slots := by
                intro n' hn'
                rw [a1] at hn'
                cases hn'
                exact mono n1 n2 xg1 g2 (by omega) (hroom n2 g1)
              rcases Nat.lt_or_ge z.1 283 with hlt | hge
              · unfold am_cl at hc
                rw [if_pos (by omega)] at hc
                obtain ⟨w1, -⟩ := am_chV_own hchV hlt
                have hgx1 := am_run_gx _ _ _ _ _ _ _ _ _ _ _ _ _ n w1 hc hn
                have : xg1 = xg := by omega
                subst this
                exact am_call_own C hT ih hchV hlt hd hk2 hinv hc hgx1 hRm hroom1 key
              · exact hX p e Rm s m args below meth c M n0 xg xg1 ad0 Qf pc als ast I R Q k d idx kind z vs rest r1 I1 R1 Q1 C ih hchV hge hd hk2 hinv hc hRm hx1 hroom1 key
