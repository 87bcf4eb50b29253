/-! A method's start and end; a call; the theorem: what the A-machine answers the machine does. -/
def am_isOut (i : Instr) : Bool := match i with
  | .ireturn | .lreturn | .areturn | .return_ | .new _ | .invokevirtual _ | .invokespecial _ | .invokestatic _ => true
  | _ => false
section
variable {pc : Nat} {als ast : List Value} {I : am_I} {R : am_R} {Q : am_Q} {i : Instr} {z : Nat × Nat × Int}
theorem am_step_out {o : Option Value ⊕ (Nat × List Value × List Value)} (hs : am_step i z pc als ast I R Q = some (.inr o)) : am_isOut i = true := by
  cases i with
  | iadd =>
    unfold am_step at hs
    dsimp only at hs
    unfold am_bin at hs
    (repeat' split at hs) <;> cases hs
  | isub =>
    unfold am_step at hs
    dsimp only at hs
    unfold am_bin at hs
    (repeat' split at hs) <;> cases hs
  | imul =>
    unfold am_step at hs
    dsimp only at hs
    unfold am_bin at hs
    (repeat' split at hs) <;> cases hs
  | iand =>
    unfold am_step at hs
    dsimp only at hs
    unfold am_bin at hs
    (repeat' split at hs) <;> cases hs
  | ior =>
    unfold am_step at hs
    dsimp only at hs
    unfold am_bin at hs
    (repeat' split at hs) <;> cases hs
  | ixor =>
    unfold am_step at hs
    dsimp only at hs
    unfold am_bin at hs
    (repeat' split at hs) <;> cases hs
  | ishl =>
    unfold am_step at hs
    dsimp only at hs
    unfold am_bin at hs
    (repeat' split at hs) <;> cases hs
  | ishr =>
    unfold am_step at hs
    dsimp only at hs
    unfold am_bin at hs
    (repeat' split at hs) <;> cases hs
  | iushr =>
    unfold am_step at hs
    dsimp only at hs
    unfold am_bin at hs
    (repeat' split at hs) <;> cases hs
  | idiv =>
    unfold am_step at hs
    dsimp only at hs
    unfold am_binD at hs
    (repeat' split at hs) <;> cases hs
  | irem =>
    unfold am_step at hs
    dsimp only at hs
    unfold am_binD at hs
    (repeat' split at hs) <;> cases hs
  | ladd =>
    unfold am_step at hs
    dsimp only at hs
    unfold am_lbin at hs
    (repeat' split at hs) <;> cases hs
  | lsub =>
    unfold am_step at hs
    dsimp only at hs
    unfold am_lbin at hs
    (repeat' split at hs) <;> cases hs
  | lmul =>
    unfold am_step at hs
    dsimp only at hs
    unfold am_lbin at hs
    (repeat' split at hs) <;> cases hs
  | land =>
    unfold am_step at hs
    dsimp only at hs
    unfold am_lbin at hs
    (repeat' split at hs) <;> cases hs
  | lor =>
    unfold am_step at hs
    dsimp only at hs
    unfold am_lbin at hs
    (repeat' split at hs) <;> cases hs
  | ldiv =>
    unfold am_step at hs
    dsimp only at hs
    unfold am_lbinD at hs
    (repeat' split at hs) <;> cases hs
  | lrem =>
    unfold am_step at hs
    dsimp only at hs
    unfold am_lbinD at hs
    (repeat' split at hs) <;> cases hs
  | ineg =>
    unfold am_step at hs
    dsimp only at hs
    unfold am_un at hs
    (repeat' split at hs) <;> cases hs
  | i2l =>
    unfold am_step at hs
    dsimp only at hs
    unfold am_un at hs
    (repeat' split at hs) <;> cases hs
  | i2c =>
    unfold am_step at hs
    dsimp only at hs
    unfold am_un at hs
    (repeat' split at hs) <;> cases hs
  | lshl =>
    unfold am_step at hs
    dsimp only at hs
    (repeat' split at hs) <;> cases hs
  | lushr =>
    unfold am_step at hs
    dsimp only at hs
    (repeat' split at hs) <;> cases hs
  | l2i =>
    unfold am_step at hs
    dsimp only at hs
    (repeat' split at hs) <;> cases hs
  | lcmp =>
    unfold am_step at hs
    dsimp only at hs
    (repeat' split at hs) <;> cases hs
  | dup =>
    unfold am_step at hs
    dsimp only at hs
    (repeat' split at hs) <;> cases hs
  | dup2 =>
    unfold am_step at hs
    dsimp only at hs
    (repeat' split at hs) <;> cases hs
  | pop =>
    unfold am_step at hs
    dsimp only at hs
    (repeat' split at hs) <;> cases hs
  | aconst_null =>
    unfold am_step at hs
    dsimp only at hs
    (repeat' split at hs) <;> cases hs
  | iconst x0 =>
    unfold am_step at hs
    dsimp only at hs
    (repeat' split at hs) <;> cases hs
  | bipush x0 =>
    unfold am_step at hs
    dsimp only at hs
    (repeat' split at hs) <;> cases hs
  | sipush x0 =>
    unfold am_step at hs
    dsimp only at hs
    (repeat' split at hs) <;> cases hs
  | lconst x0 =>
    unfold am_step at hs
    dsimp only at hs
    (repeat' split at hs) <;> cases hs
  | ldc x0 =>
    unfold am_step at hs
    dsimp only at hs
    (repeat' split at hs) <;> cases hs
  | ldc_w x0 =>
    unfold am_step at hs
    dsimp only at hs
    (repeat' split at hs) <;> cases hs
  | ldc2_w x0 =>
    unfold am_step at hs
    dsimp only at hs
    (repeat' split at hs) <;> cases hs
  | getstatic x0 =>
    unfold am_step at hs
    dsimp only at hs
    (repeat' split at hs) <;> cases hs
  | iload x0 =>
    unfold am_step at hs
    dsimp only at hs
    unfold am_ldi at hs
    (repeat' split at hs) <;> cases hs
  | iload_n x0 =>
    unfold am_step at hs
    dsimp only at hs
    unfold am_ldi at hs
    (repeat' split at hs) <;> cases hs
  | aload x0 =>
    unfold am_step at hs
    dsimp only at hs
    unfold am_lda at hs
    (repeat' split at hs) <;> cases hs
  | aload_n x0 =>
    unfold am_step at hs
    dsimp only at hs
    unfold am_lda at hs
    (repeat' split at hs) <;> cases hs
  | lload x0 =>
    unfold am_step at hs
    dsimp only at hs
    unfold am_ldl at hs
    (repeat' split at hs) <;> cases hs
  | lload_n x0 =>
    unfold am_step at hs
    dsimp only at hs
    unfold am_ldl at hs
    (repeat' split at hs) <;> cases hs
  | istore x0 =>
    unfold am_step at hs
    dsimp only at hs
    unfold am_sti at hs
    (repeat' split at hs) <;> cases hs
  | istore_n x0 =>
    unfold am_step at hs
    dsimp only at hs
    unfold am_sti at hs
    (repeat' split at hs) <;> cases hs
  | astore x0 =>
    unfold am_step at hs
    dsimp only at hs
    unfold am_sta at hs
    (repeat' split at hs) <;> cases hs
  | astore_n x0 =>
    unfold am_step at hs
    dsimp only at hs
    unfold am_sta at hs
    (repeat' split at hs) <;> cases hs
  | lstore x0 =>
    unfold am_step at hs
    dsimp only at hs
    unfold am_stl at hs
    (repeat' split at hs) <;> cases hs
  | lstore_n x0 =>
    unfold am_step at hs
    dsimp only at hs
    unfold am_stl at hs
    (repeat' split at hs) <;> cases hs
  | iinc x0 x1 =>
    unfold am_step at hs
    dsimp only at hs
    unfold am_inc at hs
    (repeat' split at hs) <;> cases hs
  | goto x0 =>
    unfold am_step at hs
    dsimp only at hs
    unfold am_go at hs
    (repeat' split at hs) <;> cases hs
  | ifnull x0 =>
    unfold am_step at hs
    dsimp only at hs
    unfold am_go at hs
    (repeat' split at hs) <;> cases hs
  | ifnonnull x0 =>
    unfold am_step at hs
    dsimp only at hs
    unfold am_go at hs
    (repeat' split at hs) <;> cases hs
  | if_icmp x0 x1 =>
    unfold am_step at hs
    dsimp only at hs
    unfold am_if2 am_go at hs
    (repeat' split at hs) <;> cases hs
  | ifCond x0 x1 =>
    unfold am_step at hs
    dsimp only at hs
    unfold am_if1 am_if2 am_go at hs
    (repeat' split at hs) <;> cases hs
  | tableswitch x0 x1 x2 x3 =>
    unfold am_step at hs
    dsimp only at hs
    unfold am_sw at hs
    (repeat' split at hs) <;> cases hs
  | lookupswitch x0 x1 =>
    unfold am_step at hs
    dsimp only at hs
    unfold am_sw at hs
    (repeat' split at hs) <;> cases hs
  | iaload =>
    unfold am_step at hs
    dsimp only at hs
    unfold am_ald at hs
    (repeat' split at hs) <;> cases hs
  | baload =>
    unfold am_step at hs
    dsimp only at hs
    unfold am_ald at hs
    (repeat' split at hs) <;> cases hs
  | laload =>
    unfold am_step at hs
    dsimp only at hs
    unfold am_ald at hs
    (repeat' split at hs) <;> cases hs
  | aaload =>
    unfold am_step at hs
    dsimp only at hs
    unfold am_aald at hs
    (repeat' split at hs) <;> cases hs
  | iastore =>
    unfold am_step at hs
    dsimp only at hs
    unfold am_ast at hs
    (repeat' split at hs) <;> cases hs
  | bastore =>
    unfold am_step at hs
    dsimp only at hs
    unfold am_ast at hs
    (repeat' split at hs) <;> cases hs
  | arraylength =>
    unfold am_step at hs
    dsimp only at hs
    unfold am_alen at hs
    (repeat' split at hs) <;> cases hs
  | getfield x0 =>
    unfold am_step at hs
    dsimp only at hs
    unfold am_getf at hs
    (repeat' split at hs) <;> cases hs
  | invokevirtual x0 => rfl
  | invokespecial x0 => rfl
  | invokestatic x0 => rfl
  | ireturn => rfl
  | lreturn => rfl
  | areturn => rfl
  | return_ => rfl
  | putfield x0 =>
    unfold am_step at hs
    dsimp only at hs
    unfold am_putf at hs
    (repeat' split at hs) <;> cases hs
  | aastore =>
    unfold am_step at hs
    dsimp only at hs
    unfold am_aast at hs
    (repeat' split at hs) <;> cases hs
  | new x0 => rfl
  | newarray x0 =>
    unfold am_step at hs
    dsimp only at hs
    unfold am_mkA at hs
    (repeat' split at hs) <;> cases hs
  | anewarray x0 =>
    unfold am_step at hs
    dsimp only at hs
    unfold am_mkA at hs
    (repeat' split at hs) <;> cases hs
  | _ => cases hs
theorem am_intr_noret {k : Nat} {o : Option Value ⊕ (Nat × List Value × List Value)} : ¬ am_intr k pc als ast I R Q = some (.inr o) := by
  intro hs
  unfold am_intr at hs
  (repeat' split at hs) <;> cases hs
theorem am_inv_noret {r : Option Value} : ¬ am_inv z pc als ast I R Q = some (.inr (.inl r)) := by
  intro hs
  unfold am_inv at hs
  split at hs
  · exact am_intr_noret hs
  · split at hs <;> cases hs
end
def am_rmr (d mc ms : Nat) : Room := { frames := 2 * d + 6, cells := mc, slots := ms, locals := 80 * (d + 5) }
def am_Pc (D : va_G) (cA : Nat → Nat) (A : Nat → Prop) (rm : Nat → Nat) (I0 : am_I) (Fx : State → Prop) (ad : Nat → Nat) (n : Nat) (args : List Value) (I : am_I) (R : am_R) (Q : am_Q) : Array Value → State → Prop := va_Pc (args.map (am_tv ad)) (fun U => am_St D cA A ad n I0 I R Q U.heap ∧ va_K D vwCl (am_tys cA) U ∧ am_Fs A rm I0 Fx U ∧ ∀ q, U.heap.size ≤ q → A q)
def am_Qc (D : va_G) (cA : Nat → Nat) (A : Nat → Prop) (I0 : am_I) (ad : Nat → Nat) (n : Nat) (r : Option Value) (I : am_I) (R : am_R) (Q : am_Q) : Array Value → State → Outcome → State → Prop := fun _ st o t => (∃ (ad' : Nat → Nat) (n' : Nat), o = .returned (r.map (am_tv ad')) ∧ (∀ a, am_va n a → ad' a = ad a) ∧ am_St D cA A ad' n' I0 I R Q t.heap ∧ n ≤ n' ∧ ∀ v, r = some v → am_vv n' v) ∧ va_F A st t
def am_P (l : Launch) (D : va_G) (cA : Nat → Nat) (A : Nat → Prop) (rm : Nat → Nat) (I0 : am_I) (Fx : State → Prop) (k : Nat) : Prop :=
  ∀ (d M pc : Nat) (als ast : List Value) (I : am_I) (R : am_R) (Q : am_Q) (r : Option Value) (I' : am_I) (R' : am_R) (Q' : am_Q), am_run k d M pc als ast I R Q = some (r, I', R', Q') →
  ∀ (p : Program) (e : Env) (Rm : Room) (s : State) (m : MethodId) (args : Array Value) (below : List Frame) (meth : Method) (c : Code) (n0 xg xe : Nat) (ad0 : Nat → Nat) (Qf : State → Prop), am_Cx M A rm I0 Fx D cA p s m args meth c → (2 * d + 6 ≤ Rm.frames ∧ 80 * (d + 5) ≤ Rm.locals) → xe + am_gx R = xg + am_gx R' → (∀ n', R' 127 0 0 = some n' → n' - n0 + xe ≤ Rm.cells ∧ am_ss n' - am_ss n0 + 6 * xe ≤ Rm.slots) →
  (∀ (pc : Nat) (als ast : List Value) (i : Instr) (len : Nat) (z : Nat × Nat × Int), am_fetch M pc = some (i, len, z) → am_step i z pc als ast I' R' Q' = some (.inr (.inl r)) → am_G p l e Rm s m args below meth c D cA A rm I0 M n0 xe ad0 Qf pc als ast I' R' Q') → am_G p l e Rm s m args below meth c D cA A rm I0 M n0 xg ad0 Qf pc als ast I R Q
theorem am_pl_len : ∀ (ts : List Nat) (vs : List Value), am_okA ts vs = true → (am_pl vs).length = am_slots ts := by
  intro ts
  induction ts with
  | nil => intro vs h; cases vs with
    | nil => rfl
    | cons v vs => cases h
  | cons t ts ih =>
    intro vs h
    cases vs with
    | nil => cases h
    | cons v vs =>
      obtain ⟨h1, h2⟩ := am_and_b (show (am_okT t v && am_okA ts vs) = true from h)
      have e := ih vs h2
      cases v with
      | int x => have : t = 0 := beq_iff_eq.mp h1; subst this; simp [am_pl, am_slots, e]; omega
      | ref x => have : t = 1 := beq_iff_eq.mp h1; subst this; simp [am_pl, am_slots, e]; omega
      | long x => have : t = 2 := beq_iff_eq.mp h1; subst this; simp [am_pl, am_slots, e]; omega
      | _ => cases h1
theorem am_sl_len {ad : Nat → Nat} : ∀ (ts : List Nat) (vs : List Value), am_okA ts vs = true → (lg_sl (vs.map (am_tv ad))).length = am_slots ts := by
  intro ts
  induction ts with
  | nil => intro vs h; cases vs with
    | nil => rfl
    | cons v vs => cases h
  | cons t ts ih =>
    intro vs h
    cases vs with
    | nil => cases h
    | cons v vs =>
      obtain ⟨h1, h2⟩ := am_and_b (show (am_okT t v && am_okA ts vs) = true from h)
      have e := ih vs h2
      unfold lg_sl at e ⊢
      rw [List.map_cons, List.flatMap_cons, List.length_append, e]
      cases v with
      | int x => have : t = 0 := beq_iff_eq.mp h1; subst this; rfl
      | ref x => have : t = 1 := beq_iff_eq.mp h1; subst this; rfl
      | long x => have : t = 2 := beq_iff_eq.mp h1; subst this; rfl
      | _ => cases h1
theorem am_pl_args {ad : Nat → Nat} : ∀ (ts : List Nat) (vs : List Value), am_okA ts vs = true → ∀ (i j : Nat) (v : Value), (am_pl vs)[j]? = some v → v ≠ am_J → (i + j, am_tv ad v) ∈ lv_args i (vs.map (am_tv ad)) := by
  intro ts
  induction ts with
  | nil => intro vs h; cases vs with
    | nil => intro i j v hv; simp [am_pl] at hv
    | cons v vs => cases h
  | cons t ts ih =>
    intro vs h
    cases vs with
    | nil => cases h
    | cons w vs =>
      obtain ⟨h1, h2⟩ := am_and_b (show (am_okT t w && am_okA ts vs) = true from h)
      intro i j v hv hJ
      have one : ∀ (hw : am_pl (w :: vs) = w :: am_pl vs) (hc : (am_tv ad w).category ≠ 2), (i + j, am_tv ad v) ∈ lv_args i ((w :: vs).map (am_tv ad)) := by
        intro hw hc
        rw [hw] at hv
        rw [List.map_cons]
        unfold lv_args
        rw [if_neg hc]
        cases j with
        | zero => cases hv; exact List.mem_cons_self
        | succ j =>
          have := ih vs h2 (i + 1) j v hv hJ
          rw [show i + (j + 1) = i + 1 + j by omega]
          exact List.mem_cons_of_mem _ this
      cases w with
      | int x => exact one rfl (show ¬ (1 : Nat) = 2 by decide)
      | ref x => exact one rfl (show ¬ (1 : Nat) = 2 by decide)
      | long x =>
        rw [List.map_cons]
        unfold lv_args
        rw [if_pos (show (am_tv ad (Value.long x)).category = 2 from rfl)]
        have hv : (Value.long x :: am_J :: am_pl vs)[j]? = some v := hv
        match j, hv with
        | 0, hv => cases hv; exact List.mem_cons_self
        | 1, hv => cases hv; exact absurd rfl hJ
        | j + 2, hv =>
          have := ih vs h2 (i + 2) j v hv hJ
          rw [show i + (j + 2) = i + 2 + j by omega]
          exact List.mem_cons_of_mem _ this
      | _ => cases h1
theorem am_pl_mem : ∀ (vs : List Value) (v : Value), v ∈ am_pl vs → v = am_J ∨ v ∈ vs := by
  intro vs
  induction vs with
  | nil => intro v h; cases h
  | cons w vs ih =>
    intro v h
    have one : am_pl (w :: vs) = w :: am_pl vs → v = am_J ∨ v ∈ w :: vs := by
      intro e
      rw [e] at h
      rcases List.mem_cons.mp h with q | q
      · exact Or.inr (List.mem_cons.mpr (Or.inl q))
      · exact (ih v q).imp id (List.mem_cons_of_mem _)
    cases w with
    | long x =>
      rcases List.mem_cons.mp (show v ∈ Value.long x :: am_J :: am_pl vs from h) with q | q
      · exact Or.inr (List.mem_cons.mpr (Or.inl q))
      · rcases List.mem_cons.mp q with q | q
        · exact Or.inl q
        · exact (ih v q).imp id (List.mem_cons_of_mem _)
    | _ => exact one rfl
theorem am_ok_cat : ∀ (ts : List Nat) (vs : List Value), am_okA ts vs = true → (ts.all (fun t => t != 2)) = true → ∀ v ∈ vs, v.category = 1 := by
  intro ts
  induction ts with
  | nil => intro vs h; cases vs with
    | nil => intro _ v hv; cases hv
    | cons v vs => cases h
  | cons t ts ih =>
    intro vs h h3
    cases vs with
    | nil => cases h
    | cons w vs =>
      obtain ⟨h1, h2⟩ := am_and_b (show (am_okT t w && am_okA ts vs) = true from h)
      rw [List.all_cons] at h3
      obtain ⟨h4, h5⟩ := am_and_b h3
      intro v hv
      rcases List.mem_cons.mp hv with q | q
      · subst q
        cases v with
        | int x => rfl
        | ref x => rfl
        | long x => have : t = 2 := beq_iff_eq.mp h1; subst this; cases h4
        | _ => cases h1
      · exact ih vs h2 h5 v q
theorem am_entry {ad : Nat → Nat} {n M : Nat} {args : List Value} (hM : M < 283) (hok : am_okA (am_sg M) args = true) (hv : ∀ v ∈ args, am_vv n v) : am_Ls ad n (am_ml M) (am_lg M) (am_lo M args) ((lg_sl (args.map (am_tv ad)) ++ List.replicate (am_ml M - (lg_sl (args.map (am_tv ad))).length) Slot.unset).toArray) := by
  have hc := am_chM_all M hM
  unfold am_chM at hc
  simp only [Bool.and_eq_true, Bool.or_eq_true, decide_eq_true_eq] at hc
  obtain ⟨⟨⟨⟨-, c5⟩, c6⟩, -⟩, -⟩ := hc
  have e1 := am_pl_len _ _ hok
  have e2 := am_sl_len (ad := ad) _ _ hok
  have hlen : (am_lo M args).length = am_ml M := by
    unfold am_lo
    rw [List.length_append, List.length_replicate, e1]
    omega
  refine ⟨hlen, am_lv_sub (lv_entry _ (by rw [e2]; exact c5)) ?_, ?_, ?_⟩
  · intro q hq
    obtain ⟨v, h1, h2, h3⟩ := am_lvs_mem.mp hq
    unfold am_lo at h1
    by_cases hi : q.1 < (am_pl args).length
    · rw [List.getElem?_append_left hi] at h1
      have := am_pl_args (ad := ad) _ _ hok 0 q.1 v h1 h2
      rw [Nat.zero_add, ← h3] at this
      exact this
    · rw [List.getElem?_append_right (by omega)] at h1
      have := List.mem_of_getElem? h1
      exact absurd (List.mem_replicate.mp this).2 h2
  · intro v hv2
    unfold am_lo at hv2
    rcases List.mem_append.mp hv2 with q | q
    · rcases am_pl_mem _ _ q with q | q
      · rw [q]; exact am_vv_J
      · exact hv v q
    · rw [(List.mem_replicate.mp q).2]; exact am_vv_J
  · intro hlg v hv2
    have h6 : ((am_sg M).all (fun t => t != 2)) = true := c6.resolve_left (by rw [hlg]; decide)
    unfold am_lo at hv2
    rcases List.mem_append.mp hv2 with q | q
    · rcases am_pl_mem _ _ q with q | q
      · rw [q]; rfl
      · exact am_ok_cat _ _ hok h6 v q
    · rw [(List.mem_replicate.mp q).2]; rfl
section
variable {p : Program} {l : Launch} {e : Env} {Rm : Room} {s : State} {m : MethodId} {args : Array Value} {below : List Frame} {meth : Method} {c : Code} {D : va_G} {cA : Nat → Nat} {A : Nat → Prop} {rm : Nat → Nat} {I0 : am_I} {M n0 xg : Nat} {ad0 : Nat → Nat} {Qf : State → Prop} {Fx : State → Prop}
variable {pc : Nat} {als ast : List Value} {I : am_I} {R : am_R} {Q : am_Q} {pc' : Nat} {als' ast' : List Value} {I' : am_I} {R' : am_R} {Q' : am_Q}
theorem am_agree {ad : Nat → Nat} (h1 : ∀ a, am_vo n0 a → ad a = ad0 a) (h2 : ∀ a ∈ am_rl, ad a = rm a) (h0 : ∀ a ∈ am_rl, ad0 a = rm a) : ∀ a, am_va n0 a → ad a = ad0 a := by
  intro a ha
  rcases ha with ha | ha
  · exact h1 a ha
  · rw [h2 a ha, h0 a ha]
/-- a method's end -/
theorem am_ret_G {i : Instr} {len nf : Nat} {z : Nat × Nat × Int} {r : Option Value} (C : am_Cx M A rm I0 Fx D cA p s m args meth c) (hsp : M ≠ am_spot ∨ r ≠ none) (h0 : ∀ a ∈ am_rl, ad0 a = rm a) (hf : am_fetch M pc = some (i, len, z)) (hs : am_step i z pc als ast I R Q = some (.inr (.inl r))) (hnf : R 127 0 0 = some nf) : am_G p l e Rm s m args below meth c D cA A rm I0 M n0 xg ad0 (MQ below (am_Qc D cA A I0 ad0 n0 r I R Q) args s (nf - n0 + xg) (am_ss nf - am_ss n0 + 6 * xg) A) pc als ast I R Q := by
  obtain ⟨hx, hb, hml, hown, hts, hr, hlk, hnm, hA, hK, hF⟩ := C
  obtain ⟨hd, hl, hc⟩ := am_chk_at hf
  have fin : ∀ (ad : Nat → Nat) (n : Nat) (H : Heap) (locs : List Loc) (v : Option Value), (∀ a, am_vo n0 a → ad a = ad0 a) → (∀ a ∈ am_rl, ad a = rm a) → n0 ≤ n → am_St D cA A ad n I0 I R Q H → (∀ w, v = some w → am_vv n w) → va_S A s.heap H locs → ∀ t : State, t.heap = H → s.WarmedH t.vm → am_Qc D cA A I0 ad0 n0 v I R Q args s (.returned (v.map (am_tv ad))) t := by
    intro ad n H locs v h1 h2 h3 h4 h5 h7 t ht hW
    exact ⟨⟨ad, n, rfl, am_agree h1 h2 h0, by rw [ht]; exact h4, h3, h5⟩, h7.F ht⟩
  have hnn : ∀ (ad : Nat → Nat) (n : Nat) (H : Heap), am_St D cA A ad n I0 I R Q H → n = nf := by
    intro ad n H h4
    have := h4.2.1
    rw [hnf] at this
    cases this
    rfl
  cases i with
  | ireturn =>
    obtain rfl : len = 1 := hl.resolve_left (show ¬ (1 : Nat) = 0 by decide)
    unfold am_step at hs
    dsimp only at hs
    split at hs
    · rename_i x
      split at hs
      · rename_i hz
        cases hs
        intro ad n H locs ls h1 h2 h3 h4 h5 h6 h7
        obtain rfl := hnn ad n H h4
        rcases am_or_beq hc with q | q
        · obtain ⟨q1, q2⟩ := am_and_b q
          exact W.zret hx hb (hr.trans (of_decide_eq_true q2)) rfl (fin ad n H locs (some (.int x)) h1 h2 h3 h4 (fun w hw => by cases hw; exact am_vv_int) h7) h7.2.2 hd hlk
        · obtain ⟨q1, q2⟩ := am_and_b q
          have hb01 : vp_nar .boolean x = x := hz.resolve_left (by have := beq_iff_eq.mp q1; omega)
          exact W.zret hx hb (hr.trans (of_decide_eq_true q2)) (am_b01_fits hb01).1 (fin ad n H locs (some (.int x)) h1 h2 h3 h4 (fun w hw => by cases hw; exact am_vv_int) h7) h7.2.2 hd hlk
      · cases hs
    · cases hs
  | lreturn =>
    obtain rfl : len = 1 := hl.resolve_left (show ¬ (1 : Nat) = 0 by decide)
    unfold am_step at hs
    dsimp only at hs
    split at hs
    · rename_i x
      cases hs
      intro ad n H locs ls h1 h2 h3 h4 h5 h6 h7
      obtain rfl := hnn ad n H h4
      exact W.lret hx hb (hr.trans (of_decide_eq_true hc)) (fin ad n H locs (some (.long x)) h1 h2 h3 h4 (fun w hw => by cases hw; exact am_vv_long) h7) h7.2.2 hd hlk
    · cases hs
  | areturn =>
    obtain rfl : len = 1 := hl.resolve_left (show ¬ (1 : Nat) = 0 by decide)
    unfold am_step at hs
    dsimp only at hs
    split at hs
    · rename_i x
      cases hs
      intro ad n H locs ls h1 h2 h3 h4 h5 h6 h7
      obtain rfl := hnn ad n H h4
      exact W.aret hx hb (hr.trans (of_decide_eq_true hc)) (Or.inl ⟨_, rfl⟩) (Or.inr ⟨_, rfl⟩) (fin ad n H locs (some (.ref x)) h1 h2 h3 h4 (fun w hw => by cases hw; exact am_vs_hd h6) h7) h7.2.2 hd hlk
    · cases hs
  | return_ =>
    obtain rfl : len = 1 := hl.resolve_left (show ¬ (1 : Nat) = 0 by decide)
    unfold am_step at hs
    dsimp only at hs
    split at hs
    · cases hs
      intro ad n H locs ls h1 h2 h3 h4 h5 h6 h7
      obtain rfl := hnn ad n H h4
      exact W.vret hx hb (hr.trans (of_decide_eq_true hc)) (fin ad n H locs none h1 h2 h3 h4 (fun w hw => by cases hw) h7) h7.2.2 hd hlk
    · cases hs
  | new x0 =>
    exfalso
    unfold am_step at hs
    dsimp only at hs
    split at hs
    · rename_i h99
      unfold am_chI at hc
      dsimp only at hc
      rcases am_or_beq hc with q | q
      · split at hs
        · cases hs
          exact hsp.elim (fun w => w (beq_iff_eq.mp (am_and_b q).2)) (fun w => w rfl)
        · cases hs
      · have : z.1 < 13 := am_cl2_lt _ (am_cont q)
        omega
    · unfold am_mkO at hs
      split at hs
      · split at hs <;> cases hs
      · cases hs
  | invokevirtual x0 => exact absurd hs am_inv_noret
  | invokespecial x0 => exact absurd hs am_inv_noret
  | invokestatic x0 => exact absurd hs am_inv_noret
  | _ => exact absurd (am_step_out hs) (show ¬ (false = true) by decide)
end
