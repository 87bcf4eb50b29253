/-! Every step of the A-machine. -/
theorem am_or_beq {a b : Bool} (h : (a || b) = true) : a = true ∨ b = true := by rwa [Bool.or_eq_true] at h
theorem am_and_b {a b : Bool} (h : (a && b) = true) : a = true ∧ b = true := by rwa [Bool.and_eq_true] at h
theorem am_cont {α : Type} [BEq α] [LawfulBEq α] {l : List α} {a : α} (h : l.contains a = true) : a ∈ l := List.contains_iff_mem.mp h
section
variable {p : Program} {l : Launch} {e : Env} {Rm : Room} {s : State} {m : MethodId} {args : Array Value} {below : List Frame} {meth : Method} {c : Code} {D : va_G} {cA : Nat → Nat} {A : Nat → Prop} {rm : Nat → Nat} {I0 : am_I} {M n0 xg : Nat} {ad0 : Nat → Nat} {Qf : State → Prop} {Fx : State → Prop}
variable {pc : Nat} {als ast : List Value} {I : am_I} {R : am_R} {Q : am_Q} {pc' : Nat} {als' ast' : List Value} {I' : am_I} {R' : am_R} {Q' : am_Q}
theorem am_inv_intr {z : Nat × Nat × Int} (hs : am_inv z pc als ast I R Q = some (.inl (pc', als', ast', I', R', Q'))) : 1000 ≤ z.1 ∧ am_intr z.1 pc als ast I R Q = some (.inl (pc', als', ast', I', R', Q')) := by
  unfold am_inv at hs
  split at hs
  · rename_i h
    exact ⟨h, hs⟩
  · split at hs
    · cases hs
    · cases hs
theorem am_intr_2000 : am_intr 2000 pc als ast I R Q = none := by
  unfold am_intr
  simp
theorem am_chV_intr {idx kind : Nat} {z : Nat × Nat × Int} (hc : am_chV M idx z kind = true) (h1 : 1000 ≤ z.1) (h2 : z.1 ≠ 2000) : (am_oc M, idx, z.1) ∈ am_ml2 ∧ z.1 ≤ 1006 ∧ (z.1 = 1006 → kind = 2) ∧ (kind ≠ 1 → z.1 = 1006) := by
  unfold am_chV at hc
  rcases am_or_beq hc with h | h
  · exact absurd (beq_iff_eq.mp h) h2
  · simp only [Bool.and_eq_true, Bool.or_eq_true, beq_iff_eq, bne_iff_ne, decide_eq_true_eq, ne_eq] at h
    obtain ⟨⟨⟨⟨⟨⟨⟨⟨⟨a1, a2⟩, a3⟩, a4⟩, a5⟩, a6⟩, a7⟩, a8⟩, a9⟩, a10⟩ := h
    split at a1
    · rename_i h3
      simp only [Bool.and_eq_true, beq_iff_eq, decide_eq_true_eq] at a1
      omega
    · simp only [Bool.and_eq_true, Bool.or_eq_true, beq_iff_eq, decide_eq_true_eq] at a1
      refine ⟨am_cont a1.1, by omega, by omega, ?_⟩
      intro hk
      omega
set_option maxHeartbeats 4000000 in
theorem am_step_G {i : Instr} {len : Nat} {z : Nat × Nat × Int} (C : am_Cx M A rm I0 Fx D cA p s m args meth c) (hf : am_fetch M pc = some (i, len, z)) (hs : am_step i z pc als ast I R Q = some (.inl (pc', als', ast', I', R', Q'))) (hroom : ∀ n', R' 127 0 0 = some n' → n' - n0 + xg ≤ Rm.cells ∧ am_ss n' - am_ss n0 + 6 * xg ≤ Rm.slots) (hRm : 1 ≤ Rm.frames ∧ 40 ≤ Rm.locals) (k : am_G p l e Rm s m args below meth c D cA A rm I0 M n0 xg ad0 Qf pc' als' ast' I' R' Q') : am_G p l e Rm s m args below meth c D cA A rm I0 M n0 xg ad0 Qf pc als ast I R Q := by
  obtain ⟨hd, hl, hc⟩ := am_chk_at hf
  cases i with
  | iadd =>
    obtain rfl : len = 1 := hl.resolve_left (show ¬ (1 : Nat) = 0 by decide)
    exact am_G_iadd C hd hs k
  | isub =>
    obtain rfl : len = 1 := hl.resolve_left (show ¬ (1 : Nat) = 0 by decide)
    exact am_G_isub C hd hs k
  | imul =>
    obtain rfl : len = 1 := hl.resolve_left (show ¬ (1 : Nat) = 0 by decide)
    exact am_G_imul C hd hs k
  | iand =>
    obtain rfl : len = 1 := hl.resolve_left (show ¬ (1 : Nat) = 0 by decide)
    exact am_G_iand C hd hs k
  | ior =>
    obtain rfl : len = 1 := hl.resolve_left (show ¬ (1 : Nat) = 0 by decide)
    exact am_G_ior C hd hs k
  | ixor =>
    obtain rfl : len = 1 := hl.resolve_left (show ¬ (1 : Nat) = 0 by decide)
    exact am_G_ixor C hd hs k
  | ishl =>
    obtain rfl : len = 1 := hl.resolve_left (show ¬ (1 : Nat) = 0 by decide)
    exact am_G_ishl C hd hs k
  | ishr =>
    obtain rfl : len = 1 := hl.resolve_left (show ¬ (1 : Nat) = 0 by decide)
    exact am_G_ishr C hd hs k
  | iushr =>
    obtain rfl : len = 1 := hl.resolve_left (show ¬ (1 : Nat) = 0 by decide)
    exact am_G_iushr C hd hs k
  | idiv =>
    obtain rfl : len = 1 := hl.resolve_left (show ¬ (1 : Nat) = 0 by decide)
    exact am_G_idiv C hd hs k
  | irem =>
    obtain rfl : len = 1 := hl.resolve_left (show ¬ (1 : Nat) = 0 by decide)
    exact am_G_irem C hd hs k
  | ladd =>
    obtain rfl : len = 1 := hl.resolve_left (show ¬ (1 : Nat) = 0 by decide)
    exact am_G_ladd C hd hs k
  | lsub =>
    obtain rfl : len = 1 := hl.resolve_left (show ¬ (1 : Nat) = 0 by decide)
    exact am_G_lsub C hd hs k
  | lmul =>
    obtain rfl : len = 1 := hl.resolve_left (show ¬ (1 : Nat) = 0 by decide)
    exact am_G_lmul C hd hs k
  | land =>
    obtain rfl : len = 1 := hl.resolve_left (show ¬ (1 : Nat) = 0 by decide)
    exact am_G_land C hd hs k
  | lor =>
    obtain rfl : len = 1 := hl.resolve_left (show ¬ (1 : Nat) = 0 by decide)
    exact am_G_lor C hd hs k
  | ldiv =>
    obtain rfl : len = 1 := hl.resolve_left (show ¬ (1 : Nat) = 0 by decide)
    exact am_G_ldiv C hd hs k
  | lrem =>
    obtain rfl : len = 1 := hl.resolve_left (show ¬ (1 : Nat) = 0 by decide)
    exact am_G_lrem C hd hs k
  | ineg =>
    obtain rfl : len = 1 := hl.resolve_left (show ¬ (1 : Nat) = 0 by decide)
    exact am_G_ineg C hd hs k
  | i2l =>
    obtain rfl : len = 1 := hl.resolve_left (show ¬ (1 : Nat) = 0 by decide)
    exact am_G_i2l C hd hs k
  | i2c =>
    obtain rfl : len = 1 := hl.resolve_left (show ¬ (1 : Nat) = 0 by decide)
    exact am_G_i2c C hd hs k
  | lshl =>
    obtain rfl : len = 1 := hl.resolve_left (show ¬ (1 : Nat) = 0 by decide)
    exact am_G_lshl C hd hs k
  | lushr =>
    obtain rfl : len = 1 := hl.resolve_left (show ¬ (1 : Nat) = 0 by decide)
    exact am_G_lushr C hd hs k
  | l2i =>
    obtain rfl : len = 1 := hl.resolve_left (show ¬ (1 : Nat) = 0 by decide)
    exact am_G_l2i C hd hs k
  | lcmp =>
    obtain rfl : len = 1 := hl.resolve_left (show ¬ (1 : Nat) = 0 by decide)
    exact am_G_lcmp C hd hs k
  | dup =>
    obtain rfl : len = 1 := hl.resolve_left (show ¬ (1 : Nat) = 0 by decide)
    exact am_G_dup C hd hs k
  | dup2 =>
    obtain rfl : len = 1 := hl.resolve_left (show ¬ (1 : Nat) = 0 by decide)
    exact am_G_dup2 C hd hs k
  | pop =>
    obtain rfl : len = 1 := hl.resolve_left (show ¬ (1 : Nat) = 0 by decide)
    exact am_G_pop C hd hs k
  | iaload =>
    obtain rfl : len = 1 := hl.resolve_left (show ¬ (1 : Nat) = 0 by decide)
    exact am_G_iaload C hd hs k
  | baload =>
    obtain rfl : len = 1 := hl.resolve_left (show ¬ (1 : Nat) = 0 by decide)
    exact am_G_baload C hd hs k
  | laload =>
    obtain rfl : len = 1 := hl.resolve_left (show ¬ (1 : Nat) = 0 by decide)
    exact am_G_laload C hd hs k
  | aaload =>
    obtain rfl : len = 1 := hl.resolve_left (show ¬ (1 : Nat) = 0 by decide)
    exact am_G_aaload C hd hs k
  | arraylength =>
    obtain rfl : len = 1 := hl.resolve_left (show ¬ (1 : Nat) = 0 by decide)
    exact am_G_arraylength C hd hs k
  | iastore =>
    obtain rfl : len = 1 := hl.resolve_left (show ¬ (1 : Nat) = 0 by decide)
    exact am_G_iastore C hd hs k
  | bastore =>
    obtain rfl : len = 1 := hl.resolve_left (show ¬ (1 : Nat) = 0 by decide)
    exact am_G_bastore C hd hs k
  | aastore =>
    obtain rfl : len = 1 := hl.resolve_left (show ¬ (1 : Nat) = 0 by decide)
    exact am_G_aastore C hd hs k
  | aconst_null =>
    obtain rfl : len = 1 := hl.resolve_left (show ¬ (1 : Nat) = 0 by decide)
    exact am_G_aconst_null C hd hs k
  | iconst x0 =>
    obtain rfl : len = 1 := hl.resolve_left (show ¬ (1 : Nat) = 0 by decide)
    exact am_G_iconst C hd hs (of_decide_eq_true hc) k
  | bipush x0 =>
    obtain rfl : len = 2 := hl.resolve_left (show ¬ (2 : Nat) = 0 by decide)
    exact am_G_bipush C hd hs (of_decide_eq_true hc) k
  | sipush x0 =>
    obtain rfl : len = 3 := hl.resolve_left (show ¬ (3 : Nat) = 0 by decide)
    exact am_G_sipush C hd hs (of_decide_eq_true hc) k
  | lconst x0 =>
    obtain rfl : len = 1 := hl.resolve_left (show ¬ (1 : Nat) = 0 by decide)
    exact am_G_lconst C hd hs k
  | ldc2_w x0 =>
    obtain rfl : len = 3 := hl.resolve_left (show ¬ (3 : Nat) = 0 by decide)
    exact am_G_ldc2_w C hd hs (am_cont hc) k
  | ldc_w x0 =>
    obtain rfl : len = 3 := hl.resolve_left (show ¬ (3 : Nat) = 0 by decide)
    exact am_G_ldc_w C hd hs (am_cont (am_and_b hc).2) k
  | ldc x0 =>
    obtain rfl : len = 2 := hl.resolve_left (show ¬ (2 : Nat) = 0 by decide)
    unfold am_chI at hc
    dsimp only at hc
    exact am_G_ldc C hd hs (fun hz => by rw [if_neg hz] at hc; exact am_cont hc) (fun hz => by
      rw [if_pos hz] at hc
      obtain ⟨h1, h2⟩ := am_and_b hc
      obtain ⟨h3, h4⟩ := am_and_b h1
      exact ⟨of_decide_eq_true h3, beq_iff_eq.mp h4, beq_iff_eq.mp h2⟩) k
  | iload x0 =>
    obtain rfl : len = 2 := hl.resolve_left (show ¬ (2 : Nat) = 0 by decide)
    exact am_G_iload C hd hs k
  | iload_n x0 =>
    obtain rfl : len = 1 := hl.resolve_left (show ¬ (1 : Nat) = 0 by decide)
    exact am_G_iload_n C hd hs k
  | aload x0 =>
    obtain rfl : len = 2 := hl.resolve_left (show ¬ (2 : Nat) = 0 by decide)
    exact am_G_aload C hd hs k
  | aload_n x0 =>
    obtain rfl : len = 1 := hl.resolve_left (show ¬ (1 : Nat) = 0 by decide)
    exact am_G_aload_n C hd hs k
  | lload x0 =>
    obtain rfl : len = 2 := hl.resolve_left (show ¬ (2 : Nat) = 0 by decide)
    exact am_G_lload C hd hs k
  | lload_n x0 =>
    obtain rfl : len = 1 := hl.resolve_left (show ¬ (1 : Nat) = 0 by decide)
    exact am_G_lload_n C hd hs k
  | istore x0 =>
    obtain rfl : len = 2 := hl.resolve_left (show ¬ (2 : Nat) = 0 by decide)
    exact am_G_istore C hd hs (of_decide_eq_true (am_and_b hc).1) (am_and_b hc).2 k
  | istore_n x0 =>
    obtain rfl : len = 1 := hl.resolve_left (show ¬ (1 : Nat) = 0 by decide)
    exact am_G_istore_n C hd hs (of_decide_eq_true (am_and_b hc).1) (am_and_b hc).2 k
  | astore x0 =>
    obtain rfl : len = 2 := hl.resolve_left (show ¬ (2 : Nat) = 0 by decide)
    exact am_G_astore C hd hs (of_decide_eq_true (am_and_b hc).1) (am_and_b hc).2 k
  | astore_n x0 =>
    obtain rfl : len = 1 := hl.resolve_left (show ¬ (1 : Nat) = 0 by decide)
    exact am_G_astore_n C hd hs (of_decide_eq_true (am_and_b hc).1) (am_and_b hc).2 k
  | lstore x0 =>
    obtain rfl : len = 2 := hl.resolve_left (show ¬ (2 : Nat) = 0 by decide)
    exact am_G_lstore C hd hs (of_decide_eq_true (am_and_b hc).1) (am_and_b hc).2 k
  | lstore_n x0 =>
    obtain rfl : len = 1 := hl.resolve_left (show ¬ (1 : Nat) = 0 by decide)
    exact am_G_lstore_n C hd hs (of_decide_eq_true (am_and_b hc).1) (am_and_b hc).2 k
  | iinc x0 x1 =>
    obtain rfl : len = 3 := hl.resolve_left (show ¬ (3 : Nat) = 0 by decide)
    exact am_G_iinc C hd hs (of_decide_eq_true (am_and_b hc).1) (am_and_b hc).2 k
  | goto x0 =>
    obtain rfl : len = 3 := hl.resolve_left (show ¬ (3 : Nat) = 0 by decide)
    exact am_G_goto C hd hs k
  | if_icmp x0 x1 =>
    obtain rfl : len = 3 := hl.resolve_left (show ¬ (3 : Nat) = 0 by decide)
    exact am_G_if_icmp C hd hs (of_decide_eq_true hc) k
  | ifCond x0 x1 =>
    obtain rfl : len = 3 := hl.resolve_left (show ¬ (3 : Nat) = 0 by decide)
    exact am_G_ifCond C hd hs (of_decide_eq_true hc) k
  | ifnull x0 =>
    obtain rfl : len = 3 := hl.resolve_left (show ¬ (3 : Nat) = 0 by decide)
    exact am_G_ifnull C hd hs k
  | ifnonnull x0 =>
    obtain rfl : len = 3 := hl.resolve_left (show ¬ (3 : Nat) = 0 by decide)
    exact am_G_ifnonnull C hd hs k
  | tableswitch x0 x1 x2 x3 =>
    exact am_G_tableswitch C hd hs k
  | lookupswitch x0 x1 =>
    exact am_G_lookupswitch C hd hs hc k
  | getfield x0 =>
    obtain rfl : len = 3 := hl.resolve_left (show ¬ (3 : Nat) = 0 by decide)
    obtain ⟨h1, h2⟩ := am_and_b hc
    obtain ⟨h3, h4⟩ := am_and_b h1
    exact am_G_getfield C hd hs ⟨am_cont h3, of_decide_eq_true h4, of_decide_eq_true h2⟩ k
  | putfield x0 =>
    obtain rfl : len = 3 := hl.resolve_left (show ¬ (3 : Nat) = 0 by decide)
    obtain ⟨h1, h2⟩ := am_and_b hc
    obtain ⟨h3, h4⟩ := am_and_b h1
    obtain ⟨h5, h6⟩ := am_and_b h3
    refine am_G_putfield C hd hs ⟨am_cont h5, of_decide_eq_true h6, of_decide_eq_true h4⟩ (fun hfin => ?_) k
    rw [hfin] at h2
    have h7 := am_and_b (show (am_oc M == z.1 && (am_yy M).name == "<init>") = true from h2)
    exact ⟨beq_iff_eq.mp h7.1, beq_iff_eq.mp h7.2⟩
  | getstatic x0 =>
    obtain rfl : len = 3 := hl.resolve_left (show ¬ (3 : Nat) = 0 by decide)
    obtain ⟨h1, h2⟩ := am_and_b hc
    obtain ⟨h3, h4⟩ := am_and_b h1
    cases hs
    exact am_G_getstatic C hd ⟨am_cont h3, of_decide_eq_true h4, of_decide_eq_true h2⟩ k
  | new x0 =>
    obtain rfl : len = 3 := hl.resolve_left (show ¬ (3 : Nat) = 0 by decide)
    unfold am_step at hs
    dsimp only at hs
    split at hs
    · split at hs <;> cases hs
    · rename_i h99
      exact am_G_new C hd hs (am_cont ((am_or_beq hc).resolve_left (fun q => h99 (beq_iff_eq.mp (am_and_b q).1)))) hroom k
  | newarray x0 =>
    obtain rfl : len = 2 := hl.resolve_left (show ¬ (2 : Nat) = 0 by decide)
    exact am_G_newarray C hd hs (of_decide_eq_true hc) hroom k
  | anewarray x0 =>
    obtain rfl : len = 3 := hl.resolve_left (show ¬ (3 : Nat) = 0 by decide)
    refine am_G_anewarray C hd hs ?_ hroom k
    rcases am_or_beq hc with h | h
    · exact Or.inl ⟨beq_iff_eq.mp (am_and_b h).1, am_cont (am_and_b h).2⟩
    · exact Or.inr ⟨beq_iff_eq.mp (am_and_b h).1, am_cont (am_and_b h).2⟩
  | invokestatic x0 =>
    obtain rfl : len = 3 := hl.resolve_left (show ¬ (3 : Nat) = 0 by decide)
    obtain ⟨h1, h2⟩ := am_inv_intr hs
    obtain ⟨w1, w2, w3, w4⟩ := am_chV_intr hc h1 (fun q => by rw [q, am_intr_2000] at h2; cases h2)
    exact am_G_intS C hd rfl h2 w1 (fun q => by have := w3 q; cases this) hroom hRm k
  | invokespecial x0 =>
    obtain rfl : len = 3 := hl.resolve_left (show ¬ (3 : Nat) = 0 by decide)
    obtain ⟨h1, h2⟩ := am_inv_intr hs
    obtain ⟨w1, w2, w3, w4⟩ := am_chV_intr hc h1 (fun q => by rw [q, am_intr_2000] at h2; cases h2)
    exact am_G_objInit C hd (w4 (by decide)) h2 w1 hRm k
  | invokevirtual x0 =>
    obtain rfl : len = 3 := hl.resolve_left (show ¬ (3 : Nat) = 0 by decide)
    obtain ⟨h1, h2⟩ := am_inv_intr hs
    obtain ⟨w1, w2, w3, w4⟩ := am_chV_intr hc h1 (fun q => by rw [q, am_intr_2000] at h2; cases h2)
    have q1 := w4 (by decide)
    have q2 := w3 q1
    cases q2
  | ireturn =>
    unfold am_step at hs
    dsimp only at hs
    split at hs <;> first | (cases hs; done) | (split at hs <;> cases hs)
  | lreturn =>
    unfold am_step at hs
    dsimp only at hs
    split at hs <;> cases hs
  | areturn =>
    unfold am_step at hs
    dsimp only at hs
    split at hs <;> cases hs
  | return_ =>
    unfold am_step at hs
    dsimp only at hs
    split at hs <;> cases hs
  | _ => cases hs
end
