/-! The count of what is made only grows. -/
theorem am_ne_hi {x y k j : Nat} (h : x < 100) (hk : 100 ≤ k) : ¬ (k = x ∧ j = y) := by omega
section
variable {pc : Nat} {als ast : List Value} {I : am_I} {R : am_R} {Q : am_Q} {pc' : Nat} {als' ast' : List Value} {I' : am_I} {R' : am_R} {Q' : am_Q}
set_option maxHeartbeats 4000000 in
theorem am_step_cnt {i : Instr} {z : Nat × Nat × Int} (hs : am_step i z pc als ast I R Q = some (.inl (pc', als', ast', I', R', Q'))) {n : Nat} (hn : R 127 0 0 = some n) : ∃ n', R' 127 0 0 = some n' ∧ n ≤ n' ∧ R' 126 0 0 = R 126 0 0 := by
  cases i with
  | iadd =>
    unfold am_step at hs
    dsimp only at hs
    unfold am_bin at hs
    (repeat' split at hs) <;> first | (cases hs; exact ⟨n, hn, Nat.le_refl _, rfl⟩) | (cases hs; done)
  | isub =>
    unfold am_step at hs
    dsimp only at hs
    unfold am_bin at hs
    (repeat' split at hs) <;> first | (cases hs; exact ⟨n, hn, Nat.le_refl _, rfl⟩) | (cases hs; done)
  | imul =>
    unfold am_step at hs
    dsimp only at hs
    unfold am_bin at hs
    (repeat' split at hs) <;> first | (cases hs; exact ⟨n, hn, Nat.le_refl _, rfl⟩) | (cases hs; done)
  | iand =>
    unfold am_step at hs
    dsimp only at hs
    unfold am_bin at hs
    (repeat' split at hs) <;> first | (cases hs; exact ⟨n, hn, Nat.le_refl _, rfl⟩) | (cases hs; done)
  | ior =>
    unfold am_step at hs
    dsimp only at hs
    unfold am_bin at hs
    (repeat' split at hs) <;> first | (cases hs; exact ⟨n, hn, Nat.le_refl _, rfl⟩) | (cases hs; done)
  | ixor =>
    unfold am_step at hs
    dsimp only at hs
    unfold am_bin at hs
    (repeat' split at hs) <;> first | (cases hs; exact ⟨n, hn, Nat.le_refl _, rfl⟩) | (cases hs; done)
  | ishl =>
    unfold am_step at hs
    dsimp only at hs
    unfold am_bin at hs
    (repeat' split at hs) <;> first | (cases hs; exact ⟨n, hn, Nat.le_refl _, rfl⟩) | (cases hs; done)
  | ishr =>
    unfold am_step at hs
    dsimp only at hs
    unfold am_bin at hs
    (repeat' split at hs) <;> first | (cases hs; exact ⟨n, hn, Nat.le_refl _, rfl⟩) | (cases hs; done)
  | iushr =>
    unfold am_step at hs
    dsimp only at hs
    unfold am_bin at hs
    (repeat' split at hs) <;> first | (cases hs; exact ⟨n, hn, Nat.le_refl _, rfl⟩) | (cases hs; done)
  | idiv =>
    unfold am_step at hs
    dsimp only at hs
    unfold am_binD at hs
    (repeat' split at hs) <;> first | (cases hs; exact ⟨n, hn, Nat.le_refl _, rfl⟩) | (cases hs; done)
  | irem =>
    unfold am_step at hs
    dsimp only at hs
    unfold am_binD at hs
    (repeat' split at hs) <;> first | (cases hs; exact ⟨n, hn, Nat.le_refl _, rfl⟩) | (cases hs; done)
  | ladd =>
    unfold am_step at hs
    dsimp only at hs
    unfold am_lbin at hs
    (repeat' split at hs) <;> first | (cases hs; exact ⟨n, hn, Nat.le_refl _, rfl⟩) | (cases hs; done)
  | lsub =>
    unfold am_step at hs
    dsimp only at hs
    unfold am_lbin at hs
    (repeat' split at hs) <;> first | (cases hs; exact ⟨n, hn, Nat.le_refl _, rfl⟩) | (cases hs; done)
  | lmul =>
    unfold am_step at hs
    dsimp only at hs
    unfold am_lbin at hs
    (repeat' split at hs) <;> first | (cases hs; exact ⟨n, hn, Nat.le_refl _, rfl⟩) | (cases hs; done)
  | land =>
    unfold am_step at hs
    dsimp only at hs
    unfold am_lbin at hs
    (repeat' split at hs) <;> first | (cases hs; exact ⟨n, hn, Nat.le_refl _, rfl⟩) | (cases hs; done)
  | lor =>
    unfold am_step at hs
    dsimp only at hs
    unfold am_lbin at hs
    (repeat' split at hs) <;> first | (cases hs; exact ⟨n, hn, Nat.le_refl _, rfl⟩) | (cases hs; done)
  | ldiv =>
    unfold am_step at hs
    dsimp only at hs
    unfold am_lbinD at hs
    (repeat' split at hs) <;> first | (cases hs; exact ⟨n, hn, Nat.le_refl _, rfl⟩) | (cases hs; done)
  | lrem =>
    unfold am_step at hs
    dsimp only at hs
    unfold am_lbinD at hs
    (repeat' split at hs) <;> first | (cases hs; exact ⟨n, hn, Nat.le_refl _, rfl⟩) | (cases hs; done)
  | ineg =>
    unfold am_step at hs
    dsimp only at hs
    unfold am_un at hs
    (repeat' split at hs) <;> first | (cases hs; exact ⟨n, hn, Nat.le_refl _, rfl⟩) | (cases hs; done)
  | i2l =>
    unfold am_step at hs
    dsimp only at hs
    unfold am_un at hs
    (repeat' split at hs) <;> first | (cases hs; exact ⟨n, hn, Nat.le_refl _, rfl⟩) | (cases hs; done)
  | i2c =>
    unfold am_step at hs
    dsimp only at hs
    unfold am_un at hs
    (repeat' split at hs) <;> first | (cases hs; exact ⟨n, hn, Nat.le_refl _, rfl⟩) | (cases hs; done)
  | lshl =>
    unfold am_step at hs
    dsimp only at hs
    (repeat' split at hs) <;> first | (cases hs; exact ⟨n, hn, Nat.le_refl _, rfl⟩) | (cases hs; done)
  | lushr =>
    unfold am_step at hs
    dsimp only at hs
    (repeat' split at hs) <;> first | (cases hs; exact ⟨n, hn, Nat.le_refl _, rfl⟩) | (cases hs; done)
  | l2i =>
    unfold am_step at hs
    dsimp only at hs
    (repeat' split at hs) <;> first | (cases hs; exact ⟨n, hn, Nat.le_refl _, rfl⟩) | (cases hs; done)
  | lcmp =>
    unfold am_step at hs
    dsimp only at hs
    (repeat' split at hs) <;> first | (cases hs; exact ⟨n, hn, Nat.le_refl _, rfl⟩) | (cases hs; done)
  | dup =>
    unfold am_step at hs
    dsimp only at hs
    (repeat' split at hs) <;> first | (cases hs; exact ⟨n, hn, Nat.le_refl _, rfl⟩) | (cases hs; done)
  | dup2 =>
    unfold am_step at hs
    dsimp only at hs
    (repeat' split at hs) <;> first | (cases hs; exact ⟨n, hn, Nat.le_refl _, rfl⟩) | (cases hs; done)
  | pop =>
    unfold am_step at hs
    dsimp only at hs
    (repeat' split at hs) <;> first | (cases hs; exact ⟨n, hn, Nat.le_refl _, rfl⟩) | (cases hs; done)
  | aconst_null =>
    unfold am_step at hs
    dsimp only at hs
    (repeat' split at hs) <;> first | (cases hs; exact ⟨n, hn, Nat.le_refl _, rfl⟩) | (cases hs; done)
  | iconst x0 =>
    unfold am_step at hs
    dsimp only at hs
    (repeat' split at hs) <;> first | (cases hs; exact ⟨n, hn, Nat.le_refl _, rfl⟩) | (cases hs; done)
  | bipush x0 =>
    unfold am_step at hs
    dsimp only at hs
    (repeat' split at hs) <;> first | (cases hs; exact ⟨n, hn, Nat.le_refl _, rfl⟩) | (cases hs; done)
  | sipush x0 =>
    unfold am_step at hs
    dsimp only at hs
    (repeat' split at hs) <;> first | (cases hs; exact ⟨n, hn, Nat.le_refl _, rfl⟩) | (cases hs; done)
  | lconst x0 =>
    unfold am_step at hs
    dsimp only at hs
    (repeat' split at hs) <;> first | (cases hs; exact ⟨n, hn, Nat.le_refl _, rfl⟩) | (cases hs; done)
  | ldc x0 =>
    unfold am_step at hs
    dsimp only at hs
    (repeat' split at hs) <;> first | (cases hs; exact ⟨n, hn, Nat.le_refl _, rfl⟩) | (cases hs; done)
  | ldc_w x0 =>
    unfold am_step at hs
    dsimp only at hs
    (repeat' split at hs) <;> first | (cases hs; exact ⟨n, hn, Nat.le_refl _, rfl⟩) | (cases hs; done)
  | ldc2_w x0 =>
    unfold am_step at hs
    dsimp only at hs
    (repeat' split at hs) <;> first | (cases hs; exact ⟨n, hn, Nat.le_refl _, rfl⟩) | (cases hs; done)
  | getstatic x0 =>
    unfold am_step at hs
    dsimp only at hs
    (repeat' split at hs) <;> first | (cases hs; exact ⟨n, hn, Nat.le_refl _, rfl⟩) | (cases hs; done)
  | iload x0 =>
    unfold am_step at hs
    dsimp only at hs
    unfold am_ldi at hs
    (repeat' split at hs) <;> first | (cases hs; exact ⟨n, hn, Nat.le_refl _, rfl⟩) | (cases hs; done)
  | iload_n x0 =>
    unfold am_step at hs
    dsimp only at hs
    unfold am_ldi at hs
    (repeat' split at hs) <;> first | (cases hs; exact ⟨n, hn, Nat.le_refl _, rfl⟩) | (cases hs; done)
  | aload x0 =>
    unfold am_step at hs
    dsimp only at hs
    unfold am_lda at hs
    (repeat' split at hs) <;> first | (cases hs; exact ⟨n, hn, Nat.le_refl _, rfl⟩) | (cases hs; done)
  | aload_n x0 =>
    unfold am_step at hs
    dsimp only at hs
    unfold am_lda at hs
    (repeat' split at hs) <;> first | (cases hs; exact ⟨n, hn, Nat.le_refl _, rfl⟩) | (cases hs; done)
  | lload x0 =>
    unfold am_step at hs
    dsimp only at hs
    unfold am_ldl at hs
    (repeat' split at hs) <;> first | (cases hs; exact ⟨n, hn, Nat.le_refl _, rfl⟩) | (cases hs; done)
  | lload_n x0 =>
    unfold am_step at hs
    dsimp only at hs
    unfold am_ldl at hs
    (repeat' split at hs) <;> first | (cases hs; exact ⟨n, hn, Nat.le_refl _, rfl⟩) | (cases hs; done)
  | istore x0 =>
    unfold am_step at hs
    dsimp only at hs
    unfold am_sti at hs
    (repeat' split at hs) <;> first | (cases hs; exact ⟨n, hn, Nat.le_refl _, rfl⟩) | (cases hs; done)
  | istore_n x0 =>
    unfold am_step at hs
    dsimp only at hs
    unfold am_sti at hs
    (repeat' split at hs) <;> first | (cases hs; exact ⟨n, hn, Nat.le_refl _, rfl⟩) | (cases hs; done)
  | astore x0 =>
    unfold am_step at hs
    dsimp only at hs
    unfold am_sta at hs
    (repeat' split at hs) <;> first | (cases hs; exact ⟨n, hn, Nat.le_refl _, rfl⟩) | (cases hs; done)
  | astore_n x0 =>
    unfold am_step at hs
    dsimp only at hs
    unfold am_sta at hs
    (repeat' split at hs) <;> first | (cases hs; exact ⟨n, hn, Nat.le_refl _, rfl⟩) | (cases hs; done)
  | lstore x0 =>
    unfold am_step at hs
    dsimp only at hs
    unfold am_stl at hs
    (repeat' split at hs) <;> first | (cases hs; exact ⟨n, hn, Nat.le_refl _, rfl⟩) | (cases hs; done)
  | lstore_n x0 =>
    unfold am_step at hs
    dsimp only at hs
    unfold am_stl at hs
    (repeat' split at hs) <;> first | (cases hs; exact ⟨n, hn, Nat.le_refl _, rfl⟩) | (cases hs; done)
  | iinc x0 x1 =>
    unfold am_step at hs
    dsimp only at hs
    unfold am_inc at hs
    (repeat' split at hs) <;> first | (cases hs; exact ⟨n, hn, Nat.le_refl _, rfl⟩) | (cases hs; done)
  | goto x0 =>
    unfold am_step at hs
    dsimp only at hs
    unfold am_go at hs
    (repeat' split at hs) <;> first | (cases hs; exact ⟨n, hn, Nat.le_refl _, rfl⟩) | (cases hs; done)
  | ifnull x0 =>
    unfold am_step at hs
    dsimp only at hs
    unfold am_go at hs
    (repeat' split at hs) <;> first | (cases hs; exact ⟨n, hn, Nat.le_refl _, rfl⟩) | (cases hs; done)
  | ifnonnull x0 =>
    unfold am_step at hs
    dsimp only at hs
    unfold am_go at hs
    (repeat' split at hs) <;> first | (cases hs; exact ⟨n, hn, Nat.le_refl _, rfl⟩) | (cases hs; done)
  | if_icmp x0 x1 =>
    unfold am_step at hs
    dsimp only at hs
    unfold am_if2 am_go at hs
    (repeat' split at hs) <;> first | (cases hs; exact ⟨n, hn, Nat.le_refl _, rfl⟩) | (cases hs; done)
  | ifCond x0 x1 =>
    unfold am_step at hs
    dsimp only at hs
    unfold am_if1 am_if2 am_go at hs
    (repeat' split at hs) <;> first | (cases hs; exact ⟨n, hn, Nat.le_refl _, rfl⟩) | (cases hs; done)
  | tableswitch x0 x1 x2 x3 =>
    unfold am_step at hs
    dsimp only at hs
    unfold am_sw at hs
    (repeat' split at hs) <;> first | (cases hs; exact ⟨n, hn, Nat.le_refl _, rfl⟩) | (cases hs; done)
  | lookupswitch x0 x1 =>
    unfold am_step at hs
    dsimp only at hs
    unfold am_sw at hs
    (repeat' split at hs) <;> first | (cases hs; exact ⟨n, hn, Nat.le_refl _, rfl⟩) | (cases hs; done)
  | iaload =>
    unfold am_step at hs
    dsimp only at hs
    unfold am_ald at hs
    (repeat' split at hs) <;> first | (cases hs; exact ⟨n, hn, Nat.le_refl _, rfl⟩) | (cases hs; done)
  | baload =>
    unfold am_step at hs
    dsimp only at hs
    unfold am_ald at hs
    (repeat' split at hs) <;> first | (cases hs; exact ⟨n, hn, Nat.le_refl _, rfl⟩) | (cases hs; done)
  | laload =>
    unfold am_step at hs
    dsimp only at hs
    unfold am_ald at hs
    (repeat' split at hs) <;> first | (cases hs; exact ⟨n, hn, Nat.le_refl _, rfl⟩) | (cases hs; done)
  | aaload =>
    unfold am_step at hs
    dsimp only at hs
    unfold am_aald at hs
    (repeat' split at hs) <;> first | (cases hs; exact ⟨n, hn, Nat.le_refl _, rfl⟩) | (cases hs; done)
  | iastore =>
    unfold am_step at hs
    dsimp only at hs
    unfold am_ast at hs
    (repeat' split at hs) <;> first | (cases hs; exact ⟨n, hn, Nat.le_refl _, rfl⟩) | (cases hs; done)
  | bastore =>
    unfold am_step at hs
    dsimp only at hs
    unfold am_ast at hs
    (repeat' split at hs) <;> first | (cases hs; exact ⟨n, hn, Nat.le_refl _, rfl⟩) | (cases hs; done)
  | arraylength =>
    unfold am_step at hs
    dsimp only at hs
    unfold am_alen at hs
    (repeat' split at hs) <;> first | (cases hs; exact ⟨n, hn, Nat.le_refl _, rfl⟩) | (cases hs; done)
  | getfield x0 =>
    unfold am_step at hs
    dsimp only at hs
    unfold am_getf at hs
    (repeat' split at hs) <;> first | (cases hs; exact ⟨n, hn, Nat.le_refl _, rfl⟩) | (cases hs; done)
  | invokevirtual x0 =>
    unfold am_step at hs
    dsimp only at hs
    unfold am_inv am_intr at hs
    (repeat' split at hs) <;> first | (cases hs; exact ⟨n, hn, Nat.le_refl _, rfl⟩) | (cases hs; done)
  | invokespecial x0 =>
    unfold am_step at hs
    dsimp only at hs
    unfold am_inv am_intr at hs
    (repeat' split at hs) <;> first | (cases hs; exact ⟨n, hn, Nat.le_refl _, rfl⟩) | (cases hs; done)
  | invokestatic x0 =>
    unfold am_step at hs
    dsimp only at hs
    unfold am_inv am_intr at hs
    (repeat' split at hs) <;> first | (cases hs; exact ⟨n, hn, Nat.le_refl _, rfl⟩) | (cases hs; done)
  | ireturn =>
    unfold am_step at hs
    dsimp only at hs
    (repeat' split at hs) <;> first | (cases hs; exact ⟨n, hn, Nat.le_refl _, rfl⟩) | (cases hs; done)
  | lreturn =>
    unfold am_step at hs
    dsimp only at hs
    (repeat' split at hs) <;> first | (cases hs; exact ⟨n, hn, Nat.le_refl _, rfl⟩) | (cases hs; done)
  | areturn =>
    unfold am_step at hs
    dsimp only at hs
    (repeat' split at hs) <;> first | (cases hs; exact ⟨n, hn, Nat.le_refl _, rfl⟩) | (cases hs; done)
  | return_ =>
    unfold am_step at hs
    dsimp only at hs
    (repeat' split at hs) <;> first | (cases hs; exact ⟨n, hn, Nat.le_refl _, rfl⟩) | (cases hs; done)
  | putfield x0 =>
    unfold am_step at hs
    dsimp only at hs
    unfold am_putf at hs
    split at hs
    · split at hs
      · rename_i hc
        (repeat' split at hs) <;> first | (cases hs; exact ⟨n, hn, Nat.le_refl _, rfl⟩) | (cases hs; exact ⟨n, by rw [am_sR_ne (by omega)]; exact hn, Nat.le_refl _, by rw [am_sR_ne (by omega)]⟩) | (cases hs; done)
      · cases hs
    · cases hs
  | aastore =>
    unfold am_step at hs
    dsimp only at hs
    unfold am_aast at hs
    split at hs
    · split at hs
      · rename_i hc
        cases hs
        exact ⟨n, by rw [am_sR_ne (am_ne_hi hc.2.2 (by omega))]; exact hn, Nat.le_refl _, by rw [am_sR_ne (am_ne_hi hc.2.2 (by omega))]⟩
      · cases hs
    · cases hs
  | new x0 =>
    unfold am_step at hs
    dsimp only at hs
    unfold am_mkO at hs
    split at hs
    · split at hs <;> cases hs
    · rw [hn] at hs
      dsimp only at hs
      split at hs
      · cases hs
        exact ⟨n + 1, by rw [am_sR_eq], Nat.le_succ _, by rw [am_sR_ne (by omega)]⟩
      · cases hs
  | newarray x0 =>
    unfold am_step at hs
    dsimp only at hs
    unfold am_mkA at hs
    rw [hn] at hs
    split at hs
    · rename_i h2
      cases h2
      split at hs
      · cases hs
        exact ⟨n + 1, by rw [am_sR_eq], Nat.le_succ _, by rw [am_sR_ne (by omega)]⟩
      · cases hs
    · cases hs
  | anewarray x0 =>
    unfold am_step at hs
    dsimp only at hs
    unfold am_mkA at hs
    rw [hn] at hs
    split at hs
    · rename_i h2
      cases h2
      split at hs
      · cases hs
        exact ⟨n + 1, by rw [am_sR_eq], Nat.le_succ _, by rw [am_sR_ne (by omega)]⟩
      · cases hs
    · cases hs
  | _ => cases hs
end
theorem am_cl_cnt {f : Nat → List Value → am_I → am_R → am_Q → Option am_X} (hf : ∀ M a I R Q r I' R' Q' n, f M a I R Q = some (r, I', R', Q') → R 127 0 0 = some n → ∃ n', R' 127 0 0 = some n' ∧ n ≤ n' ∧ am_gx R ≤ am_gx R') {M : Nat} {args : List Value} {I : am_I} {R : am_R} {Q : am_Q} {r : Option Value} {I' : am_I} {R' : am_R} {Q' : am_Q} {n : Nat} (h : am_cl f M args I R Q = some (r, I', R', Q')) (hn : R 127 0 0 = some n) : ∃ n', R' 127 0 0 = some n' ∧ n ≤ n' ∧ am_gx R ≤ am_gx R' := by
  unfold am_cl at h
  split at h
  · exact hf _ _ _ _ _ _ _ _ _ _ h hn
  · split at h
    · split at h
      · split at h
        · split at h
          · rename_i hr
            cases h
            exact hf _ _ _ _ _ _ _ _ _ _ hr hn
          · rename_i hr
            cases h
            obtain ⟨n1, h1, h2, h3⟩ := hf _ _ _ _ _ _ _ _ _ _ hr hn
            refine ⟨n1, by rw [am_sR_ne (by omega)]; exact h1, h2, Nat.le_trans h3 ?_⟩
            unfold am_gx
            rw [am_sR_eq]
            exact Nat.le_succ _
          · cases h
        · cases h
      · cases h
    · cases he : am_ext M args I with
      | none => rw [he] at h; cases h
      | some v => rw [he] at h; cases h; exact ⟨n, hn, Nat.le_refl _, Nat.le_refl _⟩
theorem am_run_cnt : ∀ (k d M pc : Nat) (ls st : List Value) (I : am_I) (R : am_R) (Q : am_Q) (r : Option Value) (I' : am_I) (R' : am_R) (Q' : am_Q) (n : Nat), am_run k d M pc ls st I R Q = some (r, I', R', Q') → R 127 0 0 = some n → ∃ n', R' 127 0 0 = some n' ∧ n ≤ n' ∧ am_gx R ≤ am_gx R' := by
  intro k
  induction k with
  | zero => intro d M pc ls st I R Q r I' R' Q' n h; simp [am_run] at h
  | succ k ih =>
    intro d M pc ls st I R Q r I' R' Q' n h hn
    rw [am_run] at h
    cases hf : am_fetch M pc with
    | none => rw [hf] at h; cases h
    | some q =>
      obtain ⟨i, len, z⟩ := q
      rw [hf] at h
      dsimp only at h
      cases hs : am_step i z pc ls st I R Q with
      | none => rw [hs] at h; cases h
      | some o =>
        rw [hs] at h
        rcases o with ⟨pc', ls', st', I1, R1, Q1⟩ | r1 | ⟨M', args, rest⟩
        · obtain ⟨n1, h1, h2, h5⟩ := am_step_cnt hs hn
          obtain ⟨n2, h3, h4, h6⟩ := ih _ _ _ _ _ _ _ _ _ _ _ _ _ h h1
          exact ⟨n2, h3, by omega, by unfold am_gx at h6 ⊢; rw [h5] at h6; exact h6⟩
        · cases h
          exact ⟨n, hn, Nat.le_refl _, Nat.le_refl _⟩
        · dsimp only at h
          cases d with
          | zero => cases h
          | succ d =>
            dsimp only at h
            cases hc : am_cl (fun M'' a I R Q => am_run k d M'' 0 (am_lo M'' a) [] I R Q) M' args I R Q with
            | none => rw [hc] at h; cases h
            | some y =>
              rw [hc] at h
              obtain ⟨r1, I1, R1, Q1⟩ := y
              obtain ⟨n1, h1, h2, h5⟩ := am_cl_cnt (fun M a I R Q r I' R' Q' n hq hn => ih _ _ _ _ _ _ _ _ _ _ _ _ _ hq hn) hc hn
              obtain ⟨n2, h3, h4, h6⟩ := ih _ _ _ _ _ _ _ _ _ _ _ _ _ h h1
              exact ⟨n2, h3, by omega, by omega⟩
