/-! The law's walk out of one run of the A-machine. -/
theorem am_ret_int {i : Instr} {z : Nat × Nat × Int} {pc : Nat} {als ast : List Value} {I : am_I} {R : am_R} {Q : am_Q} {x : Int32} (hs : am_step i z pc als ast I R Q = some (.inr (.inl (some (.int x))))) : i = .ireturn ∧ ast = [.int x] := by
  cases i with
  | ireturn =>
    unfold am_step at hs
    dsimp only at hs
    split at hs
    · split at hs
      · cases hs
        exact ⟨rfl, rfl⟩
      · cases hs
    · cases hs
  | lreturn =>
    unfold am_step at hs
    dsimp only at hs
    (repeat' split at hs) <;> cases hs
  | areturn =>
    unfold am_step at hs
    dsimp only at hs
    (repeat' split at hs) <;> cases hs
  | return_ =>
    unfold am_step at hs
    dsimp only at hs
    (repeat' split at hs) <;> cases hs
  | new x0 =>
    unfold am_step am_mkO at hs
    dsimp only at hs
    (repeat' split at hs) <;> cases hs
  | invokevirtual x0 => exact absurd hs am_inv_noret
  | invokespecial x0 => exact absurd hs am_inv_noret
  | invokestatic x0 => exact absurd hs am_inv_noret
  | _ => exact absurd (am_step_out hs) (show ¬ (false = true) by decide)
theorem am_ss_all : am_ss 365 ≤ 7000000 := by decide +kernel
theorem am_law_W {p : Program} {l : Launch} {e : Env} {s : State} {m : MethodId} {below : List Frame} {meth : Method} {c : Code} {D : va_G} {cA : Nat → Nat} {A : Nat → Prop} {rm : Nat → Nat} {I0 : am_I} {Fx : State → Prop} {ad0 : Nat → Nat} {k : Nat} {R0 : am_R} {Q0 : am_Q} {I' : am_I} {R' : am_R} {Q' : am_Q} (hP : am_P l D cA A rm I0 Fx k) (C : am_Cx am_lst A rm I0 Fx D cA p s m #[Value.ref (ad0 (am_mk 120 0))] meth c) (hAs : ∀ q, A q → s.heap.size ≤ q) (hbc : c.code = code) (hret : meth.sig.returnType = ret) (h2 : ∀ a ∈ am_rl, ad0 a = rm a) (hSt : am_St D cA A ad0 0 I0 I0 R0 Q0 s.heap) (hg0 : am_gx R0 = 0) (hrun : am_run k 100 am_lst 0 (am_lo am_lst [.ref (am_mk 120 0)]) [] I0 R0 Q0 = some (some (.int 1), I', R', Q')) (hn : R' 127 0 0 = some 365) (hg : am_gx R' ≤ 3072) : W p l e room_1 s m #[Value.ref (ad0 (am_mk 120 0))] below meth c s.heap [] 0 0 (lw_Z below #[Value.ref (ad0 (am_mk 120 0))] s) (entryFrame m ([Value.ref (ad0 (am_mk 120 0))] : List Value).toArray 7) := by
  have hM : am_lst < 283 := by decide
  have hss := am_ss_all
  have hroom : ∀ n', R' 127 0 0 = some n' → n' - 0 + am_gx R' ≤ room_1.cells ∧ am_ss n' - am_ss 0 + 6 * am_gx R' ≤ room_1.slots := by
    intro n' hn'
    rw [hn] at hn'
    cases hn'
    refine ⟨?_, ?_⟩
    · show 365 - 0 + am_gx R' ≤ 601024
      omega
    · show am_ss 365 - am_ss 0 + 6 * am_gx R' ≤ 7293033
      omega
  have hG := hP 100 am_lst 0 _ _ I0 R0 Q0 (some (.int 1)) I' R' Q' hrun p e room_1 s m #[Value.ref (ad0 (am_mk 120 0))] below meth c 0 0 (am_gx R') ad0 (lw_Z below #[Value.ref (ad0 (am_mk 120 0))] s) C ⟨by decide, by decide⟩ (by rw [hg0]; omega) hroom (fun pc als ast i len z hf hs => ?_)
  · have key := hG ad0 0 s.heap [] _ (fun _ _ => rfl) h2 (Nat.le_refl _) hSt (am_entry (args := [.ref (am_mk 120 0)]) hM (by rw [show am_sg am_lst = [1] by decide +kernel]; rfl) (fun v hv => by
      cases List.mem_singleton.mp hv
      exact ⟨fun a ha => (by cases ha; exact Or.inr (by simp [am_rl])), fun x q => by cases q⟩)) (fun v hv => by cases hv) va_S.rf
    rw [lg_entry_eq]
    exact key
  · obtain ⟨hd, hl, -⟩ := am_chk_at hf
    obtain ⟨q1, q2⟩ := am_ret_int hs
    subst q1
    subst q2
    obtain rfl : len = 1 := hl.resolve_left (show ¬ (1 : Nat) = 0 by decide)
    obtain ⟨hx, hb, hml, hown, hts, hr, hlk, -⟩ := C
    intro ad n H locs ls g1 g2 g3 g4 g5 g6 g7
    have hn2 : n = 365 := by have := g4.2.1; rw [hn] at this; cases this; rfl
    subst hn2
    obtain ⟨r1, r2⟩ := hroom 365 hn
    rw [← hb, hbc] at hd
    exact am_lw_end hx hbc hret hlk (fun q hq => hAs _ (g7.2.2 q hq)) r1 r2 hd
