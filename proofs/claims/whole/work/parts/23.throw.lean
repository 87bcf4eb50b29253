/-! ColdMiddle.spot's contract where it throws. -/
def am_FX (A : Nat → Prop) (aK aV : Nat → Nat) (U : State) : Prop := am_SF A aK aV U ∧ (vx_Zq Bundle.tN "UNASSIGNED_STACK" Bundle.steD A U U.heap ∧ vx_Zq Bundle.tN "SUPPRESSED_SENTINEL" Bundle.listD A U U.heap) ∧ ∀ w ∈ am_at0B, va_Nw w U
theorem am_at0B_warm {s U : State} (hW : s.WarmedH U.vm) (h : ∀ w ∈ am_at0B, va_Nw w s) : ∀ w ∈ am_at0B, va_Nw w U := by
  intro w hw
  have h0 := h w hw
  simp only [am_at0B, List.mem_cons, List.not_mem_nil, or_false] at hw
  rcases hw with q | q | q | q <;> subst q
  · exact va_Nw.warmC hW h0
  · exact va_Nw.warmD hW h0
  · exact va_Nw.warmD hW h0
  · exact va_Nw.warmD hW h0
theorem am_at0B_tab : ∀ w ∈ am_at0B, w.onTables = true := by decide +kernel
theorem am_FX_T {A : Nat → Prop} {aK aV : Nat → Nat} : am_FxT A (am_FX A aK aV) := by
  refine ⟨fun U U' hvm hh h => ?_, fun s U locs hW hS h => ?_⟩
  · obtain ⟨h1, ⟨h2, h3⟩, h4⟩ := h
    have hal : U.vm.Alike U'.vm := by rw [hvm]; exact Vm.Alike.refl _
    refine ⟨am_SF_T.1 U U' hvm hh h1, ⟨?_, ?_⟩, fun w hw => va_Nw.same (am_at0B_tab w hw) hvm.symm (h4 w hw)⟩
    · rw [hh]; exact vx_Zq.moved hal h2
    · rw [hh]; exact vx_Zq.moved hal h3
  · obtain ⟨h1, ⟨h2, h3⟩, h4⟩ := h
    exact ⟨am_SF_T.2 s U locs hW hS h1, ⟨(vx_Zq.moved hW.alike h2).kept hS.2.1, (vx_Zq.moved hW.alike h3).kept hS.2.1⟩, am_at0B_warm hW h4⟩
def am_isNew (i : Instr) : Bool := match i with
  | .new _ => true
  | _ => false
theorem am_spot_new : ∀ e ∈ am_TB am_spot, am_isNew e.2.1 = true → e.2.1 = .new 171 ∧ decode (am_cc am_spot) (e.1 + 3) = .ok (.dup, 1) ∧ decode (am_cc am_spot) (e.1 + 4) = .ok (.invokespecial 173, 3) ∧ decode (am_cc am_spot) (e.1 + 7) = .ok (.athrow, 1) := by decide +kernel
theorem am_none_new {M pc : Nat} {i : Instr} {z : Nat × Nat × Int} {als ast : List Value} {I : am_I} {R : am_R} {Q : am_Q} (hrt : am_rt M ≠ none) (hc : am_chI M pc i z = true) (hs : am_step i z pc als ast I R Q = some (.inr (.inl none))) : am_isNew i = true := by
  cases i with
  | new x0 => rfl
  | return_ => exact absurd (of_decide_eq_true hc) hrt
  | ireturn =>
    unfold am_step at hs
    dsimp only at hs
    (repeat' split at hs) <;> cases hs
  | lreturn =>
    unfold am_step at hs
    dsimp only at hs
    (repeat' split at hs) <;> cases hs
  | areturn =>
    unfold am_step at hs
    dsimp only at hs
    (repeat' split at hs) <;> cases hs
  | invokevirtual x0 => exact absurd hs am_inv_noret
  | invokespecial x0 => exact absurd hs am_inv_noret
  | invokestatic x0 => exact absurd hs am_inv_noret
  | _ => exact absurd (am_step_out hs) (show ¬ (false = true) by decide)
theorem am_new_nil {idx pc : Nat} {z : Nat × Nat × Int} {als ast : List Value} {I : am_I} {R : am_R} {Q : am_Q} (hs : am_step (.new idx) z pc als ast I R Q = some (.inr (.inl none))) : ast = [] := by
  unfold am_step at hs
  dsimp only at hs
  split at hs
  · split at hs
    · rename_i h
      exact List.isEmpty_iff.mp h
    · cases hs
  · unfold am_mkO at hs
    (repeat' split at hs) <;> cases hs
/-- what is so where ColdMiddle.spot has thrown -/
def am_XC (D : va_G) (cA : Nat → Nat) (A : Nat → Prop) (I0 : am_I) (ad : Nat → Nat) (n : Nat) (I : am_I) (R : am_R) (Q : am_Q) : String → State → State → Prop := fun E st t => E = am_nse ∧ (∃ (ad' : Nat → Nat) (n' : Nat), (∀ a, am_va n a → ad' a = ad a) ∧ am_St D cA A ad' n' I0 I R Q t.heap ∧ n ≤ n') ∧ va_F A st t
section
variable {l : Launch} {D : va_G} {cA : Nat → Nat} {A : Nat → Prop} {rm : Nat → Nat} {I0 : am_I}
variable {I : am_I} {R : am_R} {Q : am_Q}
theorem am_spot_met {k d n n1 : Nat} {ad : Nat → Nat} {vs : List Value} {I1 : am_I} {R1 : am_R} {Q1 : am_Q} {aK aV : Nat → Nat} (hl : l.stackTraces = false) (hP : am_P l D cA A rm I0 (am_FX A aK aV) k) (hrun : am_run k d am_spot 0 (am_lo am_spot vs) [] I R Q = some (none, I1, R1, Q1)) (hgx : am_gx R1 = am_gx R) (hok : am_okA (am_sg am_spot) vs = true) (h2 : ∀ a ∈ am_rl, ad a = rm a) (hv : ∀ v ∈ vs, am_vv n v) (hn1 : R1 127 0 0 = some n1) : vx_Met l (am_yy am_spot) (am_mw1 am_spot :: am_ws) (am_rmr d (n1 - n + 1) (am_ss n1 - am_ss n + 6)) (am_Pc D cA A rm I0 (am_FX A aK aV) ad n vs I R Q) (fun _ _ _ _ => False) (am_XC D cA A I0 ad n I1 R1 Q1) (n1 - n + 1) (am_ss n1 - am_ss n + 6) A := by
  have hM : am_spot < 283 := by decide
  obtain ⟨c1, c2, c3, c4, c5, c6⟩ := am_chM_at hM
  refine vx_ofW (cc := am_cc am_spot) (maxL := am_ml am_spot) (ret := am_rt am_spot) (by decide +kernel) rfl ?_
  intro p e s m args0 below meth c s₁ B hml hout hv0
  obtain ⟨rfl, hSt, hK, hF, hA⟩ := hv0
  have hts0 := atoms_spec (ws := am_mw1 am_spot :: am_ws) B.pre
  have hts : ∀ w ∈ am_ws, w.before _ s = true := fun w hw => hts0 w (List.mem_cons_of_mem _ hw)
  have hown : s.vm.findClass (am_on am_spot) = some m.cls := by rw [← c2]; exact findClass_of_methodNamed B.named
  have hown2 : s.vm.findClass "ColdMiddle" = some m.cls := hown
  have C : am_Cx am_spot A rm I0 (am_FX A aK aV) D cA p s m (vs.map (am_tv ad)).toArray meth c := ⟨B.exec, B.bytes, hml, hown, hts, B.returns, B.notSynchronized, (name_of_methodNamed B.named B.method).1, hA, hK, hF⟩
  have hFx := hF.2.2.2.2.2.2
  have hat : ∀ w ∈ vx_at0 "ColdMiddle" 173 am_nse am_nsn, w.before (vs.map (am_tv ad)).toArray s = true := vx_hat (B := am_at0B) (fun w hw => hts w (am_at0_in w hw)) am_at0_no (fun w hw => va_Nw.use (am_at0B_tab w hw) (hFx.2.2 w hw))
  have hG := hP d am_spot 0 _ _ I R Q none I1 R1 Q1 hrun p e (am_rmr d (n1 - n + 1) (am_ss n1 - am_ss n + 6)) s m (vs.map (am_tv ad)).toArray below meth c n 0 0 ad (vx_MQ below (fun _ _ _ _ => False) (am_XC D cA A I0 ad n I1 R1 Q1) (vs.map (am_tv ad)).toArray s (n1 - n + 1) (am_ss n1 - am_ss n + 6) A) C ⟨Nat.le_refl _, Nat.le_refl _⟩ (by rw [hgx]) (fun n' hn' => by rw [hn1] at hn'; cases hn'; exact ⟨by show n1 - n + 0 ≤ n1 - n + 1; omega, by show am_ss n1 - am_ss n + 6 * 0 ≤ am_ss n1 - am_ss n + 6; omega⟩) (fun pc als ast i len z hf hs => ?_)
  · have key := hG ad n s.heap [] _ (fun _ _ => rfl) h2 (Nat.le_refl _) hSt (am_entry hM hok hv) (fun v hv => by cases hv) va_S.rf
    rw [Nat.sub_self, Nat.sub_self] at key
    rw [lg_entry_eq]
    exact key
  · obtain ⟨hd, hlen, hc⟩ := am_chk_at hf
    have hi := am_none_new (by decide +kernel) hc hs
    obtain ⟨e1, e2, e3, e4⟩ := am_spot_new _ (am_look_mem hf) hi
    have e1 : i = .new 171 := e1
    subst e1
    obtain rfl : len = 3 := hlen.resolve_left (show ¬ (3 : Nat) = 0 by decide)
    have hnil := am_new_nil hs
    subst hnil
    intro ad' n' H locs ls g1 g2 g3 g4 g5 g6 g7
    have hnn : n' = n1 := by have := g4.2.1; rw [hn1] at this; cases this; rfl
    subst hnn
    refine vx_throw0 (A := A) (names := am_nsn) (own := "ColdMiddle") (cls := am_nse) B.exec B.bytes hl hown2 (by decide +kernel) (by decide +kernel) (hts _ (am_xw_in _ (by simp [am_xw]))) (hts _ (am_xw_in _ (by simp [am_xw]))) hat am_at0_ot hFx.2.1.1 hFx.2.1.2 g7 (by rw [hml]; exact g5.2.1.1) hd e2 e3 e4 (fun x hx => (hout x hx).elim) ?_ ?_ ?_ ?_ B.notSynchronized ?_ g7.2.2 ?_ ?_
    · show 2 + 3 < 2 * d + 6
      omega
    · show 0 + (13 * (2 + 1) + 42) ≤ 80 * (d + 5)
      omega
    · show n' - n + 0 + 1 ≤ n' - n + 1
      omega
    · show am_ss n' - am_ss n + 6 * 0 + 6 ≤ am_ss n' - am_ss n + 6
      omega
    · intro t hal hsz hq
      refine ⟨rfl, ⟨ad', n', am_agree g1 g2 h2, ?_, g3⟩, ?_⟩
      · obtain ⟨q1, q2, q3, q4, q5, q6, q7⟩ := g4
        exact ⟨q1, q2, q3, q4, q5.kept (fun k q hk => hq _ (vx_lt q5 hk)), q6, q7⟩
      · exact va_S.F (H := t.heap) (locs := locs) ⟨Nat.le_trans g7.1 hsz, fun q h1 h3 => by rw [hq q (Nat.lt_of_lt_of_le h1 g7.1)]; exact g7.2.1 q h1 h3, g7.2.2⟩ rfl
    · show n' - n + 0 + 1 ≤ n' - n + 1
      omega
    · show am_ss n' - am_ss n + 6 * 0 + 6 ≤ am_ss n' - am_ss n + 6
      omega
end
