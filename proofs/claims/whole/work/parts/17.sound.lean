/-! A call; the theorem. -/
/-- a contract out of a walk (by the method's name) -/
theorem am_ofWF {l : Launch} {y : MethodName} {ws ws' : List Cond} {rm : Room} {Pc : Array Value → State → Prop} {Qc : Array Value → State → Outcome → State → Prop} {mc ms : Nat} {free : Addr → Prop} {cc : ByteArray} {maxL : Nat} {ret : Option FieldType}
    (hy : plainFor y = true) (hw : ws = Cond.code y cc maxL ret :: ws')
    (body : ∀ p e s m args below meth c s₁, BodyLoose p l y (headSpec ws rm) cc maxL ret e s m args below meth c s₁ → c.maxLocals = maxL → Pc args s →
      W p l e (headSpec ws rm).room s m args below meth c s.heap [] 0 0 (MQ below Qc args s mc ms free) (entryFrame m args maxL)) : Met l y ws rm Pc Qc mc ms free := by
  refine MetFree.of_bodySF (code := cc) (maxLocals := maxL) (ret := ret) hy ?_ ?_
  · intro args s m h hn
    obtain ⟨meth, c, h1, h2, h3, h4, h5, h6, -, -⟩ := Cond.code_spec hn (atoms_spec (ws := ws) h _ (by rw [hw]; exact List.mem_cons_self))
    exact ⟨meth, c, h1, h2, h3, h4, h5, h6⟩
  · intro p e s m args below meth c s₁ B hml hP _
    have hh0 : s₁.heap = s.heap := by rw [B.state]; rfl
    obtain ⟨t, a1, o, b1, b2, b3⟩ := body p e s m args below meth c s₁ B hml hP s₁ hh0 (Stand.of_body B)
    exact ⟨t, o, a1, b1, b2, ⟨b3.1, b3.2⟩⟩
def am_FxT (A : Nat → Prop) (Fx : State → Prop) : Prop := (∀ U U' : State, U'.vm = U.vm → U'.heap = U.heap → Fx U → Fx U') ∧ ∀ (s U : State) (locs : List Loc), s.WarmedH U.vm → va_S A s.heap U.heap locs → Fx s → Fx U
theorem am_Fs_same {A : Nat → Prop} {rm : Nat → Nat} {I0 : am_I} {Fx : State → Prop} {U U' : State} (hvm : U'.vm = U.vm) (hh : U'.heap = U.heap) (hT : am_FxT A Fx) (h : am_Fs A rm I0 Fx U) : am_Fs A rm I0 Fx U' := by
  obtain ⟨a1, a2, a3, a4, a5, a6, a7⟩ := h
  have hal : U.vm.Alike U'.vm := by rw [hvm]; exact Vm.Alike.refl _
  refine ⟨fun k hk => ?_, fun k h1 h2 => ?_, fun j hj => vk_R.same hvm (a3 j hj), fun q hq => va_Nw.same rfl hvm.symm (a4 q hq), va_AO.moved hal a5, va_AO.moved hal a6, hT.1 U U' hvm hh a7⟩
  · rw [hh]; exact va_T.moved hal (a1 k hk)
  · rw [hh]; exact va_Z.moved hal (a2 k h1 h2)
theorem am_Fs_to {A : Nat → Prop} {rm : Nat → Nat} {I0 : am_I} {Fx : State → Prop} {s U : State} {locs : List Loc} (hW : s.WarmedH U.vm) (hS : va_S A s.heap U.heap locs) (hT : am_FxT A Fx) (h : am_Fs A rm I0 Fx s) : am_Fs A rm I0 Fx U := by
  obtain ⟨a1, a2, a3, a4, a5, a6, a7⟩ := h
  refine ⟨fun k hk => (va_T.moved hW.alike (a1 k hk)).kept hS.2.1, fun k h1 h2 => (va_Z.moved hW.alike (a2 k h1 h2)).kept hS.2.1, fun j hj => vk_R.warm hW (a3 j hj), fun q hq => va_Nw.warmM hW (a4 q hq), va_AO.moved hW.alike a5, va_AO.moved hW.alike a6, hT.2 s U locs hW hS a7⟩
theorem am_good {w : Cond} (h : w ∈ am_ws) : (w.onTables && w.keeps) = true ∨ ∃ ty, w = .arrayClass ty := good_of_word (List.mem_filter.mp h).2
theorem am_goodIn {w : Cond} (h : w ∈ am_ws) : GoodIn am_ws (w :: am_ws) := fun v hv => by
  rcases List.mem_cons.mp hv with q | q
  · rw [q]; exact ⟨h, am_good h⟩
  · exact ⟨q, am_good q⟩
theorem am_mchk_at {M : Nat} (h : M < 283) (hl : M ≠ am_lst) : am_mw1 M ∈ am_ws ∧ am_mw2 M ∈ am_ws ∧ am_mw3 M ∈ am_ws ∧ ((am_mps.getD M (0, 0, 0, 0)).2.2.2 ≠ 99999 → am_mw4 M ∈ am_ws) := by
  have hc := am_mchk_all M h
  unfold am_mchk at hc
  rcases am_or_beq hc with q | q
  · exact absurd (beq_iff_eq.mp q) hl
  · obtain ⟨q1, q2⟩ := am_and_b q
    obtain ⟨q3, q4⟩ := am_and_b q1
    obtain ⟨q5, q6⟩ := am_and_b q3
    refine ⟨am_pl2_in q5, am_pl2_in q6, am_pl2_in q4, fun hn => ?_⟩
    rcases am_or_beq q2 with r | r
    · exact absurd (beq_iff_eq.mp r) hn
    · exact am_pl2_in r
theorem am_chM_at {M : Nat} (h : M < 283) : plainFor (am_yy M) = true ∧ (am_yy M).cls = am_on M ∧ ((am_yy M).cls ≠ "java/lang/invoke/MethodHandle" ∧ (am_yy M).cls ≠ "java/lang/invoke/VarHandle") ∧ (parseMethodDescriptor (am_yy M).desc).map (fun d => d.parameters.length) = some ((am_sg M).length - (if am_isS M = true then 0 else 1)) ∧ am_ml M ≤ 20 ∧ (am_isS M = false → (am_sg M).headD 0 = 1 ∧ am_oc M < 13 ∧ am_RX (am_oc M) = (am_yy M).cls) := by
  have hc := am_chM_all M h
  unfold am_chM at hc
  simp only [Bool.and_eq_true, Bool.or_eq_true, decide_eq_true_eq, beq_iff_eq] at hc
  obtain ⟨⟨⟨⟨⟨⟨⟨c1, c2⟩, c3⟩, c4⟩, -⟩, -⟩, c7⟩, c8⟩ := hc
  refine ⟨c1, c2, c3, c4, c7, fun hs => ?_⟩
  have := c8.resolve_left (by rw [hs]; decide)
  exact ⟨this.1.1, this.1.2, this.2⟩
section
variable {p : Program} {l : Launch} {e : Env} {Rm : Room} {s : State} {m : MethodId} {args : Array Value} {below : List Frame} {meth : Method} {c : Code} {D : va_G} {cA : Nat → Nat} {A : Nat → Prop} {rm : Nat → Nat} {I0 : am_I} {M n0 xg : Nat} {ad0 : Nat → Nat} {Qf : State → Prop} {Fx : State → Prop}
variable {pc : Nat} {als ast : List Value} {I : am_I} {R : am_R} {Q : am_Q} {pc' : Nat} {als' ast' : List Value} {I' : am_I} {R' : am_R} {Q' : am_Q}
theorem am_blind (hT : am_FxT A Fx) {ad : Nat → Nat} {n : Nat} {vs : List Value} : FrameBlind (am_Pc D cA A rm I0 Fx ad n vs I R Q) := by
  intro a U g mk h
  obtain ⟨h1, h2, h3, h4, h5⟩ := h
  exact ⟨h1, h2, va_K.moved (u := U) (U := U.calling g mk a) (Vm.Alike.refl U.vm) h3, am_Fs_same (U := U) (U' := U.calling g mk a) rfl rfl hT h4, h5⟩
/-- a method's contract out of its runs -/
theorem am_met {k d M' n n1 : Nat} {ad : Nat → Nat} {vs : List Value} {r1 : Option Value} {I1 : am_I} {R1 : am_R} {Q1 : am_Q} (hP : am_P l D cA A rm I0 Fx k) (hM : M' < 283) (hsp : M' ≠ am_spot ∨ r1 ≠ none) (hrun : am_run k d M' 0 (am_lo M' vs) [] I R Q = some (r1, I1, R1, Q1)) (hgx : am_gx R1 = am_gx R) (hok : am_okA (am_sg M') vs = true) (h2 : ∀ a ∈ am_rl, ad a = rm a) (hv : ∀ v ∈ vs, am_vv n v) (hn1 : R1 127 0 0 = some n1) : Met l (am_yy M') (am_mw1 M' :: am_ws) (am_rmr d (n1 - n) (am_ss n1 - am_ss n)) (am_Pc D cA A rm I0 Fx ad n vs I R Q) (am_Qc D cA A I0 ad n r1 I1 R1 Q1) (n1 - n) (am_ss n1 - am_ss n) A := by
  obtain ⟨c1, c2, c3, c4, c5, c6⟩ := am_chM_at hM
  refine am_ofWF (cc := am_cc M') (maxL := am_ml M') (ret := am_rt M') c1 rfl ?_
  intro p e s m args0 below meth c s₁ B hml hv0
  obtain ⟨rfl, hSt, hK, hF, hA⟩ := hv0
  have hts := atoms_spec (ws := am_mw1 M' :: am_ws) B.pre
  have hown : s.vm.findClass (am_on M') = some m.cls := by rw [← c2]; exact findClass_of_methodNamed B.named
  have C : am_Cx M' A rm I0 Fx D cA p s m (vs.map (am_tv ad)).toArray meth c := ⟨B.exec, B.bytes, hml, hown, fun w hw => hts w (List.mem_cons_of_mem _ hw), B.returns, B.notSynchronized, (name_of_methodNamed B.named B.method).1, hA, hK, hF⟩
  have hG := hP d M' 0 _ _ I R Q r1 I1 R1 Q1 hrun p e (am_rmr d (n1 - n) (am_ss n1 - am_ss n)) s m (vs.map (am_tv ad)).toArray below meth c n 0 0 ad (MQ below (am_Qc D cA A I0 ad n r1 I1 R1 Q1) (vs.map (am_tv ad)).toArray s (n1 - n) (am_ss n1 - am_ss n) A) C ⟨Nat.le_refl _, Nat.le_refl _⟩ (by rw [hgx]) (fun n' hn' => by rw [hn1] at hn'; cases hn'; exact ⟨Nat.le_refl _, Nat.le_refl _⟩) (fun pc als ast i len z hf hs => am_ret_G C hsp h2 hf hs hn1)
  have key := hG ad n s.heap [] _ (fun _ _ => rfl) h2 (Nat.le_refl _) hSt (am_entry hM hok hv) (fun v hv => by cases hv) va_S.rf
  rw [Nat.sub_self, Nat.sub_self] at key
  rw [lg_entry_eq]
  exact key
/-- behind a call -/
theorem am_behind {H : Heap} {locs : List Loc} {ls : Array Slot} {cells slots mc ms n : Nat} {ad : Nat → Nat} {st0 rest : List Value} {a : Array Value} {r1 : Option Value} {I1 : am_I} {R1 : am_R} {Q1 : am_Q} (hr : va_Run p l e Rm s m args below meth c H locs cells slots mc ms (F0 m pc ls st0) rest (am_Qc D cA A I0 ad n r1 I1 R1 Q1 a) A) (hS : va_S A s.heap H locs)
    (kk : ∀ (ad1 : Nat → Nat) (n1 : Nat) (H1 : Heap) (locs1 : List Loc), (∀ a, am_va n a → ad1 a = ad a) → n ≤ n1 → am_St D cA A ad1 n1 I0 I1 R1 Q1 H1 → (∀ v, r1 = some v → am_vv n1 v) → va_S A s.heap H1 locs1 → W p l e Rm s m args below meth c H1 locs1 (cells + mc) (slots + ms) Qf (F0 m (pc + 3) ls ((r1.map (am_tv ad1)).toList ++ rest))) : W p l e Rm s m args below meth c H locs cells slots Qf (F0 m pc ls st0) := by
  intro T hT X
  obtain ⟨v, st₀, t, T', L, hh0, X', hL, e1, e2, ⟨⟨ad1, n1, hv, q1, q2, q3, q4⟩, hz, hk⟩, st⟩ := hr T hT X
  cases hv
  rw [hh0] at hz hk
  obtain ⟨t2, a1, b1⟩ := kk ad1 n1 T'.heap (locs ++ L) q1 q3 (by rw [e1]; exact q2) q4
    ⟨Nat.le_trans hS.1 (by rw [e1]; exact hz), fun q h1 h2 => by rw [e1, hk q (Nat.lt_of_lt_of_le h1 hS.1) h2]; exact hS.2.1 q h1 h2, fun q hq => by
      rcases List.mem_append.mp hq with h | h
      · exact hS.2.2 q h
      · exact hL q h⟩ T' rfl X'
  exact ⟨t2, st t2 a1, b1⟩
theorem am_tv_agree {ad ad1 : Nat → Nat} {n : Nat} (h : ∀ a, am_va n a → ad1 a = ad a) {v : Value} (hv : am_vv n v) : am_tv ad1 v = am_tv ad v := by
  cases v with
  | ref a => show Value.ref _ = Value.ref _; rw [h a (hv.1 a rfl)]
  | _ => rfl
theorem am_Ls_agree {ad ad1 : Nat → Nat} {n n1 : Nat} {ls : Array Slot} (h : ∀ a, am_va n a → ad1 a = ad a) (hn : n ≤ n1) (h5 : am_Ls ad n (am_ml M) (am_lg M) als ls) : am_Ls ad1 n1 (am_ml M) (am_lg M) als ls := by
  refine ⟨h5.1, ?_, fun v hv => am_vv_mono hn (h5.2.2.1 v hv), h5.2.2.2⟩
  have e : am_lvs ad1 als = am_lvs ad als := by
    unfold am_lvs
    refine am_fm_congr fun i hi => ?_
    cases hv : als[i]? with
    | none => rfl
    | some v =>
      dsimp only
      rw [am_tv_agree h (h5.2.2.1 v (List.mem_of_getElem? hv))]
  rw [e]
  exact h5.2.1
/-- what a call goes on with -/
theorem am_call_go {H : Heap} {locs : List Loc} {ls : Array Slot} {n n1 : Nat} {ad : Nat → Nat} {st0 rest : List Value} {a : Array Value} {r1 : Option Value} {I1 : am_I} {R1 : am_R} {Q1 : am_Q} (hn1 : R1 127 0 0 = some n1) (hnn : n ≤ n1) (h1 : ∀ a, am_vo n0 a → ad a = ad0 a) (h2 : ∀ a ∈ am_rl, ad a = rm a) (h3 : n0 ≤ n) (h5 : am_Ls ad n (am_ml M) (am_lg M) als ls) (h6 : ∀ v ∈ rest, am_vv n v) (h7 : va_S A s.heap H locs) (hr : va_Run p l e Rm s m args below meth c H locs (n - n0 + xg) (am_ss n - am_ss n0 + 6 * xg) (n1 - n) (am_ss n1 - am_ss n) (F0 m pc ls st0) (rest.map (am_tv ad)) (am_Qc D cA A I0 ad n r1 I1 R1 Q1 a) A)
    (k : am_G p l e Rm s m args below meth c D cA A rm I0 M n0 xg ad0 Qf (pc + 3) als (r1.toList ++ rest) I1 R1 Q1) : W p l e Rm s m args below meth c H locs (n - n0 + xg) (am_ss n - am_ss n0 + 6 * xg) Qf (F0 m pc ls st0) := by
  refine am_behind hr h7 (fun ad1 n2 H1 locs1 q1 q2 q3 q4 hS => ?_)
  have hn2 : n2 = n1 := by have := q3.2.1; rw [hn1] at this; cases this; rfl
  subst hn2
  have key := k ad1 n2 H1 locs1 ls (fun x hx => by rw [← h1 x hx]; exact q1 x (Or.inl (am_vo_mono h3 hx))) (fun x hx => by rw [← h2 x hx]; exact q1 x (Or.inr hx)) (by omega) q3 (am_Ls_agree q1 hnn h5) (fun v hv => by
    rcases List.mem_append.mp hv with q | q
    · cases r1 with
      | none => cases q
      | some w => rcases List.mem_cons.mp q with q | q
                  · subst q; exact q4 _ rfl
                  · cases q
    · exact am_vv_mono hnn (h6 v q)) hS
  have e1 : (r1.toList ++ rest).map (am_tv ad1) = (r1.map (am_tv ad1)).toList ++ rest.map (am_tv ad) := by
    rw [List.map_append]
    congr 1
    · cases r1 <;> rfl
    · exact List.map_congr_left fun v hv => am_tv_agree q1 (h6 v hv)
  have m1 := am_ss_mono h3
  have m2 := am_ss_mono hnn
  rw [e1] at key
  rw [show n - n0 + xg + (n2 - n) = n2 - n0 + xg by omega, show am_ss n - am_ss n0 + 6 * xg + (am_ss n2 - am_ss n) = am_ss n2 - am_ss n0 + 6 * xg by omega]
  exact key
theorem am_inv_call {z : Nat × Nat × Int} {M' : Nat} {vs rest : List Value} (hs : am_inv z pc als ast I R Q = some (.inr (.inr (M', vs, rest)))) : z.1 < 1000 ∧ M' = z.1 ∧ ast = vs.reverse ++ rest ∧ am_okA (am_sgE z.1) vs = true ∧ rest.length ≤ 4 ∧ (z.2.1 = 1 ∨ am_isR vs[0]? (am_ocE z.1) = true) := by
  unfold am_inv at hs
  split at hs
  · exfalso
    unfold am_intr at hs
    (repeat' split at hs) <;> cases hs
  · split at hs
    · rename_i h1 h2
      cases hs
      exact ⟨by omega, rfl, by rw [List.reverse_reverse, List.take_append_drop], h2.1, h2.2.1, h2.2.2⟩
    · cases hs
theorem am_okA_len : ∀ (ts : List Nat) (vs : List Value), am_okA ts vs = true → vs.length = ts.length := by
  intro ts
  induction ts with
  | nil => intro vs h; cases vs with
    | nil => rfl
    | cons v vs => cases h
  | cons t ts ih =>
    intro vs h
    cases vs with
    | nil => cases h
    | cons v vs => rw [List.length_cons, List.length_cons, ih vs (am_and_b (show (am_okT t v && am_okA ts vs) = true from h)).2]
/-- what the check says of a call of a method of the machine -/
theorem am_chV_own {idx kind : Nat} {z : Nat × Nat × Int} (hc : am_chV M idx z kind = true) (h1 : z.1 < 283) : z.1 ≠ am_lst ∧ z.1 ≠ am_spot ∧ am_isS z.1 = (kind == 1) ∧ (kind = 0 → (am_mps.getD z.1 (0, 0, 0, 0)).2.2.2 ≠ 99999) ∧ (kind = 2 → (am_yy z.1).name = "<init>" ∧ am_rt z.1 = none) ∧ ((z.2.1 = 3 ∧ kind = 2 ∧ (am_oc M, idx, z.1) ∈ am_mn) ∨ (z.2.1 = kind ∧ (am_oc M, idx, z.1) ∈ am_ml2)) := by
  unfold am_chV at hc
  rcases am_or_beq hc with h | h
  · have := beq_iff_eq.mp h; omega
  · simp only [Bool.and_eq_true, Bool.or_eq_true, beq_iff_eq, bne_iff_ne, decide_eq_true_eq, ne_eq] at h
    obtain ⟨⟨⟨⟨⟨⟨⟨⟨⟨a1, a2⟩, a3⟩, a4⟩, a5⟩, a6⟩, a7⟩, a8⟩, a9⟩, a10⟩ := h
    have a2 := a2.resolve_left (by omega)
    obtain ⟨⟨⟨⟨b1, b2⟩, b3⟩, b4⟩, b5⟩ := a2
    refine ⟨b4, b5, b1, fun hk => b2.resolve_left (by omega), fun hk => b3.resolve_left (by omega), ?_⟩
    split at a1
    · rename_i h3
      simp only [Bool.and_eq_true, beq_iff_eq, decide_eq_true_eq] at a1
      exact Or.inl ⟨h3, a1.1.1, am_cont a1.1.2⟩
    · simp only [Bool.and_eq_true, Bool.or_eq_true, beq_iff_eq, decide_eq_true_eq] at a1
      exact Or.inr ⟨a1.2.resolve_left (by omega), am_cont a1.1⟩
theorem am_call_own {k d idx kind : Nat} {z : Nat × Nat × Int} {vs rest : List Value} {r1 : Option Value} {I1 : am_I} {R1 : am_R} {Q1 : am_Q} (C : am_Cx M A rm I0 Fx D cA p s m args meth c) (hT : am_FxT A Fx) (hP : am_P l D cA A rm I0 Fx k) (hc : am_chV M idx z kind = true) (hz : z.1 < 283) (hd : decode (am_cc M) pc = .ok (if kind = 0 then .invokevirtual idx else if kind = 1 then .invokestatic idx else .invokespecial idx, 3)) (hkd : kind ≤ 2) (hs : am_inv z pc als ast I R Q = some (.inr (.inr (z.1, vs, rest)))) (hrun : am_run k d z.1 0 (am_lo z.1 vs) [] I R Q = some (r1, I1, R1, Q1)) (hgx : am_gx R1 = am_gx R) (hRm : 2 * (d + 1) + 6 ≤ Rm.frames ∧ 80 * (d + 1 + 5) ≤ Rm.locals) (hroom : ∀ n', R1 127 0 0 = some n' → n' - n0 + xg ≤ Rm.cells ∧ am_ss n' - am_ss n0 + 6 * xg ≤ Rm.slots) (key : am_G p l e Rm s m args below meth c D cA A rm I0 M n0 xg ad0 Qf (pc + 3) als (r1.toList ++ rest) I1 R1 Q1) : am_G p l e Rm s m args below meth c D cA A rm I0 M n0 xg ad0 Qf pc als ast I R Q := by
  have C' := C
  obtain ⟨hx, hb, hml, hown, hts, hr, hlk, hnm, hA, hK, hF⟩ := C
  obtain ⟨-, -, hst, hok, hrest, hrec⟩ := am_inv_call hs
  obtain ⟨g1, g2, g3, g4, g5, g6⟩ := am_chV_own hc hz
  obtain ⟨w1, w2, w3, w4⟩ := am_mchk_at hz g1
  obtain ⟨c1, c2, c3, c4, c5, c6⟩ := am_chM_at hz
  rw [show am_sgE z.1 = am_sg z.1 by unfold am_sgE; rw [if_pos (by omega)]] at hok
  rw [show am_ocE z.1 = am_oc z.1 by unfold am_ocE; rw [if_pos (by omega)]] at hrec
  have hyE : am_yE z.1 = am_yy z.1 := if_pos hz
  have hlen := am_okA_len _ _ hok
  intro ad n H locs ls h1 h2 h3 h4 h5 h6 h7
  obtain ⟨n1, hn1, hnn, -⟩ := am_run_cnt _ _ _ _ _ _ _ _ _ _ _ _ _ _ hrun h4.2.1
  have hvs : ∀ v ∈ vs, am_vv n v := fun v hv => h6 v (by rw [hst]; exact List.mem_append_left _ (List.mem_reverse.mpr hv))
  have hvr : ∀ v ∈ rest, am_vv n v := fun v hv => h6 v (by rw [hst]; exact List.mem_append_right _ hv)
  have hM := am_met (ad := ad) (n := n) hP hz (Or.inl g2) hrun hgx hok h2 hvs hn1
  have hcs := am_cat_sum (ad := ad) hrest
  have hR2 : (am_rmr d (n1 - n) (am_ss n1 - am_ss n)).frames + 1 ≤ Rm.frames ∧ 8 + (am_ml z.1 + 11) + (am_rmr d (n1 - n) (am_ss n1 - am_ss n)).locals ≤ Rm.locals := by
    refine ⟨by show 2 * d + 6 + 1 ≤ _; omega, ?_⟩
    show 8 + (am_ml z.1 + 11) + 80 * (d + 5) ≤ Rm.locals
    omega
  have hrr := hroom n1 hn1
  have m1 := am_ss_mono h3
  have m2 := am_ss_mono hnn
  have hPc : ∀ U : State, U.heap = H → s.WarmedH U.vm → am_Pc D cA A rm I0 Fx ad n vs I R Q (vs.map (am_tv ad)).toArray U := by
    intro U hU hW
    subst hU
    exact ⟨rfl, h4, va_K.moved hW.alike hK, am_Fs_to hW h7 hT hF, fun q hq => hA q (Nat.le_trans h7.1 hq)⟩
  have hf2 : n - n0 + xg + (n1 - n) ≤ Rm.cells ∧ am_ss n - am_ss n0 + 6 * xg + (am_ss n1 - am_ss n) ≤ Rm.slots := by omega
  have hroomW : 2 * (F0 m pc ls (ast.map (am_tv ad))).monitorRoom + ((rest.map (am_tv ad)).map fun v => v.category).sum ≤ 8 := lv_room hcs
  have hstk : ast.map (am_tv ad) = (vs.map (am_tv ad)).reverse ++ rest.map (am_tv ad) := by rw [hst, List.map_append, List.map_reverse]
  have S : CallFix p m c (am_cc M) (am_ml M) s args am_ws (am_on M) := ⟨hx, hb, hml, hown, hts⟩
  have hini := hts _ w2
  have hw3 := hts _ w3
  unfold am_mw3 at hw3
  rcases (show kind = 1 ∨ kind = 0 ∨ kind = 2 by omega) with hk | hk | hk
  · subst hk
    have his : am_isS z.1 = true := g3
    rw [if_pos his] at hw3
    rw [if_pos his] at c4
    rcases g6 with ⟨-, q, -⟩ | ⟨-, hl2⟩
    · cases q
    · have hlink := hts _ (am_ml2_in _ hl2)
      unfold am_mlw at hlink
      dsimp only at hlink
      rw [hyE] at hlink
      refine am_call_go hn1 hnn h1 h2 h3 h5 hvr h7 (va_runS (As := vs.map (am_tv ad)) (rest := rest.map (am_tv ad)) S hM ⟨callB_of _ hts (am_goodIn w1) rfl rfl rfl hini hlink ⟨c3.1, c3.2, c4⟩ hR2, hw3⟩ ⟨am_blind hT, hPc⟩ rfl (by rw [List.length_map, hlen]; rfl) h5.2.1.1 hstk hroomW hd hf2) key
  · subst hk
    have his : am_isS z.1 = false := g3
    rw [if_neg (by rw [his]; decide)] at hw3
    rw [if_neg (by rw [his]; decide)] at c4
    obtain ⟨d1, d2, d3⟩ := c6 his
    rcases g6 with ⟨-, q, -⟩ | ⟨hz2, hl2⟩
    · cases q
    · have hlink := hts _ (am_ml2_in _ hl2)
      unfold am_mlw at hlink
      dsimp only at hlink
      rw [hyE] at hlink
      have hrec := hrec.resolve_left (by omega)
      cases vs with
      | nil => cases hrec
      | cons v0 vs =>
        cases v0 with
        | ref a =>
          have ha : a % 128 = am_oc z.1 := beq_iff_eq.mp hrec
          obtain ⟨i, hi, hia⟩ := am_vo_of (hvs _ List.mem_cons_self) (am_lt100 ha d2)
          have hrecv := va_recv hK h4.2.2.2.2.1 (am_cl_at _ d2) (show (am_wd cA ad I R Q n)[i]? = some (ad a, .inr (am_oc z.1, _)) by rw [am_wd_get hi, hia, am_cell_obj ha d2])
          dsimp only at hrecv
          rw [d3] at hrecv
          refine am_call_go hn1 hnn h1 h2 h3 h5 hvr h7 (va_runV (b := ad a) (As := vs.map (am_tv ad)) (rest := rest.map (am_tv ad)) S hM ⟨callB_of _ hts (am_goodIn w1) rfl rfl rfl hini hlink ⟨c3.1, c3.2, c4⟩ hR2, hw3, hts _ (w4 (g4 rfl))⟩ ⟨am_blind hT, hrecv, hPc⟩ rfl (by rw [List.length_map]; rw [List.length_cons] at hlen; omega) h5.2.1.1 (by rw [hstk, List.map_cons, List.reverse_cons, List.append_assoc]; rfl) hroomW hd hf2) key
        | _ => cases hrec
  · subst hk
    have his : am_isS z.1 = false := g3
    rw [if_neg (by rw [his]; decide)] at hw3
    rw [if_neg (by rw [his]; decide)] at c4
    obtain ⟨d1, d2, d3⟩ := c6 his
    obtain ⟨y1, y2⟩ := g5 rfl
    have hrec := hrec.resolve_left (by omega)
    unfold am_mw1 at hM w1
    rw [y2] at hM w1
    cases vs with
    | nil => cases hrec
    | cons v0 vs =>
      cases v0 with
      | ref a =>
        have hstk2 : ast.map (am_tv ad) = (vs.map (am_tv ad)).reverse ++ .ref (ad a) :: rest.map (am_tv ad) := by rw [hstk, List.map_cons, List.reverse_cons, List.append_assoc]; rfl
        have hl3 : (vs.map (am_tv ad)).length = (am_sg z.1).length - 1 := by rw [List.length_map]; rw [List.length_cons] at hlen; omega
        rcases g6 with ⟨-, -, hl2⟩ | ⟨-, hl2⟩
        · have hlink := hF.2.2.2.1 _ hl2
          unfold am_mnw at hlink
          dsimp only at hlink
          rw [hyE] at hlink
          exact am_call_go hn1 hnn h1 h2 h3 h5 hvr h7 (va_runIN (b := ad a) (As := vs.map (am_tv ad)) (rest := rest.map (am_tv ad)) S hM ⟨va_cnB _ hts (am_goodIn w1) rfl rfl rfl hlink hini ⟨c3.1, c3.2, c4⟩ hR2, y1, hw3⟩ ⟨am_blind hT, hPc⟩ rfl hl3 h5.2.1.1 hstk2 hroomW hd hf2) key
        · have hlink := hts _ (am_ml2_in _ hl2)
          unfold am_mlw at hlink
          dsimp only at hlink
          rw [hyE] at hlink
          exact am_call_go hn1 hnn h1 h2 h3 h5 hvr h7 (va_runI (b := ad a) (As := vs.map (am_tv ad)) (rest := rest.map (am_tv ad)) S hM ⟨callB_of _ hts (am_goodIn w1) rfl rfl rfl hini hlink ⟨c3.1, c3.2, c4⟩ hR2, y1, hw3⟩ ⟨am_blind hT, hPc⟩ rfl hl3 h5.2.1.1 hstk2 hroomW hd hf2) key
      | _ => cases hrec
end
