theorem am_may_lt {z k : Nat} {als : List Value} (h : am_may z k als = true) : k < als.length := by
  unfold am_may at h
  rw [Bool.and_eq_true] at h
  exact of_decide_eq_true h.2
theorem am_tg_eq {pc : Nat} {x : Int} (h : 0 ≤ (pc : Int) + x) : (pc : Int) + x = ((am_tg pc x : Nat) : Int) := by
  unfold am_tg
  omega
theorem am_tg_any {pc : Nat} {x : Int} (h : 0 ≤ (pc : Int) + x) : (pc : Int) + x = ((am_tg pc x : Nat) : Int) := am_tg_eq h
theorem am_str_in {j : Nat} (h : j < 8) : am_mk 100 j ∈ am_rl := by
  rcases (show j = 0 ∨ j = 1 ∨ j = 2 ∨ j = 3 ∨ j = 4 ∨ j = 5 ∨ j = 6 ∨ j = 7 by omega) with q | q | q | q | q | q | q | q <;> subst q <;> simp [am_rl]
theorem am_Ls_setL {ad : Nat → Nat} {n nL z : Nat} {lg : Bool} {als : List Value} {ls ls' : Array Slot} {k : Nat} {x : Int64} (h : am_Ls ad n nL lg als ls) (hz : z = 1) (hlg : ((z == 1) == lg) = true) (hm : am_may z k als = true) (hk1 : k + 1 < als.length) (hn : lv_has ls' nL ((k, .long x) :: (am_lvs ad als).filter (fun q => !(q.1 == k) && (!(q.1 == k + 1) && !(q.1 + 1 == k && q.2.category == 2))))) : am_Ls ad n nL lg ((als.set k (.long x)).set (k + 1) am_J) ls' := by
  subst hz
  have hlg : lg = true := by simpa using hlg
  subst hlg
  obtain ⟨h1, h2, h3, h4⟩ := h
  have hk := am_may_lt hm
  unfold am_may at hm
  rw [Bool.and_eq_true] at hm
  refine ⟨by rw [List.length_set, List.length_set]; exact h1, am_lv_sub hn ?_, ?_, fun q => by cases q⟩
  · intro q hq
    obtain ⟨w, e1, e2, e3⟩ := am_lvs_mem.mp hq
    by_cases e : q.1 = k + 1
    · rw [e, List.getElem?_set_self (by rw [List.length_set]; exact hk1)] at e1
      cases e1
      exact absurd rfl e2
    · rw [List.getElem?_set_ne (Ne.symm e)] at e1
      by_cases e' : q.1 = k
      · rw [e', List.getElem?_set_self hk] at e1
        cases e1
        exact List.mem_cons.mpr (Or.inl (Prod.ext e' e3))
      · rw [List.getElem?_set_ne (Ne.symm e')] at e1
        refine List.mem_cons_of_mem _ (List.mem_filter.mpr ⟨am_lvs_mem.mpr ⟨w, e1, e2, e3⟩, ?_⟩)
        have hb : ¬ (q.1 + 1 = k ∧ q.2.category = 2) := by
          rintro ⟨a, b⟩
          rw [e3, am_tv_cat] at b
          have hk0 : k - 1 = q.1 := by omega
          have hm1 := hm.1
          rw [hk0, e1] at hm1
          have e5 := h3 _ (List.mem_of_getElem? e1)
          cases w with
          | long y => simp [am_isL] at hm1; omega
          | double y => exact e5.2 y rfl
          | _ => cases b
        simp only [Bool.and_eq_true, Bool.not_eq_true', beq_eq_false_iff_ne, ne_eq, Bool.and_eq_false_iff]
        refine ⟨e', e, ?_⟩
        by_cases a : q.1 + 1 = k
        · exact Or.inr (fun b => hb ⟨a, b⟩)
        · exact Or.inl a
  · intro w hw
    rcases List.mem_or_eq_of_mem_set hw with a | a
    · rcases List.mem_or_eq_of_mem_set a with b | b
      · exact h3 w b
      · rw [b]; exact am_vv_long
    · rw [a]; exact am_vv_J
/-! A step of the A-machine, walked by the machine. -/
def am_Fs (A : Nat → Prop) (rm : Nat → Nat) (I0 : am_I) (Fx : State → Prop) (U : State) : Prop :=
  (∀ k, (110 ≤ k ∧ k < 115) ∨ k = 120 → va_T .int (rm (am_mk k 0)) (am_ll I0 k) (fun j => .int (I0 k 0 j)) A U U.heap) ∧
  (∀ k, 110 ≤ k → k < 115 → va_Z "ColdMiddle$LunchReader" (am_sn k) "[I" (.ref (rm (am_mk k 0))) A U U.heap) ∧
  (∀ j, j < 8 → vk_R (am_RX (am_sr.getD j (99, 0, "")).1) (am_sr.getD j (99, 0, "")).2.1 (am_sr.getD j (99, 0, "")).2.2 (rm (am_mk 100 j)) U) ∧
  (∀ q ∈ am_mn, va_Nw (am_mnw q) U) ∧ va_AO "ColdMiddle$Law" U ∧ va_AO "ColdMiddle$Plate" U ∧ Fx U
def am_Cx (M : Nat) (A : Nat → Prop) (rm : Nat → Nat) (I0 : am_I) (Fx : State → Prop) (D : va_G) (cA : Nat → Nat) (p : Program) (s : State) (m : MethodId) (args : Array Value) (meth : Method) (c : Code) : Prop :=
  p.tables.exec = Jvm.exec ∧ c.code = am_cc M ∧ c.maxLocals = am_ml M ∧ s.vm.findClass (am_on M) = some m.cls ∧ (∀ w ∈ am_ws, w.before args s = true) ∧ meth.sig.returnType = am_rt M ∧ meth.locks = false ∧ meth.name = (am_yy M).name ∧ (∀ q, s.heap.size ≤ q → A q) ∧ va_K D vwCl (am_tys cA) s ∧ am_Fs A rm I0 Fx s
def am_sz (a : Nat) : Nat := if a % 128 < 13 then am_nf.getD (a % 128) 0 else am_len (a % 128)
/-- the slots of the first n that are made -/
def am_ss : Nat → Nat
  | 0 => 0
  | n + 1 => am_ss n + am_sz (am_ord n)
theorem am_ss_mono {n m : Nat} (h : n ≤ m) : am_ss n ≤ am_ss m := by
  obtain ⟨k, rfl⟩ := Nat.exists_eq_add_of_le h
  induction k with
  | zero => exact Nat.le_refl _
  | succ k ih => exact Nat.le_trans (ih (Nat.le_add_right _ _)) (Nat.le_add_right _ _)
/-- from every picture of the A-machine's frame the machine comes to Qf -/
def am_G (p : Program) (l : Launch) (e : Env) (Rm : Room) (s : State) (m : MethodId) (args : Array Value) (below : List Frame) (meth : Method) (c : Code) (D : va_G) (cA : Nat → Nat) (A : Nat → Prop) (rm : Nat → Nat) (I0 : am_I) (M n0 xg : Nat) (ad0 : Nat → Nat) (Qf : State → Prop) (pc : Nat) (als ast : List Value) (I : am_I) (R : am_R) (Q : am_Q) : Prop :=
  ∀ (ad : Nat → Nat) (n : Nat) (H : Heap) (locs : List Loc) (ls : Array Slot), (∀ a, am_vo n0 a → ad a = ad0 a) → (∀ a ∈ am_rl, ad a = rm a) → n0 ≤ n → am_St D cA A ad n I0 I R Q H → am_Ls ad n (am_ml M) (am_lg M) als ls → (∀ v ∈ ast, am_vv n v) → va_S A s.heap H locs → W p l e Rm s m args below meth c H locs (n - n0 + xg) (am_ss n - am_ss n0 + 6 * xg) Qf (F0 m pc ls (ast.map (am_tv ad)))
theorem am_vs_cons {n : Nat} {v : Value} {st : List Value} (hv : am_vv n v) (h : ∀ w ∈ st, am_vv n w) : ∀ w ∈ v :: st, am_vv n w := fun w hw => (List.mem_cons.mp hw).elim (fun q => by rw [q]; exact hv) (h w)
theorem am_vs_tl {n : Nat} {v : Value} {st : List Value} (h : ∀ w ∈ v :: st, am_vv n w) : ∀ w ∈ st, am_vv n w := fun w hw => h w (List.mem_cons_of_mem _ hw)
theorem am_vs_hd {n : Nat} {v : Value} {st : List Value} (h : ∀ w ∈ v :: st, am_vv n w) : am_vv n v := h v List.mem_cons_self
theorem am_vv_rf {n : Nat} {r : Option Nat} (h : ∀ b, r = some b → am_va n b) : am_vv n (va_rf r) := by
  cases r with
  | none => exact am_vv_null
  | some b => exact ⟨fun a e => (by cases e; exact h _ rfl), fun x e => by cases e⟩
theorem am_tv_rf {ad : Nat → Nat} {r : Option Nat} : am_tv ad (va_rf r) = va_rf (r.map ad) := by cases r <;> rfl
section
variable {p : Program} {l : Launch} {e : Env} {Rm : Room} {s : State} {m : MethodId} {args : Array Value} {below : List Frame} {meth : Method} {c : Code} {D : va_G} {cA : Nat → Nat} {A : Nat → Prop} {rm : Nat → Nat} {I0 : am_I} {M n0 xg : Nat} {ad0 : Nat → Nat} {Qf : State → Prop} {Fx : State → Prop}
variable {pc : Nat} {als ast : List Value} {I : am_I} {R : am_R} {Q : am_Q} {pc' : Nat} {als' ast' : List Value} {I' : am_I} {R' : am_R} {Q' : am_Q}
theorem am_G_iadd (C : am_Cx M A rm I0 Fx D cA p s m args meth c) (hd : decode (am_cc M) pc = .ok (.iadd, 1)) (hs : am_bin (fun x y => x + y) (pc + 1) als ast I R Q = some (.inl (pc', als', ast', I', R', Q'))) (k : am_G p l e Rm s m args below meth c D cA A rm I0 M n0 xg ad0 Qf pc' als' ast' I' R' Q') : am_G p l e Rm s m args below meth c D cA A rm I0 M n0 xg ad0 Qf pc als ast I R Q := by
  obtain ⟨hx, hb, hml, hown, hts, hr, hlk, hnm, hA, hK, hF⟩ := C
  unfold am_bin at hs
  split at hs
  · cases hs
    intro ad n H locs ls h1 h2 h3 h4 h5 h6 h7
    refine lv_iadd hx hb hd ?_
    exact k ad n H locs ls h1 h2 h3 h4 h5 (am_vs_cons am_vv_int (am_vs_tl (am_vs_tl h6))) h7
  · cases hs
theorem am_G_isub (C : am_Cx M A rm I0 Fx D cA p s m args meth c) (hd : decode (am_cc M) pc = .ok (.isub, 1)) (hs : am_bin (fun x y => x - y) (pc + 1) als ast I R Q = some (.inl (pc', als', ast', I', R', Q'))) (k : am_G p l e Rm s m args below meth c D cA A rm I0 M n0 xg ad0 Qf pc' als' ast' I' R' Q') : am_G p l e Rm s m args below meth c D cA A rm I0 M n0 xg ad0 Qf pc als ast I R Q := by
  obtain ⟨hx, hb, hml, hown, hts, hr, hlk, hnm, hA, hK, hF⟩ := C
  unfold am_bin at hs
  split at hs
  · cases hs
    intro ad n H locs ls h1 h2 h3 h4 h5 h6 h7
    refine lv_isub hx hb hd ?_
    exact k ad n H locs ls h1 h2 h3 h4 h5 (am_vs_cons am_vv_int (am_vs_tl (am_vs_tl h6))) h7
  · cases hs
theorem am_G_imul (C : am_Cx M A rm I0 Fx D cA p s m args meth c) (hd : decode (am_cc M) pc = .ok (.imul, 1)) (hs : am_bin (fun x y => x * y) (pc + 1) als ast I R Q = some (.inl (pc', als', ast', I', R', Q'))) (k : am_G p l e Rm s m args below meth c D cA A rm I0 M n0 xg ad0 Qf pc' als' ast' I' R' Q') : am_G p l e Rm s m args below meth c D cA A rm I0 M n0 xg ad0 Qf pc als ast I R Q := by
  obtain ⟨hx, hb, hml, hown, hts, hr, hlk, hnm, hA, hK, hF⟩ := C
  unfold am_bin at hs
  split at hs
  · cases hs
    intro ad n H locs ls h1 h2 h3 h4 h5 h6 h7
    refine lv_imul hx hb hd ?_
    exact k ad n H locs ls h1 h2 h3 h4 h5 (am_vs_cons am_vv_int (am_vs_tl (am_vs_tl h6))) h7
  · cases hs
theorem am_G_iand (C : am_Cx M A rm I0 Fx D cA p s m args meth c) (hd : decode (am_cc M) pc = .ok (.iand, 1)) (hs : am_bin (fun x y => x &&& y) (pc + 1) als ast I R Q = some (.inl (pc', als', ast', I', R', Q'))) (k : am_G p l e Rm s m args below meth c D cA A rm I0 M n0 xg ad0 Qf pc' als' ast' I' R' Q') : am_G p l e Rm s m args below meth c D cA A rm I0 M n0 xg ad0 Qf pc als ast I R Q := by
  obtain ⟨hx, hb, hml, hown, hts, hr, hlk, hnm, hA, hK, hF⟩ := C
  unfold am_bin at hs
  split at hs
  · cases hs
    intro ad n H locs ls h1 h2 h3 h4 h5 h6 h7
    refine lv_iand hx hb hd ?_
    exact k ad n H locs ls h1 h2 h3 h4 h5 (am_vs_cons am_vv_int (am_vs_tl (am_vs_tl h6))) h7
  · cases hs
theorem am_G_ior (C : am_Cx M A rm I0 Fx D cA p s m args meth c) (hd : decode (am_cc M) pc = .ok (.ior, 1)) (hs : am_bin (fun x y => x ||| y) (pc + 1) als ast I R Q = some (.inl (pc', als', ast', I', R', Q'))) (k : am_G p l e Rm s m args below meth c D cA A rm I0 M n0 xg ad0 Qf pc' als' ast' I' R' Q') : am_G p l e Rm s m args below meth c D cA A rm I0 M n0 xg ad0 Qf pc als ast I R Q := by
  obtain ⟨hx, hb, hml, hown, hts, hr, hlk, hnm, hA, hK, hF⟩ := C
  unfold am_bin at hs
  split at hs
  · cases hs
    intro ad n H locs ls h1 h2 h3 h4 h5 h6 h7
    refine lv_ior hx hb hd ?_
    exact k ad n H locs ls h1 h2 h3 h4 h5 (am_vs_cons am_vv_int (am_vs_tl (am_vs_tl h6))) h7
  · cases hs
theorem am_G_ixor (C : am_Cx M A rm I0 Fx D cA p s m args meth c) (hd : decode (am_cc M) pc = .ok (.ixor, 1)) (hs : am_bin (fun x y => x ^^^ y) (pc + 1) als ast I R Q = some (.inl (pc', als', ast', I', R', Q'))) (k : am_G p l e Rm s m args below meth c D cA A rm I0 M n0 xg ad0 Qf pc' als' ast' I' R' Q') : am_G p l e Rm s m args below meth c D cA A rm I0 M n0 xg ad0 Qf pc als ast I R Q := by
  obtain ⟨hx, hb, hml, hown, hts, hr, hlk, hnm, hA, hK, hF⟩ := C
  unfold am_bin at hs
  split at hs
  · cases hs
    intro ad n H locs ls h1 h2 h3 h4 h5 h6 h7
    refine lv_ixor hx hb hd ?_
    exact k ad n H locs ls h1 h2 h3 h4 h5 (am_vs_cons am_vv_int (am_vs_tl (am_vs_tl h6))) h7
  · cases hs
theorem am_G_ishl (C : am_Cx M A rm I0 Fx D cA p s m args meth c) (hd : decode (am_cc M) pc = .ok (.ishl, 1)) (hs : am_bin (fun x y => x <<< (y &&& 31)) (pc + 1) als ast I R Q = some (.inl (pc', als', ast', I', R', Q'))) (k : am_G p l e Rm s m args below meth c D cA A rm I0 M n0 xg ad0 Qf pc' als' ast' I' R' Q') : am_G p l e Rm s m args below meth c D cA A rm I0 M n0 xg ad0 Qf pc als ast I R Q := by
  obtain ⟨hx, hb, hml, hown, hts, hr, hlk, hnm, hA, hK, hF⟩ := C
  unfold am_bin at hs
  split at hs
  · cases hs
    intro ad n H locs ls h1 h2 h3 h4 h5 h6 h7
    refine lv_ishl hx hb hd ?_
    exact k ad n H locs ls h1 h2 h3 h4 h5 (am_vs_cons am_vv_int (am_vs_tl (am_vs_tl h6))) h7
  · cases hs
theorem am_G_ishr (C : am_Cx M A rm I0 Fx D cA p s m args meth c) (hd : decode (am_cc M) pc = .ok (.ishr, 1)) (hs : am_bin (fun x y => x >>> (y &&& 31)) (pc + 1) als ast I R Q = some (.inl (pc', als', ast', I', R', Q'))) (k : am_G p l e Rm s m args below meth c D cA A rm I0 M n0 xg ad0 Qf pc' als' ast' I' R' Q') : am_G p l e Rm s m args below meth c D cA A rm I0 M n0 xg ad0 Qf pc als ast I R Q := by
  obtain ⟨hx, hb, hml, hown, hts, hr, hlk, hnm, hA, hK, hF⟩ := C
  unfold am_bin at hs
  split at hs
  · cases hs
    intro ad n H locs ls h1 h2 h3 h4 h5 h6 h7
    refine lv_ishr hx hb hd ?_
    exact k ad n H locs ls h1 h2 h3 h4 h5 (am_vs_cons am_vv_int (am_vs_tl (am_vs_tl h6))) h7
  · cases hs
theorem am_G_iushr (C : am_Cx M A rm I0 Fx D cA p s m args meth c) (hd : decode (am_cc M) pc = .ok (.iushr, 1)) (hs : am_bin (fun x y => (x.toUInt32 >>> (y.toUInt32 &&& Int32.toUInt32 31)).toInt32) (pc + 1) als ast I R Q = some (.inl (pc', als', ast', I', R', Q'))) (k : am_G p l e Rm s m args below meth c D cA A rm I0 M n0 xg ad0 Qf pc' als' ast' I' R' Q') : am_G p l e Rm s m args below meth c D cA A rm I0 M n0 xg ad0 Qf pc als ast I R Q := by
  obtain ⟨hx, hb, hml, hown, hts, hr, hlk, hnm, hA, hK, hF⟩ := C
  unfold am_bin at hs
  split at hs
  · cases hs
    intro ad n H locs ls h1 h2 h3 h4 h5 h6 h7
    refine lv_iushr hx hb hd rfl ?_
    exact k ad n H locs ls h1 h2 h3 h4 h5 (am_vs_cons am_vv_int (am_vs_tl (am_vs_tl h6))) h7
  · cases hs
theorem am_G_idiv (C : am_Cx M A rm I0 Fx D cA p s m args meth c) (hd : decode (am_cc M) pc = .ok (.idiv, 1)) (hs : am_binD (fun x y => x / y) (pc + 1) als ast I R Q = some (.inl (pc', als', ast', I', R', Q'))) (k : am_G p l e Rm s m args below meth c D cA A rm I0 M n0 xg ad0 Qf pc' als' ast' I' R' Q') : am_G p l e Rm s m args below meth c D cA A rm I0 M n0 xg ad0 Qf pc als ast I R Q := by
  obtain ⟨hx, hb, hml, hown, hts, hr, hlk, hnm, hA, hK, hF⟩ := C
  unfold am_binD at hs
  split at hs
  · split at hs
    · rename_i hy
      cases hs
      intro ad n H locs ls h1 h2 h3 h4 h5 h6 h7
      refine lv_idiv hx hb hd hy ?_
      exact k ad n H locs ls h1 h2 h3 h4 h5 (am_vs_cons am_vv_int (am_vs_tl (am_vs_tl h6))) h7
    · cases hs
  · cases hs
theorem am_G_irem (C : am_Cx M A rm I0 Fx D cA p s m args meth c) (hd : decode (am_cc M) pc = .ok (.irem, 1)) (hs : am_binD (fun x y => x - x / y * y) (pc + 1) als ast I R Q = some (.inl (pc', als', ast', I', R', Q'))) (k : am_G p l e Rm s m args below meth c D cA A rm I0 M n0 xg ad0 Qf pc' als' ast' I' R' Q') : am_G p l e Rm s m args below meth c D cA A rm I0 M n0 xg ad0 Qf pc als ast I R Q := by
  obtain ⟨hx, hb, hml, hown, hts, hr, hlk, hnm, hA, hK, hF⟩ := C
  unfold am_binD at hs
  split at hs
  · split at hs
    · rename_i hy
      cases hs
      intro ad n H locs ls h1 h2 h3 h4 h5 h6 h7
      refine lv_irem hx hb hd hy ?_
      exact k ad n H locs ls h1 h2 h3 h4 h5 (am_vs_cons am_vv_int (am_vs_tl (am_vs_tl h6))) h7
    · cases hs
  · cases hs
theorem am_G_ladd (C : am_Cx M A rm I0 Fx D cA p s m args meth c) (hd : decode (am_cc M) pc = .ok (.ladd, 1)) (hs : am_lbin (fun x y => x + y) (pc + 1) als ast I R Q = some (.inl (pc', als', ast', I', R', Q'))) (k : am_G p l e Rm s m args below meth c D cA A rm I0 M n0 xg ad0 Qf pc' als' ast' I' R' Q') : am_G p l e Rm s m args below meth c D cA A rm I0 M n0 xg ad0 Qf pc als ast I R Q := by
  obtain ⟨hx, hb, hml, hown, hts, hr, hlk, hnm, hA, hK, hF⟩ := C
  unfold am_lbin at hs
  split at hs
  · cases hs
    intro ad n H locs ls h1 h2 h3 h4 h5 h6 h7
    refine lv_ladd hx hb hd ?_
    exact k ad n H locs ls h1 h2 h3 h4 h5 (am_vs_cons am_vv_long (am_vs_tl (am_vs_tl h6))) h7
  · cases hs
theorem am_G_lsub (C : am_Cx M A rm I0 Fx D cA p s m args meth c) (hd : decode (am_cc M) pc = .ok (.lsub, 1)) (hs : am_lbin (fun x y => x - y) (pc + 1) als ast I R Q = some (.inl (pc', als', ast', I', R', Q'))) (k : am_G p l e Rm s m args below meth c D cA A rm I0 M n0 xg ad0 Qf pc' als' ast' I' R' Q') : am_G p l e Rm s m args below meth c D cA A rm I0 M n0 xg ad0 Qf pc als ast I R Q := by
  obtain ⟨hx, hb, hml, hown, hts, hr, hlk, hnm, hA, hK, hF⟩ := C
  unfold am_lbin at hs
  split at hs
  · cases hs
    intro ad n H locs ls h1 h2 h3 h4 h5 h6 h7
    refine lv_lsub hx hb hd ?_
    exact k ad n H locs ls h1 h2 h3 h4 h5 (am_vs_cons am_vv_long (am_vs_tl (am_vs_tl h6))) h7
  · cases hs
theorem am_G_lmul (C : am_Cx M A rm I0 Fx D cA p s m args meth c) (hd : decode (am_cc M) pc = .ok (.lmul, 1)) (hs : am_lbin (fun x y => x * y) (pc + 1) als ast I R Q = some (.inl (pc', als', ast', I', R', Q'))) (k : am_G p l e Rm s m args below meth c D cA A rm I0 M n0 xg ad0 Qf pc' als' ast' I' R' Q') : am_G p l e Rm s m args below meth c D cA A rm I0 M n0 xg ad0 Qf pc als ast I R Q := by
  obtain ⟨hx, hb, hml, hown, hts, hr, hlk, hnm, hA, hK, hF⟩ := C
  unfold am_lbin at hs
  split at hs
  · cases hs
    intro ad n H locs ls h1 h2 h3 h4 h5 h6 h7
    refine lv_lmul hx hb hd ?_
    exact k ad n H locs ls h1 h2 h3 h4 h5 (am_vs_cons am_vv_long (am_vs_tl (am_vs_tl h6))) h7
  · cases hs
theorem am_G_land (C : am_Cx M A rm I0 Fx D cA p s m args meth c) (hd : decode (am_cc M) pc = .ok (.land, 1)) (hs : am_lbin (fun x y => x &&& y) (pc + 1) als ast I R Q = some (.inl (pc', als', ast', I', R', Q'))) (k : am_G p l e Rm s m args below meth c D cA A rm I0 M n0 xg ad0 Qf pc' als' ast' I' R' Q') : am_G p l e Rm s m args below meth c D cA A rm I0 M n0 xg ad0 Qf pc als ast I R Q := by
  obtain ⟨hx, hb, hml, hown, hts, hr, hlk, hnm, hA, hK, hF⟩ := C
  unfold am_lbin at hs
  split at hs
  · cases hs
    intro ad n H locs ls h1 h2 h3 h4 h5 h6 h7
    refine lv_land hx hb hd ?_
    exact k ad n H locs ls h1 h2 h3 h4 h5 (am_vs_cons am_vv_long (am_vs_tl (am_vs_tl h6))) h7
  · cases hs
theorem am_G_lor (C : am_Cx M A rm I0 Fx D cA p s m args meth c) (hd : decode (am_cc M) pc = .ok (.lor, 1)) (hs : am_lbin (fun x y => x ||| y) (pc + 1) als ast I R Q = some (.inl (pc', als', ast', I', R', Q'))) (k : am_G p l e Rm s m args below meth c D cA A rm I0 M n0 xg ad0 Qf pc' als' ast' I' R' Q') : am_G p l e Rm s m args below meth c D cA A rm I0 M n0 xg ad0 Qf pc als ast I R Q := by
  obtain ⟨hx, hb, hml, hown, hts, hr, hlk, hnm, hA, hK, hF⟩ := C
  unfold am_lbin at hs
  split at hs
  · cases hs
    intro ad n H locs ls h1 h2 h3 h4 h5 h6 h7
    refine lv_lor hx hb hd ?_
    exact k ad n H locs ls h1 h2 h3 h4 h5 (am_vs_cons am_vv_long (am_vs_tl (am_vs_tl h6))) h7
  · cases hs
theorem am_G_ldiv (C : am_Cx M A rm I0 Fx D cA p s m args meth c) (hd : decode (am_cc M) pc = .ok (.ldiv, 1)) (hs : am_lbinD (fun x y => x / y) (pc + 1) als ast I R Q = some (.inl (pc', als', ast', I', R', Q'))) (k : am_G p l e Rm s m args below meth c D cA A rm I0 M n0 xg ad0 Qf pc' als' ast' I' R' Q') : am_G p l e Rm s m args below meth c D cA A rm I0 M n0 xg ad0 Qf pc als ast I R Q := by
  obtain ⟨hx, hb, hml, hown, hts, hr, hlk, hnm, hA, hK, hF⟩ := C
  unfold am_lbinD at hs
  split at hs
  · split at hs
    · rename_i hy
      cases hs
      intro ad n H locs ls h1 h2 h3 h4 h5 h6 h7
      refine lv_ldiv hx hb hd hy ?_
      exact k ad n H locs ls h1 h2 h3 h4 h5 (am_vs_cons am_vv_long (am_vs_tl (am_vs_tl h6))) h7
    · cases hs
  · cases hs
theorem am_G_lrem (C : am_Cx M A rm I0 Fx D cA p s m args meth c) (hd : decode (am_cc M) pc = .ok (.lrem, 1)) (hs : am_lbinD (fun x y => x - x / y * y) (pc + 1) als ast I R Q = some (.inl (pc', als', ast', I', R', Q'))) (k : am_G p l e Rm s m args below meth c D cA A rm I0 M n0 xg ad0 Qf pc' als' ast' I' R' Q') : am_G p l e Rm s m args below meth c D cA A rm I0 M n0 xg ad0 Qf pc als ast I R Q := by
  obtain ⟨hx, hb, hml, hown, hts, hr, hlk, hnm, hA, hK, hF⟩ := C
  unfold am_lbinD at hs
  split at hs
  · split at hs
    · rename_i hy
      cases hs
      intro ad n H locs ls h1 h2 h3 h4 h5 h6 h7
      refine lv_lrem hx hb hd hy ?_
      exact k ad n H locs ls h1 h2 h3 h4 h5 (am_vs_cons am_vv_long (am_vs_tl (am_vs_tl h6))) h7
    · cases hs
  · cases hs
theorem am_G_ineg (C : am_Cx M A rm I0 Fx D cA p s m args meth c) (hd : decode (am_cc M) pc = .ok (.ineg, 1)) (hs : am_un (fun x => .int (-x)) (pc + 1) als ast I R Q = some (.inl (pc', als', ast', I', R', Q'))) (k : am_G p l e Rm s m args below meth c D cA A rm I0 M n0 xg ad0 Qf pc' als' ast' I' R' Q') : am_G p l e Rm s m args below meth c D cA A rm I0 M n0 xg ad0 Qf pc als ast I R Q := by
  obtain ⟨hx, hb, hml, hown, hts, hr, hlk, hnm, hA, hK, hF⟩ := C
  unfold am_un at hs
  split at hs
  · cases hs
    intro ad n H locs ls h1 h2 h3 h4 h5 h6 h7
    refine lv_ineg hx hb hd ?_
    exact k ad n H locs ls h1 h2 h3 h4 h5 (am_vs_cons am_vv_int (am_vs_tl h6)) h7
  · cases hs
theorem am_G_i2l (C : am_Cx M A rm I0 Fx D cA p s m args meth c) (hd : decode (am_cc M) pc = .ok (.i2l, 1)) (hs : am_un (fun x => .long x.toInt64) (pc + 1) als ast I R Q = some (.inl (pc', als', ast', I', R', Q'))) (k : am_G p l e Rm s m args below meth c D cA A rm I0 M n0 xg ad0 Qf pc' als' ast' I' R' Q') : am_G p l e Rm s m args below meth c D cA A rm I0 M n0 xg ad0 Qf pc als ast I R Q := by
  obtain ⟨hx, hb, hml, hown, hts, hr, hlk, hnm, hA, hK, hF⟩ := C
  unfold am_un at hs
  split at hs
  · cases hs
    intro ad n H locs ls h1 h2 h3 h4 h5 h6 h7
    refine lv_i2l hx hb hd rfl ?_
    exact k ad n H locs ls h1 h2 h3 h4 h5 (am_vs_cons am_vv_long (am_vs_tl h6)) h7
  · cases hs
theorem am_G_i2c (C : am_Cx M A rm I0 Fx D cA p s m args meth c) (hd : decode (am_cc M) pc = .ok (.i2c, 1)) (hs : am_un (fun x => .int (x.toUInt32 % 65536).toInt32) (pc + 1) als ast I R Q = some (.inl (pc', als', ast', I', R', Q'))) (k : am_G p l e Rm s m args below meth c D cA A rm I0 M n0 xg ad0 Qf pc' als' ast' I' R' Q') : am_G p l e Rm s m args below meth c D cA A rm I0 M n0 xg ad0 Qf pc als ast I R Q := by
  obtain ⟨hx, hb, hml, hown, hts, hr, hlk, hnm, hA, hK, hF⟩ := C
  unfold am_un at hs
  split at hs
  · cases hs
    intro ad n H locs ls h1 h2 h3 h4 h5 h6 h7
    refine lv_i2c hx hb hd rfl ?_
    exact k ad n H locs ls h1 h2 h3 h4 h5 (am_vs_cons am_vv_int (am_vs_tl h6)) h7
  · cases hs
theorem am_G_lshl {z : Nat × Nat × Int} (C : am_Cx M A rm I0 Fx D cA p s m args meth c) (hd : decode (am_cc M) pc = .ok (.lshl, 1)) (hs : am_step (.lshl) z pc als ast I R Q = some (.inl (pc', als', ast', I', R', Q'))) (k : am_G p l e Rm s m args below meth c D cA A rm I0 M n0 xg ad0 Qf pc' als' ast' I' R' Q') : am_G p l e Rm s m args below meth c D cA A rm I0 M n0 xg ad0 Qf pc als ast I R Q := by
  obtain ⟨hx, hb, hml, hown, hts, hr, hlk, hnm, hA, hK, hF⟩ := C
  unfold am_step at hs
  dsimp only at hs
  split at hs
  · cases hs
    intro ad n H locs ls h1 h2 h3 h4 h5 h6 h7
    refine lv_lshl hx hb hd rfl ?_
    exact k ad n H locs ls h1 h2 h3 h4 h5 (am_vs_cons am_vv_long (am_vs_tl (am_vs_tl h6))) h7
  · cases hs
theorem am_G_lushr {z : Nat × Nat × Int} (C : am_Cx M A rm I0 Fx D cA p s m args meth c) (hd : decode (am_cc M) pc = .ok (.lushr, 1)) (hs : am_step (.lushr) z pc als ast I R Q = some (.inl (pc', als', ast', I', R', Q'))) (k : am_G p l e Rm s m args below meth c D cA A rm I0 M n0 xg ad0 Qf pc' als' ast' I' R' Q') : am_G p l e Rm s m args below meth c D cA A rm I0 M n0 xg ad0 Qf pc als ast I R Q := by
  obtain ⟨hx, hb, hml, hown, hts, hr, hlk, hnm, hA, hK, hF⟩ := C
  unfold am_step at hs
  dsimp only at hs
  split at hs
  · cases hs
    intro ad n H locs ls h1 h2 h3 h4 h5 h6 h7
    refine lv_lushr hx hb hd rfl ?_
    exact k ad n H locs ls h1 h2 h3 h4 h5 (am_vs_cons am_vv_long (am_vs_tl (am_vs_tl h6))) h7
  · cases hs
theorem am_G_l2i {z : Nat × Nat × Int} (C : am_Cx M A rm I0 Fx D cA p s m args meth c) (hd : decode (am_cc M) pc = .ok (.l2i, 1)) (hs : am_step (.l2i) z pc als ast I R Q = some (.inl (pc', als', ast', I', R', Q'))) (k : am_G p l e Rm s m args below meth c D cA A rm I0 M n0 xg ad0 Qf pc' als' ast' I' R' Q') : am_G p l e Rm s m args below meth c D cA A rm I0 M n0 xg ad0 Qf pc als ast I R Q := by
  obtain ⟨hx, hb, hml, hown, hts, hr, hlk, hnm, hA, hK, hF⟩ := C
  unfold am_step at hs
  dsimp only at hs
  split at hs
  · cases hs
    intro ad n H locs ls h1 h2 h3 h4 h5 h6 h7
    refine lv_l2i hx hb hd rfl ?_
    exact k ad n H locs ls h1 h2 h3 h4 h5 (am_vs_cons am_vv_int (am_vs_tl h6)) h7
  · cases hs
theorem am_G_lcmp {z : Nat × Nat × Int} (C : am_Cx M A rm I0 Fx D cA p s m args meth c) (hd : decode (am_cc M) pc = .ok (.lcmp, 1)) (hs : am_step (.lcmp) z pc als ast I R Q = some (.inl (pc', als', ast', I', R', Q'))) (k : am_G p l e Rm s m args below meth c D cA A rm I0 M n0 xg ad0 Qf pc' als' ast' I' R' Q') : am_G p l e Rm s m args below meth c D cA A rm I0 M n0 xg ad0 Qf pc als ast I R Q := by
  obtain ⟨hx, hb, hml, hown, hts, hr, hlk, hnm, hA, hK, hF⟩ := C
  unfold am_step at hs
  dsimp only at hs
  split at hs
  · cases hs
    intro ad n H locs ls h1 h2 h3 h4 h5 h6 h7
    refine W.lcmp hx hb hd ?_
    exact k ad n H locs ls h1 h2 h3 h4 h5 (am_vs_cons am_vv_int (am_vs_tl (am_vs_tl h6))) h7
  · cases hs
theorem am_G_iconst {i : Int} {z : Nat × Nat × Int} (C : am_Cx M A rm I0 Fx D cA p s m args meth c) (hd : decode (am_cc M) pc = .ok (.iconst i, 1)) (hs : am_step (.iconst i) z pc als ast I R Q = some (.inl (pc', als', ast', I', R', Q'))) (hz : Int32.ofInt i = Int32.ofInt z.2.2) (k : am_G p l e Rm s m args below meth c D cA A rm I0 M n0 xg ad0 Qf pc' als' ast' I' R' Q') : am_G p l e Rm s m args below meth c D cA A rm I0 M n0 xg ad0 Qf pc als ast I R Q := by
  obtain ⟨hx, hb, hml, hown, hts, hr, hlk, hnm, hA, hK, hF⟩ := C
  unfold am_step at hs
  dsimp only at hs
  cases hs
  intro ad n H locs ls h1 h2 h3 h4 h5 h6 h7
  refine lv_iconst (v := Int32.ofInt z.2.2) hx hb hd hz ?_
  exact k ad n H locs ls h1 h2 h3 h4 h5 (am_vs_cons am_vv_int h6) h7
theorem am_G_bipush {i : Int} {z : Nat × Nat × Int} (C : am_Cx M A rm I0 Fx D cA p s m args meth c) (hd : decode (am_cc M) pc = .ok (.bipush i, 2)) (hs : am_step (.bipush i) z pc als ast I R Q = some (.inl (pc', als', ast', I', R', Q'))) (hz : (Int8.ofInt i).toInt32 = Int32.ofInt z.2.2) (k : am_G p l e Rm s m args below meth c D cA A rm I0 M n0 xg ad0 Qf pc' als' ast' I' R' Q') : am_G p l e Rm s m args below meth c D cA A rm I0 M n0 xg ad0 Qf pc als ast I R Q := by
  obtain ⟨hx, hb, hml, hown, hts, hr, hlk, hnm, hA, hK, hF⟩ := C
  unfold am_step at hs
  dsimp only at hs
  cases hs
  intro ad n H locs ls h1 h2 h3 h4 h5 h6 h7
  refine lv_bipush (v := Int32.ofInt z.2.2) hx hb hd hz ?_
  exact k ad n H locs ls h1 h2 h3 h4 h5 (am_vs_cons am_vv_int h6) h7
theorem am_G_sipush {i : Int} {z : Nat × Nat × Int} (C : am_Cx M A rm I0 Fx D cA p s m args meth c) (hd : decode (am_cc M) pc = .ok (.sipush i, 3)) (hs : am_step (.sipush i) z pc als ast I R Q = some (.inl (pc', als', ast', I', R', Q'))) (hz : (Int16.ofInt i).toInt32 = Int32.ofInt z.2.2) (k : am_G p l e Rm s m args below meth c D cA A rm I0 M n0 xg ad0 Qf pc' als' ast' I' R' Q') : am_G p l e Rm s m args below meth c D cA A rm I0 M n0 xg ad0 Qf pc als ast I R Q := by
  obtain ⟨hx, hb, hml, hown, hts, hr, hlk, hnm, hA, hK, hF⟩ := C
  unfold am_step at hs
  dsimp only at hs
  cases hs
  intro ad n H locs ls h1 h2 h3 h4 h5 h6 h7
  refine lv_sipush (v := Int32.ofInt z.2.2) hx hb hd hz ?_
  exact k ad n H locs ls h1 h2 h3 h4 h5 (am_vs_cons am_vv_int h6) h7
theorem am_G_lconst {i : Fin 2} {z : Nat × Nat × Int} (C : am_Cx M A rm I0 Fx D cA p s m args meth c) (hd : decode (am_cc M) pc = .ok (.lconst i, 1)) (hs : am_step (.lconst i) z pc als ast I R Q = some (.inl (pc', als', ast', I', R', Q'))) (k : am_G p l e Rm s m args below meth c D cA A rm I0 M n0 xg ad0 Qf pc' als' ast' I' R' Q') : am_G p l e Rm s m args below meth c D cA A rm I0 M n0 xg ad0 Qf pc als ast I R Q := by
  obtain ⟨hx, hb, hml, hown, hts, hr, hlk, hnm, hA, hK, hF⟩ := C
  unfold am_step at hs
  dsimp only at hs
  cases hs
  intro ad n H locs ls h1 h2 h3 h4 h5 h6 h7
  refine lv_lconst hx hb hd rfl ?_
  exact k ad n H locs ls h1 h2 h3 h4 h5 (am_vs_cons am_vv_long h6) h7
theorem am_G_aconst_null {z : Nat × Nat × Int} (C : am_Cx M A rm I0 Fx D cA p s m args meth c) (hd : decode (am_cc M) pc = .ok (.aconst_null, 1)) (hs : am_step (.aconst_null) z pc als ast I R Q = some (.inl (pc', als', ast', I', R', Q'))) (k : am_G p l e Rm s m args below meth c D cA A rm I0 M n0 xg ad0 Qf pc' als' ast' I' R' Q') : am_G p l e Rm s m args below meth c D cA A rm I0 M n0 xg ad0 Qf pc als ast I R Q := by
  obtain ⟨hx, hb, hml, hown, hts, hr, hlk, hnm, hA, hK, hF⟩ := C
  unfold am_step at hs
  dsimp only at hs
  cases hs
  intro ad n H locs ls h1 h2 h3 h4 h5 h6 h7
  refine lv_null hx hb hd ?_
  exact k ad n H locs ls h1 h2 h3 h4 h5 (am_vs_cons am_vv_null h6) h7
theorem am_G_ldc_w {i : Nat} {z : Nat × Nat × Int} (C : am_Cx M A rm I0 Fx D cA p s m args meth c) (hd : decode (am_cc M) pc = .ok (.ldc_w i, 3)) (hs : am_step (.ldc_w i) z pc als ast I R Q = some (.inl (pc', als', ast', I', R', Q'))) (hz : (am_oc M, i, z.2.2) ∈ am_cs) (k : am_G p l e Rm s m args below meth c D cA A rm I0 M n0 xg ad0 Qf pc' als' ast' I' R' Q') : am_G p l e Rm s m args below meth c D cA A rm I0 M n0 xg ad0 Qf pc als ast I R Q := by
  obtain ⟨hx, hb, hml, hown, hts, hr, hlk, hnm, hA, hK, hF⟩ := C
  unfold am_step at hs
  dsimp only at hs
  split at hs
  · cases hs
  · cases hs
    intro ad n H locs ls h1 h2 h3 h4 h5 h6 h7
    refine lv_ldcw hx hb hown (hts _ (am_cs_in _ hz)) hd ?_
    exact k ad n H locs ls h1 h2 h3 h4 h5 (am_vs_cons am_vv_int h6) h7
theorem am_G_ldc2_w {i : Nat} {z : Nat × Nat × Int} (C : am_Cx M A rm I0 Fx D cA p s m args meth c) (hd : decode (am_cc M) pc = .ok (.ldc2_w i, 3)) (hs : am_step (.ldc2_w i) z pc als ast I R Q = some (.inl (pc', als', ast', I', R', Q'))) (hz : (am_oc M, i, z.2.2) ∈ am_cg) (k : am_G p l e Rm s m args below meth c D cA A rm I0 M n0 xg ad0 Qf pc' als' ast' I' R' Q') : am_G p l e Rm s m args below meth c D cA A rm I0 M n0 xg ad0 Qf pc als ast I R Q := by
  obtain ⟨hx, hb, hml, hown, hts, hr, hlk, hnm, hA, hK, hF⟩ := C
  unfold am_step at hs
  dsimp only at hs
  cases hs
  intro ad n H locs ls h1 h2 h3 h4 h5 h6 h7
  refine lv_ldc2 hx hb hown (hts _ (am_cg_in _ hz)) hd ?_
  exact k ad n H locs ls h1 h2 h3 h4 h5 (am_vs_cons am_vv_long h6) h7
theorem am_G_ldc {i : Nat} {z : Nat × Nat × Int} (C : am_Cx M A rm I0 Fx D cA p s m args meth c) (hd : decode (am_cc M) pc = .ok (.ldc i, 2)) (hs : am_step (.ldc i) z pc als ast I R Q = some (.inl (pc', als', ast', I', R', Q'))) (hz : ¬ z.1 = 1 → (am_oc M, i, z.2.2) ∈ am_cs) (hz2 : z.1 = 1 → z.2.1 < 8 ∧ (am_sr.getD z.2.1 (99, 0, "")).1 = am_oc M ∧ (am_sr.getD z.2.1 (99, 0, "")).2.1 = i) (k : am_G p l e Rm s m args below meth c D cA A rm I0 M n0 xg ad0 Qf pc' als' ast' I' R' Q') : am_G p l e Rm s m args below meth c D cA A rm I0 M n0 xg ad0 Qf pc als ast I R Q := by
  obtain ⟨hx, hb, hml, hown, hts, hr, hlk, hnm, hA, hK, hF⟩ := C
  unfold am_step at hs
  dsimp only at hs
  split at hs
  · rename_i hz1
    cases hs
    obtain ⟨hj, ho, hi⟩ := hz2 hz1
    intro ad n H locs ls h1 h2 h3 h4 h5 h6 h7
    have h8 := hF.2.2.1 z.2.1 hj
    rw [ho, hi] at h8
    have hm : am_mk 100 z.2.1 ∈ am_rl := am_str_in hj
    refine va_ldcS hx hb hown h8 hd ?_
    rw [← h2 _ hm]
    exact k ad n H locs ls h1 h2 h3 h4 h5 (am_vs_cons ⟨fun a ha => (by cases ha; exact Or.inr hm), fun x hx2 => by cases hx2⟩ h6) h7
  · rename_i hz1
    cases hs
    intro ad n H locs ls h1 h2 h3 h4 h5 h6 h7
    refine lv_ldc hx hb hown (hts _ (am_cs_in _ (hz hz1))) hd ?_
    exact k ad n H locs ls h1 h2 h3 h4 h5 (am_vs_cons am_vv_int h6) h7
theorem am_G_iload {i : Nat} (C : am_Cx M A rm I0 Fx D cA p s m args meth c) (hd : decode (am_cc M) pc = .ok (.iload i, 2)) (hs : am_ldi i (pc + 2) als ast I R Q = some (.inl (pc', als', ast', I', R', Q'))) (k : am_G p l e Rm s m args below meth c D cA A rm I0 M n0 xg ad0 Qf pc' als' ast' I' R' Q') : am_G p l e Rm s m args below meth c D cA A rm I0 M n0 xg ad0 Qf pc als ast I R Q := by
  obtain ⟨hx, hb, hml, hown, hts, hr, hlk, hnm, hA, hK, hF⟩ := C
  unfold am_ldi at hs
  split at hs
  · rename_i hv
    cases hs
    intro ad n H locs ls h1 h2 h3 h4 h5 h6 h7
    refine lv_iload hx hb hd (am_Ls_at h5 hv (by intro q; cases q)) ?_
    exact k ad n H locs ls h1 h2 h3 h4 h5 (am_vs_cons am_vv_int h6) h7
  · cases hs
theorem am_G_iload_n {i : Fin 4} (C : am_Cx M A rm I0 Fx D cA p s m args meth c) (hd : decode (am_cc M) pc = .ok (.iload_n i, 1)) (hs : am_ldi (i : Nat) (pc + 1) als ast I R Q = some (.inl (pc', als', ast', I', R', Q'))) (k : am_G p l e Rm s m args below meth c D cA A rm I0 M n0 xg ad0 Qf pc' als' ast' I' R' Q') : am_G p l e Rm s m args below meth c D cA A rm I0 M n0 xg ad0 Qf pc als ast I R Q := by
  obtain ⟨hx, hb, hml, hown, hts, hr, hlk, hnm, hA, hK, hF⟩ := C
  unfold am_ldi at hs
  split at hs
  · rename_i hv
    cases hs
    intro ad n H locs ls h1 h2 h3 h4 h5 h6 h7
    refine lv_iload_n hx hb hd rfl (am_Ls_at h5 hv (by intro q; cases q)) ?_
    exact k ad n H locs ls h1 h2 h3 h4 h5 (am_vs_cons am_vv_int h6) h7
  · cases hs
theorem am_G_aload {i : Nat} (C : am_Cx M A rm I0 Fx D cA p s m args meth c) (hd : decode (am_cc M) pc = .ok (.aload i, 2)) (hs : am_lda i (pc + 2) als ast I R Q = some (.inl (pc', als', ast', I', R', Q'))) (k : am_G p l e Rm s m args below meth c D cA A rm I0 M n0 xg ad0 Qf pc' als' ast' I' R' Q') : am_G p l e Rm s m args below meth c D cA A rm I0 M n0 xg ad0 Qf pc als ast I R Q := by
  obtain ⟨hx, hb, hml, hown, hts, hr, hlk, hnm, hA, hK, hF⟩ := C
  unfold am_lda at hs
  split at hs
  · rename_i hv
    cases hs
    intro ad n H locs ls h1 h2 h3 h4 h5 h6 h7
    refine lv_aload hx hb hd (am_Ls_at h5 hv (by intro q; cases q)) ?_
    exact k ad n H locs ls h1 h2 h3 h4 h5 (am_vs_cons (h5.2.2.1 _ (List.mem_of_getElem? hv)) h6) h7
  · rename_i hv
    cases hs
    intro ad n H locs ls h1 h2 h3 h4 h5 h6 h7
    refine lv_aloadN hx hb hd (am_Ls_at h5 hv (by intro q; cases q)) ?_
    exact k ad n H locs ls h1 h2 h3 h4 h5 (am_vs_cons am_vv_null h6) h7
  · cases hs
theorem am_G_aload_n {i : Fin 4} (C : am_Cx M A rm I0 Fx D cA p s m args meth c) (hd : decode (am_cc M) pc = .ok (.aload_n i, 1)) (hs : am_lda (i : Nat) (pc + 1) als ast I R Q = some (.inl (pc', als', ast', I', R', Q'))) (k : am_G p l e Rm s m args below meth c D cA A rm I0 M n0 xg ad0 Qf pc' als' ast' I' R' Q') : am_G p l e Rm s m args below meth c D cA A rm I0 M n0 xg ad0 Qf pc als ast I R Q := by
  obtain ⟨hx, hb, hml, hown, hts, hr, hlk, hnm, hA, hK, hF⟩ := C
  unfold am_lda at hs
  split at hs
  · rename_i hv
    cases hs
    intro ad n H locs ls h1 h2 h3 h4 h5 h6 h7
    refine lv_aload_n hx hb hd rfl (am_Ls_at h5 hv (by intro q; cases q)) ?_
    exact k ad n H locs ls h1 h2 h3 h4 h5 (am_vs_cons (h5.2.2.1 _ (List.mem_of_getElem? hv)) h6) h7
  · rename_i hv
    cases hs
    intro ad n H locs ls h1 h2 h3 h4 h5 h6 h7
    refine lv_aload_nN hx hb hd rfl (am_Ls_at h5 hv (by intro q; cases q)) ?_
    exact k ad n H locs ls h1 h2 h3 h4 h5 (am_vs_cons am_vv_null h6) h7
  · cases hs
theorem am_G_lload {i : Nat} (C : am_Cx M A rm I0 Fx D cA p s m args meth c) (hd : decode (am_cc M) pc = .ok (.lload i, 2)) (hs : am_ldl i (pc + 2) als ast I R Q = some (.inl (pc', als', ast', I', R', Q'))) (k : am_G p l e Rm s m args below meth c D cA A rm I0 M n0 xg ad0 Qf pc' als' ast' I' R' Q') : am_G p l e Rm s m args below meth c D cA A rm I0 M n0 xg ad0 Qf pc als ast I R Q := by
  obtain ⟨hx, hb, hml, hown, hts, hr, hlk, hnm, hA, hK, hF⟩ := C
  unfold am_ldl at hs
  split at hs
  · rename_i hv
    cases hs
    intro ad n H locs ls h1 h2 h3 h4 h5 h6 h7
    refine lv_lload hx hb hd (am_Ls_at h5 hv (by intro q; cases q)) ?_
    exact k ad n H locs ls h1 h2 h3 h4 h5 (am_vs_cons am_vv_long h6) h7
  · cases hs
theorem am_G_lload_n {i : Fin 4} (C : am_Cx M A rm I0 Fx D cA p s m args meth c) (hd : decode (am_cc M) pc = .ok (.lload_n i, 1)) (hs : am_ldl (i : Nat) (pc + 1) als ast I R Q = some (.inl (pc', als', ast', I', R', Q'))) (k : am_G p l e Rm s m args below meth c D cA A rm I0 M n0 xg ad0 Qf pc' als' ast' I' R' Q') : am_G p l e Rm s m args below meth c D cA A rm I0 M n0 xg ad0 Qf pc als ast I R Q := by
  obtain ⟨hx, hb, hml, hown, hts, hr, hlk, hnm, hA, hK, hF⟩ := C
  unfold am_ldl at hs
  split at hs
  · rename_i hv
    cases hs
    intro ad n H locs ls h1 h2 h3 h4 h5 h6 h7
    refine lv_lload_n hx hb hd rfl (am_Ls_at h5 hv (by intro q; cases q)) ?_
    exact k ad n H locs ls h1 h2 h3 h4 h5 (am_vs_cons am_vv_long h6) h7
  · cases hs
theorem am_G_istore {i : Nat} {z : Nat} (C : am_Cx M A rm I0 Fx D cA p s m args meth c) (hd : decode (am_cc M) pc = .ok (.istore i, 2)) (hs : am_sti z i (pc + 2) als ast I R Q = some (.inl (pc', als', ast', I', R', Q'))) (hz1 : z ≤ 1) (hz2 : ((z == 1) == am_lg M) = true) (k : am_G p l e Rm s m args below meth c D cA A rm I0 M n0 xg ad0 Qf pc' als' ast' I' R' Q') : am_G p l e Rm s m args below meth c D cA A rm I0 M n0 xg ad0 Qf pc als ast I R Q := by
  obtain ⟨hx, hb, hml, hown, hts, hr, hlk, hnm, hA, hK, hF⟩ := C
  unfold am_sti at hs
  split at hs
  · split at hs
    · rename_i hm
      cases hs
      intro ad n H locs ls h1 h2 h3 h4 h5 h6 h7
      refine lv_istore hx hb hd h5.2.1 (by rw [← h5.1]; exact am_may_lt hm) rfl (fun ls' hl' => ?_)
      exact k ad n H locs ls' h1 h2 h3 h4 (am_Ls_set h5 hz1 hz2 hm am_vv_int rfl hl') (am_vs_tl h6) h7
    · cases hs
  · cases hs
theorem am_G_istore_n {i : Fin 4} {z : Nat} (C : am_Cx M A rm I0 Fx D cA p s m args meth c) (hd : decode (am_cc M) pc = .ok (.istore_n i, 1)) (hs : am_sti z (i : Nat) (pc + 1) als ast I R Q = some (.inl (pc', als', ast', I', R', Q'))) (hz1 : z ≤ 1) (hz2 : ((z == 1) == am_lg M) = true) (k : am_G p l e Rm s m args below meth c D cA A rm I0 M n0 xg ad0 Qf pc' als' ast' I' R' Q') : am_G p l e Rm s m args below meth c D cA A rm I0 M n0 xg ad0 Qf pc als ast I R Q := by
  obtain ⟨hx, hb, hml, hown, hts, hr, hlk, hnm, hA, hK, hF⟩ := C
  unfold am_sti at hs
  split at hs
  · split at hs
    · rename_i hm
      cases hs
      intro ad n H locs ls h1 h2 h3 h4 h5 h6 h7
      refine lv_istore_n hx hb hd rfl h5.2.1 (by rw [← h5.1]; exact am_may_lt hm) rfl (fun ls' hl' => ?_)
      exact k ad n H locs ls' h1 h2 h3 h4 (am_Ls_set h5 hz1 hz2 hm am_vv_int rfl hl') (am_vs_tl h6) h7
    · cases hs
  · cases hs
theorem am_G_astore {i : Nat} {z : Nat} (C : am_Cx M A rm I0 Fx D cA p s m args meth c) (hd : decode (am_cc M) pc = .ok (.astore i, 2)) (hs : am_sta z i (pc + 2) als ast I R Q = some (.inl (pc', als', ast', I', R', Q'))) (hz1 : z ≤ 1) (hz2 : ((z == 1) == am_lg M) = true) (k : am_G p l e Rm s m args below meth c D cA A rm I0 M n0 xg ad0 Qf pc' als' ast' I' R' Q') : am_G p l e Rm s m args below meth c D cA A rm I0 M n0 xg ad0 Qf pc als ast I R Q := by
  obtain ⟨hx, hb, hml, hown, hts, hr, hlk, hnm, hA, hK, hF⟩ := C
  unfold am_sta at hs
  split at hs
  · split at hs
    · rename_i hm
      cases hs
      intro ad n H locs ls h1 h2 h3 h4 h5 h6 h7
      refine lv_astore hx hb hd h5.2.1 (by rw [← h5.1]; exact am_may_lt hm) rfl (fun ls' hl' => ?_)
      exact k ad n H locs ls' h1 h2 h3 h4 (am_Ls_set h5 hz1 hz2 hm (am_vs_hd h6) rfl hl') (am_vs_tl h6) h7
    · cases hs
  · split at hs
    · rename_i hm
      cases hs
      intro ad n H locs ls h1 h2 h3 h4 h5 h6 h7
      refine lv_astoreN hx hb hd h5.2.1 (by rw [← h5.1]; exact am_may_lt hm) rfl (fun ls' hl' => ?_)
      exact k ad n H locs ls' h1 h2 h3 h4 (am_Ls_set h5 hz1 hz2 hm am_vv_null rfl hl') (am_vs_tl h6) h7
    · cases hs
  · cases hs
theorem am_G_astore_n {i : Fin 4} {z : Nat} (C : am_Cx M A rm I0 Fx D cA p s m args meth c) (hd : decode (am_cc M) pc = .ok (.astore_n i, 1)) (hs : am_sta z (i : Nat) (pc + 1) als ast I R Q = some (.inl (pc', als', ast', I', R', Q'))) (hz1 : z ≤ 1) (hz2 : ((z == 1) == am_lg M) = true) (k : am_G p l e Rm s m args below meth c D cA A rm I0 M n0 xg ad0 Qf pc' als' ast' I' R' Q') : am_G p l e Rm s m args below meth c D cA A rm I0 M n0 xg ad0 Qf pc als ast I R Q := by
  obtain ⟨hx, hb, hml, hown, hts, hr, hlk, hnm, hA, hK, hF⟩ := C
  unfold am_sta at hs
  split at hs
  · split at hs
    · rename_i hm
      cases hs
      intro ad n H locs ls h1 h2 h3 h4 h5 h6 h7
      refine lv_astore_n hx hb hd rfl h5.2.1 (by rw [← h5.1]; exact am_may_lt hm) rfl (fun ls' hl' => ?_)
      exact k ad n H locs ls' h1 h2 h3 h4 (am_Ls_set h5 hz1 hz2 hm (am_vs_hd h6) rfl hl') (am_vs_tl h6) h7
    · cases hs
  · split at hs
    · rename_i hm
      cases hs
      intro ad n H locs ls h1 h2 h3 h4 h5 h6 h7
      refine lv_astore_nN hx hb hd rfl h5.2.1 (by rw [← h5.1]; exact am_may_lt hm) rfl (fun ls' hl' => ?_)
      exact k ad n H locs ls' h1 h2 h3 h4 (am_Ls_set h5 hz1 hz2 hm am_vv_null rfl hl') (am_vs_tl h6) h7
    · cases hs
  · cases hs
theorem am_G_lstore {i : Nat} {z : Nat} (C : am_Cx M A rm I0 Fx D cA p s m args meth c) (hd : decode (am_cc M) pc = .ok (.lstore i, 2)) (hs : am_stl z i (pc + 2) als ast I R Q = some (.inl (pc', als', ast', I', R', Q'))) (hz1 : z ≤ 1) (hz2 : ((z == 1) == am_lg M) = true) (k : am_G p l e Rm s m args below meth c D cA A rm I0 M n0 xg ad0 Qf pc' als' ast' I' R' Q') : am_G p l e Rm s m args below meth c D cA A rm I0 M n0 xg ad0 Qf pc als ast I R Q := by
  obtain ⟨hx, hb, hml, hown, hts, hr, hlk, hnm, hA, hK, hF⟩ := C
  unfold am_stl at hs
  split at hs
  · split at hs
    · rename_i hm
      cases hs
      intro ad n H locs ls h1 h2 h3 h4 h5 h6 h7
      refine lv_lstore hx hb hd h5.2.1 (by rw [← h5.1]; exact hm.2.1) rfl (fun ls' hl' => ?_)
      exact k ad n H locs ls' h1 h2 h3 h4 (am_Ls_setL h5 hm.2.2 hz2 hm.1 hm.2.1 hl') (am_vs_tl h6) h7
    · cases hs
  · cases hs
theorem am_G_lstore_n {i : Fin 4} {z : Nat} (C : am_Cx M A rm I0 Fx D cA p s m args meth c) (hd : decode (am_cc M) pc = .ok (.lstore_n i, 1)) (hs : am_stl z (i : Nat) (pc + 1) als ast I R Q = some (.inl (pc', als', ast', I', R', Q'))) (hz1 : z ≤ 1) (hz2 : ((z == 1) == am_lg M) = true) (k : am_G p l e Rm s m args below meth c D cA A rm I0 M n0 xg ad0 Qf pc' als' ast' I' R' Q') : am_G p l e Rm s m args below meth c D cA A rm I0 M n0 xg ad0 Qf pc als ast I R Q := by
  obtain ⟨hx, hb, hml, hown, hts, hr, hlk, hnm, hA, hK, hF⟩ := C
  unfold am_stl at hs
  split at hs
  · split at hs
    · rename_i hm
      cases hs
      intro ad n H locs ls h1 h2 h3 h4 h5 h6 h7
      refine lv_lstore_n hx hb hd rfl h5.2.1 (by rw [← h5.1]; exact hm.2.1) rfl (fun ls' hl' => ?_)
      exact k ad n H locs ls' h1 h2 h3 h4 (am_Ls_setL h5 hm.2.2 hz2 hm.1 hm.2.1 hl') (am_vs_tl h6) h7
    · cases hs
  · cases hs
theorem am_G_iinc {i : Nat} {x0 : Int} {z : Nat} (C : am_Cx M A rm I0 Fx D cA p s m args meth c) (hd : decode (am_cc M) pc = .ok (.iinc i x0, 3)) (hs : am_inc z i x0 (pc + 3) als ast I R Q = some (.inl (pc', als', ast', I', R', Q'))) (hz1 : z ≤ 1) (hz2 : ((z == 1) == am_lg M) = true) (k : am_G p l e Rm s m args below meth c D cA A rm I0 M n0 xg ad0 Qf pc' als' ast' I' R' Q') : am_G p l e Rm s m args below meth c D cA A rm I0 M n0 xg ad0 Qf pc als ast I R Q := by
  obtain ⟨hx, hb, hml, hown, hts, hr, hlk, hnm, hA, hK, hF⟩ := C
  unfold am_inc at hs
  split at hs
  · rename_i x hv
    split at hs
    · rename_i hm
      cases hs
      intro ad n H locs ls h1 h2 h3 h4 h5 h6 h7
      obtain ⟨q, hq⟩ := List.getElem?_of_mem (am_lvs_mem.mpr ⟨_, hv, (by intro q; cases q), rfl⟩ : (i, am_tv ad (.int x)) ∈ am_lvs ad als)
      refine lv_iinc (k := q) hx hb hd h5.2.1 hq rfl (by rw [← h5.1]; exact am_may_lt hm) rfl (fun ls' hl' => ?_)
      exact k ad n H locs ls' h1 h2 h3 h4 (am_Ls_set h5 hz1 hz2 hm am_vv_int rfl hl') h6 h7
    · cases hs
  · cases hs
theorem am_G_goto {x0 : Int} (C : am_Cx M A rm I0 Fx D cA p s m args meth c) (hd : decode (am_cc M) pc = .ok (.goto x0, 3)) (hs : am_go pc x0 als ast I R Q = some (.inl (pc', als', ast', I', R', Q'))) (k : am_G p l e Rm s m args below meth c D cA A rm I0 M n0 xg ad0 Qf pc' als' ast' I' R' Q') : am_G p l e Rm s m args below meth c D cA A rm I0 M n0 xg ad0 Qf pc als ast I R Q := by
  obtain ⟨hx, hb, hml, hown, hts, hr, hlk, hnm, hA, hK, hF⟩ := C
  unfold am_go at hs
  split at hs
  · rename_i hg
    cases hs
    intro ad n H locs ls h1 h2 h3 h4 h5 h6 h7
    refine lv_goto hx hb hd (am_tg_eq hg) ?_
    exact k ad n H locs ls h1 h2 h3 h4 h5 h6 h7
  · cases hs
theorem am_G_if_icmp {cc : ClassFile.Cond} {x0 : Int} (C : am_Cx M A rm I0 Fx D cA p s m args meth c) (hd : decode (am_cc M) pc = .ok (.if_icmp cc x0, 3)) (hs : am_if2 cc x0 pc als ast I R Q = some (.inl (pc', als', ast', I', R', Q'))) (hj : 0 ≤ (pc : Int) + x0) (k : am_G p l e Rm s m args below meth c D cA A rm I0 M n0 xg ad0 Qf pc' als' ast' I' R' Q') : am_G p l e Rm s m args below meth c D cA A rm I0 M n0 xg ad0 Qf pc als ast I R Q := by
  obtain ⟨hx, hb, hml, hown, hts, hr, hlk, hnm, hA, hK, hF⟩ := C
  unfold am_if2 at hs
  split at hs
  · split at hs
    · split at hs
      · rename_i hc
        unfold am_go at hs
        rw [if_pos hj] at hs
        cases hs
        intro ad n H locs ls h1 h2 h3 h4 h5 h6 h7
        refine lv_icmp_eq hx hb hd (am_tg_eq hj) (fun q => ?_) (fun q => absurd hc q)
        exact k ad n H locs ls h1 h2 h3 h4 h5 (am_vs_tl (am_vs_tl h6)) h7
      · rename_i hc
        cases hs
        intro ad n H locs ls h1 h2 h3 h4 h5 h6 h7
        refine lv_icmp_eq (tgt := am_tg pc x0) hx hb hd (am_tg_any hj) (fun q => absurd q hc) (fun q => ?_)
        exact k ad n H locs ls h1 h2 h3 h4 h5 (am_vs_tl (am_vs_tl h6)) h7
    · split at hs
      · rename_i hc
        cases hs
        intro ad n H locs ls h1 h2 h3 h4 h5 h6 h7
        refine lv_icmp_ne (tgt := am_tg pc x0) hx hb hd (am_tg_any hj) (fun q => absurd hc q) (fun q => ?_)
        exact k ad n H locs ls h1 h2 h3 h4 h5 (am_vs_tl (am_vs_tl h6)) h7
      · rename_i hc
        unfold am_go at hs
        rw [if_pos hj] at hs
        cases hs
        intro ad n H locs ls h1 h2 h3 h4 h5 h6 h7
        refine lv_icmp_ne hx hb hd (am_tg_eq hj) (fun q => ?_) (fun q => absurd q hc)
        exact k ad n H locs ls h1 h2 h3 h4 h5 (am_vs_tl (am_vs_tl h6)) h7
    · split at hs
      · rename_i hc
        unfold am_go at hs
        rw [if_pos hj] at hs
        cases hs
        intro ad n H locs ls h1 h2 h3 h4 h5 h6 h7
        refine lv_icmp_lt hx hb hd (am_tg_eq hj) (fun q => ?_) (fun q => absurd hc q)
        exact k ad n H locs ls h1 h2 h3 h4 h5 (am_vs_tl (am_vs_tl h6)) h7
      · rename_i hc
        cases hs
        intro ad n H locs ls h1 h2 h3 h4 h5 h6 h7
        refine lv_icmp_lt (tgt := am_tg pc x0) hx hb hd (am_tg_any hj) (fun q => absurd q hc) (fun q => ?_)
        exact k ad n H locs ls h1 h2 h3 h4 h5 (am_vs_tl (am_vs_tl h6)) h7
    · split at hs
      · rename_i hc
        unfold am_go at hs
        rw [if_pos hj] at hs
        cases hs
        intro ad n H locs ls h1 h2 h3 h4 h5 h6 h7
        refine lv_icmp_ge hx hb hd (am_tg_eq hj) (fun q => ?_) (fun q => absurd hc q)
        exact k ad n H locs ls h1 h2 h3 h4 h5 (am_vs_tl (am_vs_tl h6)) h7
      · rename_i hc
        cases hs
        intro ad n H locs ls h1 h2 h3 h4 h5 h6 h7
        refine lv_icmp_ge (tgt := am_tg pc x0) hx hb hd (am_tg_any hj) (fun q => absurd q hc) (fun q => ?_)
        exact k ad n H locs ls h1 h2 h3 h4 h5 (am_vs_tl (am_vs_tl h6)) h7
    · split at hs
      · rename_i hc
        unfold am_go at hs
        rw [if_pos hj] at hs
        cases hs
        intro ad n H locs ls h1 h2 h3 h4 h5 h6 h7
        refine lv_icmp_gt hx hb hd (am_tg_eq hj) (fun q => ?_) (fun q => absurd hc q)
        exact k ad n H locs ls h1 h2 h3 h4 h5 (am_vs_tl (am_vs_tl h6)) h7
      · rename_i hc
        cases hs
        intro ad n H locs ls h1 h2 h3 h4 h5 h6 h7
        refine lv_icmp_gt (tgt := am_tg pc x0) hx hb hd (am_tg_any hj) (fun q => absurd q hc) (fun q => ?_)
        exact k ad n H locs ls h1 h2 h3 h4 h5 (am_vs_tl (am_vs_tl h6)) h7
    · split at hs
      · rename_i hc
        unfold am_go at hs
        rw [if_pos hj] at hs
        cases hs
        intro ad n H locs ls h1 h2 h3 h4 h5 h6 h7
        refine lv_icmp_le hx hb hd (am_tg_eq hj) (fun q => ?_) (fun q => absurd hc q)
        exact k ad n H locs ls h1 h2 h3 h4 h5 (am_vs_tl (am_vs_tl h6)) h7
      · rename_i hc
        cases hs
        intro ad n H locs ls h1 h2 h3 h4 h5 h6 h7
        refine lv_icmp_le (tgt := am_tg pc x0) hx hb hd (am_tg_any hj) (fun q => absurd q hc) (fun q => ?_)
        exact k ad n H locs ls h1 h2 h3 h4 h5 (am_vs_tl (am_vs_tl h6)) h7
  · cases hs
theorem am_G_ifCond {cc : ClassFile.Cond} {x0 : Int} (C : am_Cx M A rm I0 Fx D cA p s m args meth c) (hd : decode (am_cc M) pc = .ok (.ifCond cc x0, 3)) (hs : am_if1 cc x0 pc als ast I R Q = some (.inl (pc', als', ast', I', R', Q'))) (hj : 0 ≤ (pc : Int) + x0) (k : am_G p l e Rm s m args below meth c D cA A rm I0 M n0 xg ad0 Qf pc' als' ast' I' R' Q') : am_G p l e Rm s m args below meth c D cA A rm I0 M n0 xg ad0 Qf pc als ast I R Q := by
  obtain ⟨hx, hb, hml, hown, hts, hr, hlk, hnm, hA, hK, hF⟩ := C
  unfold am_if1 at hs
  split at hs
  · unfold am_if2 at hs
    dsimp only at hs
    split at hs
    · split at hs
      · rename_i hc
        unfold am_go at hs
        rw [if_pos hj] at hs
        cases hs
        intro ad n H locs ls h1 h2 h3 h4 h5 h6 h7
        refine lv_if_eq hx hb hd (am_tg_eq hj) (fun q => ?_) (fun q => absurd hc q)
        exact k ad n H locs ls h1 h2 h3 h4 h5 (am_vs_tl h6) h7
      · rename_i hc
        cases hs
        intro ad n H locs ls h1 h2 h3 h4 h5 h6 h7
        refine lv_if_eq (tgt := am_tg pc x0) hx hb hd (am_tg_any hj) (fun q => absurd q hc) (fun q => ?_)
        exact k ad n H locs ls h1 h2 h3 h4 h5 (am_vs_tl h6) h7
    · split at hs
      · rename_i hc
        cases hs
        intro ad n H locs ls h1 h2 h3 h4 h5 h6 h7
        refine lv_if_ne (tgt := am_tg pc x0) hx hb hd (am_tg_any hj) (fun q => absurd hc q) (fun q => ?_)
        exact k ad n H locs ls h1 h2 h3 h4 h5 (am_vs_tl h6) h7
      · rename_i hc
        unfold am_go at hs
        rw [if_pos hj] at hs
        cases hs
        intro ad n H locs ls h1 h2 h3 h4 h5 h6 h7
        refine lv_if_ne hx hb hd (am_tg_eq hj) (fun q => ?_) (fun q => absurd q hc)
        exact k ad n H locs ls h1 h2 h3 h4 h5 (am_vs_tl h6) h7
    · split at hs
      · rename_i hc
        unfold am_go at hs
        rw [if_pos hj] at hs
        cases hs
        intro ad n H locs ls h1 h2 h3 h4 h5 h6 h7
        refine lv_if_lt hx hb hd (am_tg_eq hj) (fun q => ?_) (fun q => absurd hc q)
        exact k ad n H locs ls h1 h2 h3 h4 h5 (am_vs_tl h6) h7
      · rename_i hc
        cases hs
        intro ad n H locs ls h1 h2 h3 h4 h5 h6 h7
        refine lv_if_lt (tgt := am_tg pc x0) hx hb hd (am_tg_any hj) (fun q => absurd q hc) (fun q => ?_)
        exact k ad n H locs ls h1 h2 h3 h4 h5 (am_vs_tl h6) h7
    · split at hs
      · rename_i hc
        unfold am_go at hs
        rw [if_pos hj] at hs
        cases hs
        intro ad n H locs ls h1 h2 h3 h4 h5 h6 h7
        refine lv_if_ge hx hb hd (am_tg_eq hj) (fun q => ?_) (fun q => absurd hc q)
        exact k ad n H locs ls h1 h2 h3 h4 h5 (am_vs_tl h6) h7
      · rename_i hc
        cases hs
        intro ad n H locs ls h1 h2 h3 h4 h5 h6 h7
        refine lv_if_ge (tgt := am_tg pc x0) hx hb hd (am_tg_any hj) (fun q => absurd q hc) (fun q => ?_)
        exact k ad n H locs ls h1 h2 h3 h4 h5 (am_vs_tl h6) h7
    · split at hs
      · rename_i hc
        unfold am_go at hs
        rw [if_pos hj] at hs
        cases hs
        intro ad n H locs ls h1 h2 h3 h4 h5 h6 h7
        refine lv_if_gt hx hb hd (am_tg_eq hj) (fun q => ?_) (fun q => absurd hc q)
        exact k ad n H locs ls h1 h2 h3 h4 h5 (am_vs_tl h6) h7
      · rename_i hc
        cases hs
        intro ad n H locs ls h1 h2 h3 h4 h5 h6 h7
        refine lv_if_gt (tgt := am_tg pc x0) hx hb hd (am_tg_any hj) (fun q => absurd q hc) (fun q => ?_)
        exact k ad n H locs ls h1 h2 h3 h4 h5 (am_vs_tl h6) h7
    · split at hs
      · rename_i hc
        unfold am_go at hs
        rw [if_pos hj] at hs
        cases hs
        intro ad n H locs ls h1 h2 h3 h4 h5 h6 h7
        refine lv_if_le hx hb hd (am_tg_eq hj) (fun q => ?_) (fun q => absurd hc q)
        exact k ad n H locs ls h1 h2 h3 h4 h5 (am_vs_tl h6) h7
      · rename_i hc
        cases hs
        intro ad n H locs ls h1 h2 h3 h4 h5 h6 h7
        refine lv_if_le (tgt := am_tg pc x0) hx hb hd (am_tg_any hj) (fun q => absurd q hc) (fun q => ?_)
        exact k ad n H locs ls h1 h2 h3 h4 h5 (am_vs_tl h6) h7
  · cases hs
end
