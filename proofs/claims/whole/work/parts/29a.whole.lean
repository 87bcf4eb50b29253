/-! whole_start out of one run of the A-machine. -/
def am_R0 : am_R := fun a _ _ => if a = 127 then some 0 else none
def am_Q0 : am_Q := fun _ _ _ => 0
/-- what is left: one run of the A-machine, from the script, that answers 1 -/
def am_Goal : Prop := ∀ (L : Nat) (xs : Nat → Int32), L ≤ 3072 → ∃ (I' : am_I) (R' : am_R) (Q' : am_Q), am_ev 100 am_lst 0 (am_lo am_lst [.ref (am_mk 120 0)]) [] (am_I0 L xs) am_R0 am_Q0 = some (some (.int 1), I', R', Q') ∧ R' 127 0 0 = some 365 ∧ am_gx R' ≤ 3072
theorem am_od_lt : ∀ i, i < 365 → ¬ am_ord i % 128 = 127 := by decide +kernel
theorem am_start (hG : am_Goal) {p : Program} {e : Env} {s : State} {m : MethodId} {below : List Frame} {meth : Method} {c : Code} (l : Launch) (hflags : l.flags = flags0) {b L : Nat} {xs : Nat → Int32} (hL : L ≤ 3072) (C0 : lw_At p s m meth c b L xs) : W p l e room_1 s m #[Value.ref b] below meth c s.heap [] 0 0 (lw_Z below #[Value.ref b] s) (entryFrame m ([Value.ref b] : List Value).toArray 7) := by
  obtain ⟨hx, hb, hr, hml, hown, hts, hX, hbl, hlk, hgv, hnm⟩ := C0
  have hs : ∀ w ∈ am_gv, w.before #[Value.ref b] s = true := flat_of_before _ hgv
  obtain ⟨D, cA, hK⟩ := am_K_of hts
  obtain ⟨rm, aV, hrb, hF⟩ := am_Fs_of hL hts hs hX
  subst hrb
  obtain ⟨I', R', Q', hrun, hn, hg⟩ := hG L xs hL
  obtain ⟨k, hk⟩ := am_ev_iff.mp hrun
  have hlt : l.stackTraces = false := by
    unfold Launch.stackTraces
    rw [hflags]
    decide +kernel
  have hP := am_all_P (am_FX_T (A := fun q => s.heap.size ≤ q) (aK := fun j => rm (am_mk 100 j)) (aV := aV)) (am_hX (D := D) (cA := cA) (A := fun q => s.heap.size ≤ q) (rm := rm) (I0 := am_I0 L xs) (aV := aV) (l := l) hlt (fun j hj i hi => rfl)) k
  exact am_law_W (ad0 := rm) (below := below) (e := e) hP (p := p) (s := s) (m := m) (meth := meth) (c := c) ⟨hx, hb, hml, hown, fun w hw => hts w (List.mem_filter.mp hw).1, hr, hlk, hnm, fun q hq => hq, hK, hF⟩ (fun q hq => hq) hb hr (fun a _ => rfl) ⟨Nat.zero_le _, rfl, fun i hi => absurd hi (Nat.not_lt_zero _), fun a b j _ => rfl, fun k q hq => (by cases hq), ⟨fun i j p q hq => (by cases hq), fun k q hq => (by cases hq)⟩, fun i _ hi j => if_neg (am_od_lt i hi)⟩ rfl hk hn hg
