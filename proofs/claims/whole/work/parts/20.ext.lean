/-! Calls of String's methods on the class's constants. -/
theorem am_strs_ok : am_strs.length = 8 ∧ ∀ j, j < 8 → (am_strs.getD j []).length = am_sl8.getD j 0 := by decide +kernel
theorem am_find_cg {f g : Nat → Int32} {x : Int32} : ∀ (n i0 : Nat), (∀ i, i0 ≤ i → i < i0 + n → f i = g i) → am_find f x n i0 = am_find g x n i0 := by
  intro n
  induction n with
  | zero => intro i0 _; rfl
  | succ n ih =>
    intro i0 h
    rw [am_find, am_find, h i0 (Nat.le_refl _) (by omega), ih (i0 + 1) (fun i h1 h2 => h i (by omega) (by omega))]
theorem am_eq_mk {a k : Nat} (h : a % 128 = k) : a = am_mk k (a / 128) := by unfold am_mk; omega
theorem am_ext_inv {M : Nat} {vs : List Value} {I : am_I} {v : Value} (h : am_ext M vs I = some v) : (∃ (a : Nat) (x : Int32), vs = [.ref a, .int x] ∧ a % 128 = 100 ∧ a / 128 < 8 ∧ ((M = 900 ∧ v = .int (am_find (I 101 (a / 128)) x (am_sl8.getD (a / 128) 0) 0)) ∨ (M = 901 ∧ 0 ≤ x ∧ x.toNatClampNeg < am_sl8.getD (a / 128) 0 ∧ v = .int (I 101 (a / 128) x.toNatClampNeg)))) ∨ (∃ a : Nat, vs = [.ref a] ∧ M = 902 ∧ a % 128 = 100 ∧ a / 128 < 8 ∧ v = .int (nI (am_sl8.getD (a / 128) 0))) := by
  obtain ⟨g1, g2⟩ := am_strs_ok
  unfold am_ext at h
  rw [g1] at h
  split at h
  · rename_i a x
    left
    split at h
    · rename_i hc
      cases h
      exact ⟨a, x, rfl, hc.2.1, hc.2.2, Or.inl ⟨hc.1, by rw [g2 _ hc.2.2]⟩⟩
    · split at h
      · rename_i hc
        cases h
        obtain ⟨c1, c2, c3, c4, c5⟩ := hc
        rw [g2 _ c3] at c5
        exact ⟨a, x, rfl, c2, c3, Or.inr ⟨c1, c4, c5, rfl⟩⟩
      · cases h
  · rename_i a
    right
    split at h
    · rename_i hc
      cases h
      exact ⟨a, rfl, hc.1, hc.2.1, hc.2.2, by rw [g2 _ hc.2.2]; rfl⟩
    · cases h
  · cases h
section
variable {p : Program} {l : Launch} {e : Env} {Rm : Room} {s : State} {m : MethodId} {args : Array Value} {below : List Frame} {meth : Method} {c : Code} {D : va_G} {cA : Nat → Nat} {A : Nat → Prop} {rm : Nat → Nat} {I0 : am_I} {M n0 xg : Nat} {ad0 : Nat → Nat} {Qf : State → Prop}
variable {pc : Nat} {als ast : List Value} {I : am_I} {R : am_R} {Q : am_Q}
theorem am_X_str {d idx kind : Nat} {z : Nat × Nat × Int} {vs rest : List Value} {v : Value} {aV : Nat → Nat} (hI : ∀ j, j < 8 → ∀ i, i < am_sl8.getD j 0 → I0 101 j i = (am_sb8.getD j []).getD i 0) (C : am_Cx M A rm I0 (am_SF A (fun j => rm (am_mk 100 j)) aV) D cA p s m args meth c) (hc : am_chV M idx z kind = true) (hz : 900 ≤ z.1 ∧ z.1 < 903) (hd : decode (am_cc M) pc = .ok (if kind = 0 then .invokevirtual idx else if kind = 1 then .invokestatic idx else .invokespecial idx, 3)) (hs : am_inv z pc als ast I R Q = some (.inr (.inr (z.1, vs, rest)))) (he : am_ext z.1 vs I = some v) (hRm : 2 * (d + 1) + 6 ≤ Rm.frames ∧ 80 * (d + 1 + 5) ≤ Rm.locals) (hroom : ∀ n', R 127 0 0 = some n' → n' - n0 + xg ≤ Rm.cells ∧ am_ss n' - am_ss n0 + 6 * xg ≤ Rm.slots) (k : am_G p l e Rm s m args below meth c D cA A rm I0 M n0 xg ad0 Qf (pc + 3) als (v :: rest) I R Q) : am_G p l e Rm s m args below meth c D cA A rm I0 M n0 xg ad0 Qf pc als ast I R Q := by
  obtain ⟨hx, hb, hml, hown, hts, hr, hlk, hnm, hA, hK, hF⟩ := C
  obtain ⟨-, -, hst, hok, hrest, -⟩ := am_inv_call hs
  obtain ⟨-, -, -, m4, m5⟩ := am_chV_more hc (by omega)
  have hk0 := m4 hz.1 hz.2
  subst hk0
  have hlink := hts _ (am_ml2_in _ (m5 (by omega)))
  unfold am_mlw at hlink
  dsimp only at hlink
  have hSF := hF.2.2.2.2.2.2
  have S : CallFix p m c (am_cc M) (am_ml M) s args am_ws (am_on M) := ⟨hx, hb, hml, hown, hts⟩
  intro ad n H locs ls h1 h2 h3 h4 h5 h6 h7
  have hrr := hroom n h4.2.1
  have hvr : ∀ v ∈ rest, am_vv n v := fun v hv => h6 v (by rw [hst]; exact List.mem_append_right _ hv)
  have hcs := am_cat_sum (ad := ad) hrest
  have hIj : ∀ j, j < 8 → ∀ i, i < am_sl8.getD j 0 → I 101 j i = (am_sb8.getD j []).getD i 0 := fun j hj i hi => by rw [h4.2.2.2.1 101 j i (by omega)]; exact hI j hj i hi
  have hroomW : 2 * (F0 m pc ls (ast.map (am_tv ad))).monitorRoom + ((rest.map (am_tv ad)).map fun v => v.category).sum ≤ 8 := lv_room hcs
  have had : ∀ a : Nat, a % 128 = 100 → a / 128 < 8 → ad a = rm (am_mk 100 (a / 128)) := by
    intro a ha hj
    have e := am_eq_mk ha
    rw [← e]
    exact h2 a (by rw [e]; exact am_str_in hj)
  have hpc : ∀ ws : List Value, ∀ U : State, U.heap = H → s.WarmedH U.vm → va_Pc ws (am_SF A (fun j => rm (am_mk 100 j)) aV) ws.toArray U := fun ws U hU hW => ⟨rfl, am_SF_T.2 s U locs hW (by rw [hU]; exact h7) hSF⟩
  rcases am_ext_inv he with ⟨a, x, hv, ha, hj, ⟨hM, hr1⟩ | ⟨hM, hx0, hx1, hr1⟩⟩ | ⟨a, hv, hM, ha, hj, hr1⟩
  · subst hr1
    rw [hM] at hlink
    have hlink : (Cond.methodLink (am_on M) idx yJ0_indexOf_0f7a4).before args s = true := hlink
    have hstk : ast.map (am_tv ad) = [Value.int x].reverse ++ .ref (rm (am_mk 100 (a / 128))) :: rest.map (am_tv ad) := by
      rw [hst, hv, ← had a ha hj]
      rfl
    refine W.callR (W.runV (b := rm (am_mk 100 (a / 128))) (As := [.int x]) (rest := rest.map (am_tv ad)) S (am_ix1 (aK := fun j => rm (am_mk 100 j)) (aV := aV) (A := A) hj (x := x)) ⟨callB_of (ws' := am_ws) (bytes := cJ0_indexOf_0f7a4) (maxL := 2) (ret := (some .int)) (rm := am_jr 3) 1 hts (am_goodIn (am_jw_at 20)) rfl rfl rfl (hts _ (am_jw_at 1)) hlink ⟨by decide, by decide, by decide +kernel⟩ ⟨by show 3 + 1 ≤ _; omega, by show 8 + (2 + 11) + 160 ≤ _; omega⟩, hts _ (am_jw_at 21), hts _ (am_jw_at 22)⟩ ⟨am_SF_blind, vk_recv (adK := fun _ => rm (am_mk 100 (a / 128))) (i := 0) (hSF.1 (a / 128) hj) (by decide) h7, hpc _⟩ rfl rfl h5.2.1.1 hstk hroomW hd ⟨hrr.1, hrr.2⟩) ?_
    have key := k ad n H locs ls h1 h2 h3 h4 h5 (am_vs_cons am_vv_int hvr) h7
    rw [am_find_cg _ _ (fun i _ hi => hIj _ hj i (by omega))] at key
    exact key
  · subst hr1
    rw [hM] at hlink
    have hlink : (Cond.methodLink (am_on M) idx yJ0_charAt_5068e).before args s = true := hlink
    obtain ⟨i, hi1, hi2⟩ := nI_of (Int32.not_lt.mpr hx0)
    subst hi2
    rw [nI_clamp hi1] at hx1 k
    have hstk : ast.map (am_tv ad) = [Value.int (nI i)].reverse ++ .ref (rm (am_mk 100 (a / 128))) :: rest.map (am_tv ad) := by
      rw [hst, hv, ← had a ha hj]
      rfl
    refine W.callR (W.runV (b := rm (am_mk 100 (a / 128))) (As := [.int (nI i)]) (rest := rest.map (am_tv ad)) S (am_sCh (aK := fun j => rm (am_mk 100 j)) (aV := aV) (A := A) hj hx1) ⟨callB_of (ws' := am_ws) (bytes := cJ0_charAt_5068e) (maxL := 2) (ret := (some .char)) (rm := am_jr 3) 1 hts (am_goodIn (am_jw_at 30)) rfl rfl rfl (hts _ (am_jw_at 1)) hlink ⟨by decide, by decide, by decide +kernel⟩ ⟨by show 3 + 1 ≤ _; omega, by show 8 + (2 + 11) + 160 ≤ _; omega⟩, hts _ (am_jw_at 31), hts _ (am_jw_at 32)⟩ ⟨am_SF_blind, vk_recv (adK := fun _ => rm (am_mk 100 (a / 128))) (i := 0) (hSF.1 (a / 128) hj) (by decide) h7, hpc _⟩ rfl rfl h5.2.1.1 hstk hroomW hd ⟨hrr.1, hrr.2⟩) ?_
    have key := k ad n H locs ls h1 h2 h3 h4 h5 (am_vs_cons am_vv_int hvr) h7
    rw [hIj _ hj i hx1] at key
    exact key
  · subst hr1
    rw [hM] at hlink
    have hlink : (Cond.methodLink (am_on M) idx yJ0_length_8abf5).before args s = true := hlink
    have hstk : ast.map (am_tv ad) = ([] : List Value).reverse ++ .ref (rm (am_mk 100 (a / 128))) :: rest.map (am_tv ad) := by
      rw [hst, hv, ← had a ha hj]
      rfl
    refine W.callR (W.runV (b := rm (am_mk 100 (a / 128))) (As := []) (rest := rest.map (am_tv ad)) S (am_length (aK := fun j => rm (am_mk 100 j)) (aV := aV) (A := A) hj) ⟨callB_of (ws' := am_ws) (bytes := cJ0_length_8abf5) (maxL := 1) (ret := (some .int)) (rm := am_jr 1) 0 hts (am_goodIn (am_jw_at 7)) rfl rfl rfl (hts _ (am_jw_at 1)) hlink ⟨by decide, by decide, by decide +kernel⟩ ⟨by show 1 + 1 ≤ _; omega, by show 8 + (1 + 11) + 80 ≤ _; omega⟩, hts _ (am_jw_at 8), hts _ (am_jw_at 9)⟩ ⟨am_SF_blind, vk_recv (adK := fun _ => rm (am_mk 100 (a / 128))) (i := 0) (hSF.1 (a / 128) hj) (by decide) h7, hpc _⟩ rfl rfl h5.2.1.1 hstk hroomW hd ⟨hrr.1, hrr.2⟩) ?_
    exact k ad n H locs ls h1 h2 h3 h4 h5 (am_vs_cons am_vv_int hvr) h7
end
