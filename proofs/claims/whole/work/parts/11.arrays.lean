/-! Arrays, constants of the class. -/
theorem am_own_lt {n q a : Nat} (hn : n ≤ 365) (hq : q < n) (hqa : am_ord q = a) : a % 128 < 100 := by
  have := (am_ord_kd q (by omega)).1
  rw [hqa] at this
  omega
theorem am_ro_of {n a : Nat} (hn : n ≤ 365) (h : am_va n a) (hk : ¬ a % 128 < 100) : a ∈ am_rl := by
  rcases h with ⟨q, hq, hqa⟩ | q
  · exact absurd (am_own_lt hn hq hqa) hk
  · exact q
theorem am_div0 {a : Nat} (h : a = am_mk (a % 128) 0) : a / 128 = 0 := by unfold am_mk at h; omega
theorem am_ge100 {a : Nat} (h : ¬ a % 128 < 100) : 100 ≤ a % 128 := by omega
theorem am_lt100b {v : Nat} (h : v % 128 = 3) : v % 128 < 100 := by omega
theorem am_lt100c {v : Nat} (h : v % 128 = 9) : v % 128 < 100 := by omega
theorem am_in_of {i : Int32} {n : Nat} (h1 : 0 ≤ i) (h2 : i.toNatClampNeg < n) : vp_in i n := by
  rintro (h | h)
  · exact absurd h (Int32.not_lt.mpr h1)
  · omega
theorem am_at_13 : ∀ k, k < 13 → am_at k = 9 := by decide +kernel
theorem am_rl_at : ∀ a ∈ am_rl, (am_at (a % 128) = 0 → a = am_mk (a % 128) 0 ∧ ((110 ≤ a % 128 ∧ a % 128 < 115) ∨ a % 128 = 120)) ∧ am_at (a % 128) ≠ 1 ∧ am_at (a % 128) ≠ 2 ∧ am_at (a % 128) ≠ 3 ∧ am_at (a % 128) ≠ 4 ∧ (am_at (a % 128) < 9 → am_at (a % 128) = 0) := by decide +kernel
theorem am_at_5 : ∀ k, k < 128 → am_at k < 9 → am_at k ≤ 4 := by decide +kernel
theorem am_ll_n {I : am_I} {k : Nat} (h : k < 100) : am_ll I k = am_len k := if_neg (by omega)
theorem am_cat_sum {ad : Nat → Nat} {st : List Value} (h : st.length ≤ 4) : ((st.map (am_tv ad)).map fun v => v.category).sum ≤ 8 := by
  have h1 : ∀ l : List Value, ((l.map (am_tv ad)).map fun v => v.category).sum ≤ 2 * l.length := by
    intro l
    induction l with
    | nil => exact Nat.le_refl _
    | cons v l ih =>
      have hv : (am_tv ad v).category ≤ 2 := by unfold Value.category; cases v <;> simp [am_tv]
      simp only [List.map_cons, List.sum_cons, List.length_cons]
      omega
  have := h1 st
  omega
section
variable {p : Program} {l : Launch} {e : Env} {Rm : Room} {s : State} {m : MethodId} {args : Array Value} {below : List Frame} {meth : Method} {c : Code} {D : va_G} {cA : Nat → Nat} {A : Nat → Prop} {rm : Nat → Nat} {I0 : am_I} {M n0 xg : Nat} {ad0 : Nat → Nat} {Qf : State → Prop} {Fx : State → Prop}
variable {pc : Nat} {als ast : List Value} {I : am_I} {R : am_R} {Q : am_Q} {pc' : Nat} {als' ast' : List Value} {I' : am_I} {R' : am_R} {Q' : am_Q}
theorem am_ll_0 {ad : Nat → Nat} {n k : Nat} {H : Heap} (h : am_St D cA A ad n I0 I R Q H) : am_ll I k = am_ll I0 k := by
  unfold am_ll
  rw [h.2.2.2.1 121 0 0 (by omega)]
theorem am_arr_cell {ad : Nat → Nat} {n a t q : Nat} (hq : q < n) (hqa : am_ord q = a) (hat : am_at (a % 128) = t) (ht : t < 9) : (am_wd cA ad I R Q n)[q]? = some (ad a, .inl (cA t, am_len (a % 128), am_pay t ad (I (a % 128) (a / 128)) (R (a % 128) (a / 128)) (Q (a % 128) (a / 128)))) := by
  have h13 : ¬ a % 128 < 13 := fun q => by rw [am_at_13 _ q] at hat; omega
  rw [am_wd_get hq, hqa, am_cell_arr h13, hat]
theorem am_G_iaload (C : am_Cx M A rm I0 Fx D cA p s m args meth c) (hd : decode (am_cc M) pc = .ok (.iaload, 1)) (hs : am_ald 0 (pc + 1) als ast I R Q = some (.inl (pc', als', ast', I', R', Q'))) (k : am_G p l e Rm s m args below meth c D cA A rm I0 M n0 xg ad0 Qf pc' als' ast' I' R' Q') : am_G p l e Rm s m args below meth c D cA A rm I0 M n0 xg ad0 Qf pc als ast I R Q := by
  obtain ⟨hx, hb, hml, hown, hts, hr, hlk, hnm, hA, hK, hF⟩ := C
  unfold am_ald at hs
  split at hs
  · rename_i i a st
    split at hs
    · rename_i hc
      obtain ⟨hat, hi1, hi2⟩ := hc
      rw [if_neg (by decide)] at hs
      cases hs
      intro ad n H locs ls h1 h2 h3 h4 h5 h6 h7
      have hv := am_vs_hd (am_vs_tl h6)
      by_cases hk : a % 128 < 100
      · obtain ⟨q, hq, hqa⟩ := am_vo_of hv hk
        rw [am_ll_n hk] at hi2
        refine va_iald hx hb hK h4.2.2.2.2.1 q 0 (am_arr_cell hq hqa hat (by omega)) rfl (am_in_of hi1 hi2) hd ?_
        exact k ad n H locs ls h1 h2 h3 h4 h5 (am_vs_cons am_vv_int (am_vs_tl (am_vs_tl h6))) h7
      · have hrl : a ∈ am_rl := am_ro_of h4.1 (hv.1 a rfl) hk
        obtain ⟨hz1, -⟩ := am_rl_at a hrl
        obtain ⟨ha, hka⟩ := hz1 hat
        have hT := hF.1 (a % 128) hka
        rw [← ha, ← h2 a hrl, ← am_ll_0 h4] at hT
        have ha0 : a / 128 = 0 := am_div0 ha
        refine va_ti hx hb hT h7 (am_in_of hi1 hi2) (v := .int (I (a % 128) (a / 128) i.toNatClampNeg)) (by rw [h4.2.2.2.1 _ _ _ (am_ge100 hk), ha0]) hd ?_
        exact k ad n H locs ls h1 h2 h3 h4 h5 (am_vs_cons am_vv_int (am_vs_tl (am_vs_tl h6))) h7
    · cases hs
  · cases hs
theorem am_G_baload (C : am_Cx M A rm I0 Fx D cA p s m args meth c) (hd : decode (am_cc M) pc = .ok (.baload, 1)) (hs : am_ald 1 (pc + 1) als ast I R Q = some (.inl (pc', als', ast', I', R', Q'))) (k : am_G p l e Rm s m args below meth c D cA A rm I0 M n0 xg ad0 Qf pc' als' ast' I' R' Q') : am_G p l e Rm s m args below meth c D cA A rm I0 M n0 xg ad0 Qf pc als ast I R Q := by
  obtain ⟨hx, hb, hml, hown, hts, hr, hlk, hnm, hA, hK, hF⟩ := C
  unfold am_ald at hs
  split at hs
  · rename_i i a st
    split at hs
    · rename_i hc
      obtain ⟨hat, hi1, hi2⟩ := hc
      rw [if_neg (by decide)] at hs
      cases hs
      intro ad n H locs ls h1 h2 h3 h4 h5 h6 h7
      obtain ⟨q, hq, hqa⟩ := ((am_vs_hd (am_vs_tl h6)).1 a rfl).resolve_right (fun hrl => (am_rl_at a hrl).2.1 hat)
      have hk : a % 128 < 100 := am_own_lt h4.1 hq hqa
      rw [am_ll_n hk] at hi2
      refine va_zald hx hb hK h4.2.2.2.2.1 q 1 (am_arr_cell hq hqa hat (by omega)) rfl (am_in_of hi1 hi2) hd ?_
      exact k ad n H locs ls h1 h2 h3 h4 h5 (am_vs_cons am_vv_int (am_vs_tl (am_vs_tl h6))) h7
    · cases hs
  · cases hs
theorem am_G_laload (C : am_Cx M A rm I0 Fx D cA p s m args meth c) (hd : decode (am_cc M) pc = .ok (.laload, 1)) (hs : am_ald 2 (pc + 1) als ast I R Q = some (.inl (pc', als', ast', I', R', Q'))) (k : am_G p l e Rm s m args below meth c D cA A rm I0 M n0 xg ad0 Qf pc' als' ast' I' R' Q') : am_G p l e Rm s m args below meth c D cA A rm I0 M n0 xg ad0 Qf pc als ast I R Q := by
  obtain ⟨hx, hb, hml, hown, hts, hr, hlk, hnm, hA, hK, hF⟩ := C
  unfold am_ald at hs
  split at hs
  · rename_i i a st
    split at hs
    · rename_i hc
      obtain ⟨hat, hi1, hi2⟩ := hc
      rw [if_pos rfl] at hs
      cases hs
      intro ad n H locs ls h1 h2 h3 h4 h5 h6 h7
      obtain ⟨q, hq, hqa⟩ := ((am_vs_hd (am_vs_tl h6)).1 a rfl).resolve_right (fun hrl => (am_rl_at a hrl).2.2.1 hat)
      have hk : a % 128 < 100 := am_own_lt h4.1 hq hqa
      rw [am_ll_n hk] at hi2
      refine va_lald hx hb hK h4.2.2.2.2.1 q 2 (am_arr_cell hq hqa hat (by omega)) rfl (am_in_of hi1 hi2) hd ?_
      exact k ad n H locs ls h1 h2 h3 h4 h5 (am_vs_cons am_vv_long (am_vs_tl (am_vs_tl h6))) h7
    · cases hs
  · cases hs
theorem am_G_aaload (C : am_Cx M A rm I0 Fx D cA p s m args meth c) (hd : decode (am_cc M) pc = .ok (.aaload, 1)) (hs : am_aald (pc + 1) als ast I R Q = some (.inl (pc', als', ast', I', R', Q'))) (k : am_G p l e Rm s m args below meth c D cA A rm I0 M n0 xg ad0 Qf pc' als' ast' I' R' Q') : am_G p l e Rm s m args below meth c D cA A rm I0 M n0 xg ad0 Qf pc als ast I R Q := by
  obtain ⟨hx, hb, hml, hown, hts, hr, hlk, hnm, hA, hK, hF⟩ := C
  unfold am_aald at hs
  split at hs
  · rename_i i a st
    split at hs
    · rename_i hc
      obtain ⟨hat, hi1, hi2⟩ := hc
      cases hs
      intro ad n H locs ls h1 h2 h3 h4 h5 h6 h7
      obtain ⟨q, hq, hqa⟩ := ((am_vs_hd (am_vs_tl h6)).1 a rfl).resolve_right (fun hrl => hat.elim (am_rl_at a hrl).2.2.2.1 (am_rl_at a hrl).2.2.2.2.1)
      have hk : a % 128 < 100 := am_own_lt h4.1 hq hqa
      rw [am_ll_n hk] at hi2
      have hvv : am_vv n (va_rf (R (a % 128) (a / 128) i.toNatClampNeg)) := am_vv_rf (fun b hb2 => h4.2.2.1 q hq i.toNatClampNeg b (by rw [hqa]; exact hb2))
      have key := k ad n H locs ls h1 h2 h3 h4 h5 (am_vs_cons hvv (am_vs_tl (am_vs_tl h6))) h7
      rw [List.map_cons, am_tv_rf] at key
      rcases hat with hat | hat
      · exact va_aldq (C := "ColdMiddle$Law") hx hb hK h4.2.2.2.2.1 q 3 (am_arr_cell hq hqa hat (by omega)) rfl (am_in_of hi1 hi2) hd key
      · exact va_aldq (C := "ColdMiddle$Plate") hx hb hK h4.2.2.2.2.1 q 4 (am_arr_cell hq hqa hat (by omega)) rfl (am_in_of hi1 hi2) hd key
    · cases hs
  · cases hs
theorem am_G_arraylength (C : am_Cx M A rm I0 Fx D cA p s m args meth c) (hd : decode (am_cc M) pc = .ok (.arraylength, 1)) (hs : am_alen (pc + 1) als ast I R Q = some (.inl (pc', als', ast', I', R', Q'))) (k : am_G p l e Rm s m args below meth c D cA A rm I0 M n0 xg ad0 Qf pc' als' ast' I' R' Q') : am_G p l e Rm s m args below meth c D cA A rm I0 M n0 xg ad0 Qf pc als ast I R Q := by
  obtain ⟨hx, hb, hml, hown, hts, hr, hlk, hnm, hA, hK, hF⟩ := C
  unfold am_alen at hs
  split at hs
  · rename_i a st
    split at hs
    · rename_i hat
      cases hs
      intro ad n H locs ls h1 h2 h3 h4 h5 h6 h7
      have hv := am_vs_hd h6
      have key := k ad n H locs ls h1 h2 h3 h4 h5 (am_vs_cons am_vv_int (am_vs_tl h6)) h7
      by_cases hk : a % 128 < 100
      · obtain ⟨q, hq, hqa⟩ := am_vo_of hv hk
        have h44 := am_at_5 _ (Nat.mod_lt _ (by decide)) hat
        have ⟨ty, hty⟩ : ∃ ty, (am_tys cA)[am_at (a % 128)]? = some (cA (am_at (a % 128)), ty) := by
          rcases (show am_at (a % 128) = 0 ∨ am_at (a % 128) = 1 ∨ am_at (a % 128) = 2 ∨ am_at (a % 128) = 3 ∨ am_at (a % 128) = 4 by omega) with q | q | q | q | q <;> rw [q] <;> exact ⟨_, rfl⟩
        exact va_alen hx hb hK h4.2.2.2.2.1 q _ (am_arr_cell hq hqa rfl hat) hty (by rw [am_ll_n hk]) hd key
      · have hrl : a ∈ am_rl := am_ro_of h4.1 (hv.1 a rfl) hk
        obtain ⟨hz1, -, -, -, -, hz2⟩ := am_rl_at a hrl
        obtain ⟨ha, hka⟩ := hz1 (hz2 hat)
        have hT := hF.1 (a % 128) hka
        rw [← ha, ← h2 a hrl, ← am_ll_0 h4] at hT
        exact va_tlen hx hb hT h7 rfl hd key
    · cases hs
  · cases hs
theorem am_G_iastore (C : am_Cx M A rm I0 Fx D cA p s m args meth c) (hd : decode (am_cc M) pc = .ok (.iastore, 1)) (hs : am_ast 0 (pc + 1) als ast I R Q = some (.inl (pc', als', ast', I', R', Q'))) (k : am_G p l e Rm s m args below meth c D cA A rm I0 M n0 xg ad0 Qf pc' als' ast' I' R' Q') : am_G p l e Rm s m args below meth c D cA A rm I0 M n0 xg ad0 Qf pc als ast I R Q := by
  obtain ⟨hx, hb, hml, hown, hts, hr, hlk, hnm, hA, hK, hF⟩ := C
  unfold am_ast at hs
  split at hs
  · rename_i x i a st
    split at hs
    · rename_i hc
      obtain ⟨hat, ⟨hi1, hi2⟩, hk, -⟩ := hc
      cases hs
      intro ad n H locs ls h1 h2 h3 h4 h5 h6 h7
      obtain ⟨q, hq, hqa⟩ := am_vo_of (am_vs_hd (am_vs_tl (am_vs_tl h6))) hk
      rw [am_ll_n hk] at hi2
      refine va_iast hx hb hK h4.2.2.2.2.1 h4.2.2.2.2.2.1 h7 q 0 (am_arr_cell hq hqa hat (by omega)) rfl (am_in_of hi1 hi2) hd (fun H1 locs1 hP hD hS => ?_)
      have h13 : ¬ a % 128 < 13 := fun q => by rw [am_at_13 _ q] at hat; omega
      refine k ad n H1 locs1 ls h1 h2 h3 (am_St_put h4 hq hqa hk ?_ (fun x y hxy => am_sI_ne hxy) (fun _ _ _ => rfl) (fun _ _ _ => rfl) (fun j b hb => h4.2.2.1 q hq j b (by rw [hqa]; exact hb)) hP hD) h5 (am_vs_tl (am_vs_tl (am_vs_tl h6))) hS
      rw [am_cell_arr h13, hat, am_sI_eq]
      rfl
    · cases hs
  · cases hs
theorem am_G_bastore (C : am_Cx M A rm I0 Fx D cA p s m args meth c) (hd : decode (am_cc M) pc = .ok (.bastore, 1)) (hs : am_ast 1 (pc + 1) als ast I R Q = some (.inl (pc', als', ast', I', R', Q'))) (k : am_G p l e Rm s m args below meth c D cA A rm I0 M n0 xg ad0 Qf pc' als' ast' I' R' Q') : am_G p l e Rm s m args below meth c D cA A rm I0 M n0 xg ad0 Qf pc als ast I R Q := by
  obtain ⟨hx, hb, hml, hown, hts, hr, hlk, hnm, hA, hK, hF⟩ := C
  unfold am_ast at hs
  split at hs
  · rename_i x i a st
    split at hs
    · rename_i hc
      obtain ⟨hat, ⟨hi1, hi2⟩, hk, hb01⟩ := hc
      have hb01 : vp_nar .boolean x = x := hb01.resolve_left (by decide)
      cases hs
      intro ad n H locs ls h1 h2 h3 h4 h5 h6 h7
      obtain ⟨q, hq, hqa⟩ := am_vo_of (am_vs_hd (am_vs_tl (am_vs_tl h6))) hk
      rw [am_ll_n hk] at hi2
      refine va_zast hx hb hK h4.2.2.2.2.1 h4.2.2.2.2.2.1 h7 q 1 (am_arr_cell hq hqa hat (by omega)) rfl (am_in_of hi1 hi2) hd (fun H1 locs1 hP hD hS => ?_)
      rw [hb01] at hP hD
      have h13 : ¬ a % 128 < 13 := fun q => by rw [am_at_13 _ q] at hat; omega
      refine k ad n H1 locs1 ls h1 h2 h3 (am_St_put h4 hq hqa hk ?_ (fun x y hxy => am_sI_ne hxy) (fun _ _ _ => rfl) (fun _ _ _ => rfl) (fun j b hb => h4.2.2.1 q hq j b (by rw [hqa]; exact hb)) hP hD) h5 (am_vs_tl (am_vs_tl (am_vs_tl h6))) hS
      rw [am_cell_arr h13, hat, am_sI_eq]
      rfl
    · cases hs
  · cases hs
theorem am_G_aastore (C : am_Cx M A rm I0 Fx D cA p s m args meth c) (hd : decode (am_cc M) pc = .ok (.aastore, 1)) (hs : am_aast (pc + 1) als ast I R Q = some (.inl (pc', als', ast', I', R', Q'))) (k : am_G p l e Rm s m args below meth c D cA A rm I0 M n0 xg ad0 Qf pc' als' ast' I' R' Q') : am_G p l e Rm s m args below meth c D cA A rm I0 M n0 xg ad0 Qf pc als ast I R Q := by
  obtain ⟨hx, hb, hml, hown, hts, hr, hlk, hnm, hA, hK, hF⟩ := C
  unfold am_aast at hs
  split at hs
  · rename_i v i a st
    split at hs
    · rename_i hc
      obtain ⟨hat, ⟨hi1, hi2⟩, hk⟩ := hc
      cases hs
      intro ad n H locs ls h1 h2 h3 h4 h5 h6 h7
      obtain ⟨q, hq, hqa⟩ := am_vo_of (am_vs_hd (am_vs_tl (am_vs_tl h6))) hk
      have hv := am_vs_hd h6
      rw [am_ll_n hk] at hi2
      have fin : ∀ (t : Nat) (H1 : Heap) (locs1 : List Loc), am_at (a % 128) = t → (t = 3 ∨ t = 4) → va_P D vwCl ((am_wd cA ad I R Q n).set q (ad a, .inl (cA t, am_len (a % 128), .inr (.inr (.inr (.inr (va_up (fun j => (R (a % 128) (a / 128) j).map ad) i.toNatClampNeg (some (ad v))))))))) H1 → va_D A ((am_wd cA ad I R Q n).set q (ad a, .inl (cA t, am_len (a % 128), .inr (.inr (.inr (.inr (va_up (fun j => (R (a % 128) (a / 128) j).map ad) i.toNatClampNeg (some (ad v))))))))) → va_S A s.heap H1 locs1 → W p l e Rm s m args below meth c H1 locs1 (n - n0 + xg) (am_ss n - am_ss n0 + 6 * xg) Qf (F0 m (pc + 1) ls (List.map (am_tv ad) ast')) := by
        intro t H1 locs1 hat ht hP hD hS
        have h13 : ¬ a % 128 < 13 := fun q => by rw [am_at_13 _ q] at hat; omega
        refine k ad n H1 locs1 ls h1 h2 h3 (am_St_put h4 hq hqa hk ?_ (fun _ _ _ => rfl) (fun x y hxy => am_sR_ne hxy) (fun _ _ _ => rfl) ?_ hP hD) h5 (am_vs_tl (am_vs_tl (am_vs_tl h6))) hS
        · rw [am_cell_arr h13, hat, am_sR_eq]
          have e1 : (fun j => (am_uR (R (a % 128) (a / 128)) i.toNatClampNeg (some v) j).map ad) = va_up (fun j => (R (a % 128) (a / 128) j).map ad) i.toNatClampNeg (some (ad v)) := by
            funext j
            unfold am_uR va_up
            split <;> rfl
          unfold am_pay
          rw [e1, if_neg (by omega), if_pos ht]
        · intro j b hb
          rw [am_sR_eq] at hb
          unfold am_uR at hb
          split at hb
          · cases hb; exact hv.1 v rfl
          · exact h4.2.2.1 q hq j b (by rw [hqa]; exact hb)
      rcases hat with ⟨hat, hv3⟩ | ⟨hat, hv3⟩
      · obtain ⟨w, hw, hwa⟩ := am_vo_of hv (am_lt100b hv3)
        exact va_astq (r := (am_RX 3, am_TX 3, am_nf.getD 3 0)) (ci := 3) hx hb hK h4.2.2.2.2.1 h4.2.2.2.2.2.1 h7 q 3 w (am_arr_cell hq hqa hat (by omega)) rfl (by rw [am_wd_get hw, hwa, am_cell_obj hv3 (by decide)]) (am_cl_at 3 (by decide)) (am_in_of hi1 hi2) hd (fun H1 locs1 hP hD hS => fin 3 H1 locs1 hat (Or.inl rfl) hP hD hS)
      · obtain ⟨w, hw, hwa⟩ := am_vo_of hv (am_lt100c hv3)
        exact va_astq (r := (am_RX 9, am_TX 9, am_nf.getD 9 0)) (ci := 9) hx hb hK h4.2.2.2.2.1 h4.2.2.2.2.2.1 h7 q 4 w (am_arr_cell hq hqa hat (by omega)) rfl (by rw [am_wd_get hw, hwa, am_cell_obj hv3 (by decide)]) (am_cl_at 9 (by decide)) (am_in_of hi1 hi2) hd (fun H1 locs1 hP hD hS => fin 4 H1 locs1 hat (Or.inr rfl) hP hD hS)
    · cases hs
  · cases hs
theorem am_G_getstatic {idx : Nat} {z : Nat × Nat × Int} (C : am_Cx M A rm I0 Fx D cA p s m args meth c) (hd : decode (am_cc M) pc = .ok (.getstatic idx, 3)) (hz : (am_oc M, idx, z.1) ∈ am_sl ∧ 110 ≤ z.1 ∧ z.1 < 115) (k : am_G p l e Rm s m args below meth c D cA A rm I0 M n0 xg ad0 Qf (pc + 3) als (.ref (am_mk z.1 0) :: ast) I R Q) : am_G p l e Rm s m args below meth c D cA A rm I0 M n0 xg ad0 Qf pc als ast I R Q := by
  obtain ⟨hx, hb, hml, hown, hts, hr, hlk, hnm, hA, hK, hF⟩ := C
  intro ad n H locs ls h1 h2 h3 h4 h5 h6 h7
  have hm : am_mk z.1 0 ∈ am_rl := by
    rcases (show z.1 = 110 ∨ z.1 = 111 ∨ z.1 = 112 ∨ z.1 = 113 ∨ z.1 = 114 by omega) with q | q | q | q | q <;> rw [q] <;> simp [am_rl]
  have key := k ad n H locs ls h1 h2 h3 h4 h5 (am_vs_cons ⟨fun a ha => (by cases ha; exact Or.inr hm), fun x q => by cases q⟩ h6) h7
  rw [List.map_cons, show am_tv ad (.ref (am_mk z.1 0)) = .ref (rm (am_mk z.1 0)) from congrArg Value.ref (h2 _ hm)] at key
  exact va_gets (own := am_on M) (ref := "ColdMiddle$LunchReader") hx hb (hF.2.1 z.1 hz.2.1 hz.2.2) h7 hown (hts _ (am_sl_in _ hz.1)) (fun x h => h) hd key
end
