/-! The rest of the steps; one theorem for all. -/
section
variable {p : Program} {l : Launch} {e : Env} {Rm : Room} {s : State} {m : MethodId} {args : Array Value} {below : List Frame} {meth : Method} {c : Code} {D : va_G} {cA : Nat → Nat} {A : Nat → Prop} {rm : Nat → Nat} {I0 : am_I} {M n0 xg : Nat} {ad0 : Nat → Nat} {Qf : State → Prop} {Fx : State → Prop}
variable {pc : Nat} {als ast : List Value} {I : am_I} {R : am_R} {Q : am_Q} {pc' : Nat} {als' ast' : List Value} {I' : am_I} {R' : am_R} {Q' : am_Q}
theorem am_G_dup {z : Nat × Nat × Int} (C : am_Cx M A rm I0 Fx D cA p s m args meth c) (hd : decode (am_cc M) pc = .ok (.dup, 1)) (hs : am_step .dup z pc als ast I R Q = some (.inl (pc', als', ast', I', R', Q'))) (k : am_G p l e Rm s m args below meth c D cA A rm I0 M n0 xg ad0 Qf pc' als' ast' I' R' Q') : am_G p l e Rm s m args below meth c D cA A rm I0 M n0 xg ad0 Qf pc als ast I R Q := by
  obtain ⟨hx, hb, -⟩ := C
  unfold am_step at hs
  dsimp only at hs
  split at hs
  · cases hs
    intro ad n H locs ls h1 h2 h3 h4 h5 h6 h7
    exact lv_dup hx hb hd rfl (k ad n H locs ls h1 h2 h3 h4 h5 (am_vs_cons (am_vs_hd h6) h6) h7)
  · cases hs
    intro ad n H locs ls h1 h2 h3 h4 h5 h6 h7
    exact lv_dup hx hb hd rfl (k ad n H locs ls h1 h2 h3 h4 h5 (am_vs_cons (am_vs_hd h6) h6) h7)
  · cases hs
    intro ad n H locs ls h1 h2 h3 h4 h5 h6 h7
    exact lv_dup hx hb hd rfl (k ad n H locs ls h1 h2 h3 h4 h5 (am_vs_cons (am_vs_hd h6) h6) h7)
  · cases hs
theorem am_G_dup2 {z : Nat × Nat × Int} (C : am_Cx M A rm I0 Fx D cA p s m args meth c) (hd : decode (am_cc M) pc = .ok (.dup2, 1)) (hs : am_step .dup2 z pc als ast I R Q = some (.inl (pc', als', ast', I', R', Q'))) (k : am_G p l e Rm s m args below meth c D cA A rm I0 M n0 xg ad0 Qf pc' als' ast' I' R' Q') : am_G p l e Rm s m args below meth c D cA A rm I0 M n0 xg ad0 Qf pc als ast I R Q := by
  obtain ⟨hx, hb, -⟩ := C
  unfold am_step at hs
  dsimp only at hs
  split at hs
  · cases hs
    intro ad n H locs ls h1 h2 h3 h4 h5 h6 h7
    exact lv_dup2_11 hx hb hd rfl rfl (k ad n H locs ls h1 h2 h3 h4 h5 (am_vs_cons am_vv_int (am_vs_cons (am_vs_hd (am_vs_tl h6)) h6)) h7)
  · cases hs
theorem am_G_pop {z : Nat × Nat × Int} (C : am_Cx M A rm I0 Fx D cA p s m args meth c) (hd : decode (am_cc M) pc = .ok (.pop, 1)) (hs : am_step .pop z pc als ast I R Q = some (.inl (pc', als', ast', I', R', Q'))) (k : am_G p l e Rm s m args below meth c D cA A rm I0 M n0 xg ad0 Qf pc' als' ast' I' R' Q') : am_G p l e Rm s m args below meth c D cA A rm I0 M n0 xg ad0 Qf pc als ast I R Q := by
  obtain ⟨hx, hb, -⟩ := C
  unfold am_step at hs
  dsimp only at hs
  split at hs
  · cases hs
    intro ad n H locs ls h1 h2 h3 h4 h5 h6 h7
    exact lv_pop hx hb hd rfl (k ad n H locs ls h1 h2 h3 h4 h5 (am_vs_tl h6) h7)
  · cases hs
    intro ad n H locs ls h1 h2 h3 h4 h5 h6 h7
    exact lv_pop hx hb hd rfl (k ad n H locs ls h1 h2 h3 h4 h5 (am_vs_tl h6) h7)
  · cases hs
theorem am_G_ifnull {off : Int} {z : Nat × Nat × Int} (C : am_Cx M A rm I0 Fx D cA p s m args meth c) (hd : decode (am_cc M) pc = .ok (.ifnull off, 3)) (hs : am_step (.ifnull off) z pc als ast I R Q = some (.inl (pc', als', ast', I', R', Q'))) (k : am_G p l e Rm s m args below meth c D cA A rm I0 M n0 xg ad0 Qf pc' als' ast' I' R' Q') : am_G p l e Rm s m args below meth c D cA A rm I0 M n0 xg ad0 Qf pc als ast I R Q := by
  obtain ⟨hx, hb, -⟩ := C
  unfold am_step at hs
  dsimp only at hs
  split at hs
  · unfold am_go at hs
    split at hs
    · rename_i hg
      cases hs
      intro ad n H locs ls h1 h2 h3 h4 h5 h6 h7
      exact lv_ifnullN hx hb hd (am_tg_eq hg) (k ad n H locs ls h1 h2 h3 h4 h5 (am_vs_tl h6) h7)
    · cases hs
  · cases hs
    intro ad n H locs ls h1 h2 h3 h4 h5 h6 h7
    exact lv_ifnull hx hb hd (k ad n H locs ls h1 h2 h3 h4 h5 (am_vs_tl h6) h7)
  · cases hs
theorem am_G_ifnonnull {off : Int} {z : Nat × Nat × Int} (C : am_Cx M A rm I0 Fx D cA p s m args meth c) (hd : decode (am_cc M) pc = .ok (.ifnonnull off, 3)) (hs : am_step (.ifnonnull off) z pc als ast I R Q = some (.inl (pc', als', ast', I', R', Q'))) (k : am_G p l e Rm s m args below meth c D cA A rm I0 M n0 xg ad0 Qf pc' als' ast' I' R' Q') : am_G p l e Rm s m args below meth c D cA A rm I0 M n0 xg ad0 Qf pc als ast I R Q := by
  obtain ⟨hx, hb, -⟩ := C
  unfold am_step at hs
  dsimp only at hs
  split at hs
  · cases hs
    intro ad n H locs ls h1 h2 h3 h4 h5 h6 h7
    exact lv_ifnonnullN hx hb hd (k ad n H locs ls h1 h2 h3 h4 h5 (am_vs_tl h6) h7)
  · unfold am_go at hs
    split at hs
    · rename_i hg
      cases hs
      intro ad n H locs ls h1 h2 h3 h4 h5 h6 h7
      exact lv_ifnonnull hx hb hd (am_tg_eq hg) (k ad n H locs ls h1 h2 h3 h4 h5 (am_vs_tl h6) h7)
    · cases hs
  · cases hs
theorem am_G_tableswitch {d lo hi : Int} {offs : Array Int} {len : Nat} (C : am_Cx M A rm I0 Fx D cA p s m args meth c) (hd : decode (am_cc M) pc = .ok (.tableswitch d lo hi offs, len)) (hs : am_sw (am_tsw pc d lo hi offs) als ast I R Q = some (.inl (pc', als', ast', I', R', Q'))) (k : am_G p l e Rm s m args below meth c D cA A rm I0 M n0 xg ad0 Qf pc' als' ast' I' R' Q') : am_G p l e Rm s m args below meth c D cA A rm I0 M n0 xg ad0 Qf pc als ast I R Q := by
  obtain ⟨hx, hb, -⟩ := C
  unfold am_sw at hs
  split at hs
  · rename_i x st
    split at hs
    · rename_i t ht
      cases hs
      unfold am_tsw at ht
      intro ad n H locs ls h1 h2 h3 h4 h5 h6 h7
      split at ht
      · rename_i ho
        split at ht
        · rename_i hg
          cases ht
          exact lv_tableOut hx hb hd ho (am_tg_eq hg) (k ad n H locs ls h1 h2 h3 h4 h5 (am_vs_tl h6) h7)
        · cases ht
      · rename_i ho
        split at ht
        · rename_i off hof
          split at ht
          · rename_i hg
            cases ht
            exact lv_tableIn hx hb hd (fun q => ho (Or.inl q)) (fun q => ho (Or.inr q)) hof (am_tg_eq hg) (k ad n H locs ls h1 h2 h3 h4 h5 (am_vs_tl h6) h7)
          · cases ht
        · cases ht
    · cases hs
  · cases hs
theorem am_G_lookupswitch {d : Int} {ps : Array (Int × Int)} {len : Nat} (C : am_Cx M A rm I0 Fx D cA p s m args meth c) (hd : decode (am_cc M) pc = .ok (.lookupswitch d ps, len)) (hs : am_sw (am_lsw pc d ps) als ast I R Q = some (.inl (pc', als', ast', I', R', Q'))) (hz : (ps.toList.zip (ps.toList.drop 1)).all (fun (a, next) => a.1 < next.1) = true) (k : am_G p l e Rm s m args below meth c D cA A rm I0 M n0 xg ad0 Qf pc' als' ast' I' R' Q') : am_G p l e Rm s m args below meth c D cA A rm I0 M n0 xg ad0 Qf pc als ast I R Q := by
  obtain ⟨hx, hb, -⟩ := C
  unfold am_sw at hs
  split at hs
  · rename_i x st
    split at hs
    · rename_i t ht
      cases hs
      unfold am_lsw at ht
      intro ad n H locs ls h1 h2 h3 h4 h5 h6 h7
      split at ht
      · rename_i hg
        cases ht
        exact lv_lookup hx hb hd hz rfl (am_tg_eq hg) (k ad n H locs ls h1 h2 h3 h4 h5 (am_vs_tl h6) h7)
      · cases ht
    · cases hs
  · cases hs
theorem am_G_intS {idx kk : Nat} {z : Nat × Nat × Int} (C : am_Cx M A rm I0 Fx D cA p s m args meth c) (hd : decode (am_cc M) pc = .ok (.invokestatic idx, 3)) (hz : z.1 = kk) (hs : am_intr z.1 pc als ast I R Q = some (.inl (pc', als', ast', I', R', Q'))) (hw : (am_oc M, idx, z.1) ∈ am_ml2) (h6' : z.1 ≠ 1006) (hroom : ∀ n', R' 127 0 0 = some n' → n' - n0 + xg ≤ Rm.cells ∧ am_ss n' - am_ss n0 + 6 * xg ≤ Rm.slots) (hRm : 1 ≤ Rm.frames ∧ 40 ≤ Rm.locals) (k : am_G p l e Rm s m args below meth c D cA A rm I0 M n0 xg ad0 Qf pc' als' ast' I' R' Q') : am_G p l e Rm s m args below meth c D cA A rm I0 M n0 xg ad0 Qf pc als ast I R Q := by
  obtain ⟨hx, hb, hml, hown, hts, hr, hlk, hnm, hA, hK, hF⟩ := C
  have hlink := hts _ (am_ml2_in _ hw)
  rw [hz] at hs h6'
  unfold am_mlw at hlink
  dsimp only at hlink
  rw [hz] at hlink
  unfold am_intr at hs
  split at hs
  · rename_i hk
    subst hk
    split at hs
    · rename_i nn dp b sp a
      split at hs
      · rename_i hc
        obtain ⟨c1, c2, c3, c4, c5, c6, c7, c8, c9, c10⟩ := hc
        cases hs
        intro ad n H locs ls h1 h2 h3 h4 h5 h6 h7
        obtain ⟨q, hq, hqa⟩ := am_vo_of (am_vs_hd (am_vs_tl (am_vs_tl h6))) c3
        obtain ⟨w, hw2, hwa⟩ := am_vo_of (am_vs_hd (am_vs_tl (am_vs_tl (am_vs_tl (am_vs_tl h6))))) c4
        have h13 : ¬ b % 128 < 13 := fun q => by rw [am_at_13 _ q] at c2; omega
        refine va_copyi (own := am_on M) (f := I (a % 128) (a / 128)) (g := I (b % 128) (b / 128)) hx hb (by rw [hml]; exact h5.2.1.1.symm) hown hlink (hts _ (am_iw_at 13)) (hts _ (am_iw_at 12)) (hts _ (am_iw_at 11)) hK h4.2.2.2.2.1 h4.2.2.2.2.2.1 h7 w q 0 0 (am_arr_cell hw2 hwa c1 (by omega)) (am_arr_cell hq hqa c2 (by omega)) rfl rfl rfl (Int32.not_lt.mpr c5) (Int32.not_lt.mpr c6) (Int32.not_lt.mpr c7) c8 c9 (fun _ _ => rfl) hRm.1 (Nat.le_trans (Nat.le_of_ble_eq_true rfl : 0 + (nativeFrameWords "java/lang/System" "arraycopy" 5 + 11) ≤ 40) hRm.2) hd (fun H1 locs1 hP hD hS => ?_)
        refine k ad n H1 locs1 ls h1 h2 h3 (am_St_put h4 hq hqa c3 ?_ (fun x y hxy => am_sI_ne hxy) (fun _ _ _ => rfl) (fun _ _ _ => rfl) (fun j b2 hb2 => h4.2.2.1 q hq j b2 (by rw [hqa]; exact hb2)) hP hD) h5 (fun v hv => by cases hv) hS
        rw [am_cell_arr h13, c2, am_sI_eq]
        rfl
      · cases hs
    · cases hs
  · try rw [if_neg h6'] at hs
    split at hs
    · rename_i hk
      subst hk
      split at hs
      · rename_i x st
        split at hs
        · rename_i hl4
          cases hs
          intro ad n H locs ls h1 h2 h3 h4 h5 h6 h7
          have hrr := hroom n h4.2.1
          have hcs := am_cat_sum (ad := ad) hl4
          exact va_mabs (own := am_on M) hx hb (by rw [hml]; exact h5.2.1.1.symm) hown hlink (hts _ (am_iw_at 4)) (hts _ (am_iw_at 10)) (hts _ (am_iw_at 5)) hRm.1 (by omega) hrr.1 hrr.2 hd (k ad n H locs ls h1 h2 h3 h4 h5 (am_vs_cons am_vv_int (am_vs_tl h6)) h7)
        · cases hs
      · cases hs
    · split at hs
      · rename_i hk
        subst hk
        split at hs
        · rename_i y x st
          split at hs
          · rename_i hl4
            cases hs
            intro ad n H locs ls h1 h2 h3 h4 h5 h6 h7
            have hrr := hroom n h4.2.1
            have hcs := am_cat_sum (ad := ad) hl4
            exact va_mmax (own := am_on M) hx hb (by rw [hml]; exact h5.2.1.1.symm) hown hlink (hts _ (am_iw_at 0)) (hts _ (am_iw_at 10)) (hts _ (am_iw_at 1)) hRm.1 (by omega) hrr.1 hrr.2 hd (k ad n H locs ls h1 h2 h3 h4 h5 (am_vs_cons am_vv_int (am_vs_tl (am_vs_tl h6))) h7)
          · cases hs
        · cases hs
      · split at hs
        · rename_i hk
          subst hk
          split at hs
          · rename_i y x st
            split at hs
            · rename_i hl4
              cases hs
              intro ad n H locs ls h1 h2 h3 h4 h5 h6 h7
              have hrr := hroom n h4.2.1
              have hcs := am_cat_sum (ad := ad) hl4
              exact va_mmin (own := am_on M) hx hb (by rw [hml]; exact h5.2.1.1.symm) hown hlink (hts _ (am_iw_at 2)) (hts _ (am_iw_at 10)) (hts _ (am_iw_at 3)) hRm.1 (by omega) hrr.1 hrr.2 hd (k ad n H locs ls h1 h2 h3 h4 h5 (am_vs_cons am_vv_int (am_vs_tl (am_vs_tl h6))) h7)
            · cases hs
          · cases hs
        · split at hs
          · rename_i hk
            subst hk
            split at hs
            · rename_i y x st
              split at hs
              · rename_i hl4
                cases hs
                intro ad n H locs ls h1 h2 h3 h4 h5 h6 h7
                have hrr := hroom n h4.2.1
                have hcs := am_cat_sum (ad := ad) hl4
                exact va_mmax_long (own := am_on M) hx hb (by rw [hml]; exact h5.2.1.1.symm) hown hlink (hts _ (am_iw_at 6)) (hts _ (am_iw_at 10)) (hts _ (am_iw_at 7)) hRm.1 (by omega) hrr.1 hrr.2 hd (k ad n H locs ls h1 h2 h3 h4 h5 (am_vs_cons am_vv_long (am_vs_tl (am_vs_tl h6))) h7)
              · cases hs
            · cases hs
          · split at hs
            · rename_i hk
              subst hk
              split at hs
              · rename_i y x st
                split at hs
                · rename_i hl4
                  cases hs
                  intro ad n H locs ls h1 h2 h3 h4 h5 h6 h7
                  have hrr := hroom n h4.2.1
                  have hcs := am_cat_sum (ad := ad) hl4
                  exact va_mmin_long (own := am_on M) hx hb (by rw [hml]; exact h5.2.1.1.symm) hown hlink (hts _ (am_iw_at 8)) (hts _ (am_iw_at 10)) (hts _ (am_iw_at 9)) hRm.1 (by omega) hrr.1 hrr.2 hd (k ad n H locs ls h1 h2 h3 h4 h5 (am_vs_cons am_vv_long (am_vs_tl (am_vs_tl h6))) h7)
                · cases hs
              · cases hs
            · cases hs
theorem am_G_objInit {idx : Nat} {z : Nat × Nat × Int} (C : am_Cx M A rm I0 Fx D cA p s m args meth c) (hd : decode (am_cc M) pc = .ok (.invokespecial idx, 3)) (hz : z.1 = 1006) (hs : am_intr z.1 pc als ast I R Q = some (.inl (pc', als', ast', I', R', Q'))) (hw : (am_oc M, idx, z.1) ∈ am_ml2) (hRm : 1 ≤ Rm.frames ∧ 40 ≤ Rm.locals) (k : am_G p l e Rm s m args below meth c D cA A rm I0 M n0 xg ad0 Qf pc' als' ast' I' R' Q') : am_G p l e Rm s m args below meth c D cA A rm I0 M n0 xg ad0 Qf pc als ast I R Q := by
  obtain ⟨hx, hb, hml, hown, hts, hr, hlk, hnm, hA, hK, hF⟩ := C
  have hlink := hts _ (am_ml2_in _ hw)
  rw [hz] at hs
  unfold am_mlw at hlink
  dsimp only at hlink
  rw [hz] at hlink
  unfold am_intr at hs
  rw [if_neg (by decide), if_pos rfl] at hs
  split at hs
  · rename_i a
    cases hs
    intro ad n H locs ls h1 h2 h3 h4 h5 h6 h7
    refine W.objInit (own := am_on M) hx hb hown hlink (hts _ (am_iw_at 14)) (hts _ (am_iw_at 15)) rfl (by rw [hml]; exact h5.2.1.1) rfl hd hRm.1 (Nat.le_trans (Nat.le_of_ble_eq_true rfl : 2 * (F0 m pc ls [.ref (ad a)]).monitorRoom + (([] : List Value).map fun v => v.category).sum + 12 ≤ 40) hRm.2) ?_
    exact k ad n H locs ls h1 h2 h3 h4 h5 (fun v hv => by cases hv) h7
  · cases hs
end
