/-! Steps that look at the heap, or change it. -/
theorem am_rl_kd : ∀ a ∈ am_rl, 100 ≤ a % 128 := by decide +kernel
theorem am_vo_of {n a : Nat} (h : am_vv n (.ref a)) (hk : a % 128 < 100) : am_vo n a := by
  rcases h.1 a rfl with q | q
  · exact q
  · have := am_rl_kd a q
    omega
theorem am_lt100 {a c : Nat} (h1 : a % 128 = c) (h2 : c < 13) : a % 128 < 100 := by omega
theorem am_flds_len {ad : Nat → Nat} {c : Nat} {f : Nat → Int32} {r : Nat → Option Nat} {q : Nat → Int64} : (am_flds ad c f r q).length = am_nf.getD c 0 := by simp [am_flds]
theorem am_flds_get {ad : Nat → Nat} {c j : Nat} {f : Nat → Int32} {r : Nat → Option Nat} {q : Nat → Int64} (h : j < am_nf.getD c 0) : (am_flds ad c f r q)[j]? = some (am_fv ad (am_ft c j) (f j) (r j) (q j)) := by
  unfold am_flds
  rw [List.getElem?_map, List.getElem?_range h]
  rfl
theorem am_flds_set {ad : Nat → Nat} {c j : Nat} {f f' : Nat → Int32} {r r' : Nat → Option Nat} {q q' : Nat → Int64} (h : j < am_nf.getD c 0) (hf : ∀ i, i ≠ j → f' i = f i) (hr : ∀ i, i ≠ j → r' i = r i) (hq : ∀ i, i ≠ j → q' i = q i) : (am_flds ad c f r q).set j (am_fv ad (am_ft c j) (f' j) (r' j) (q' j)) = am_flds ad c f' r' q' := by
  apply List.ext_getElem?
  intro i
  by_cases e : i = j
  · subst e
    rw [List.getElem?_set_self (by rw [am_flds_len]; exact h), am_flds_get h]
  · rw [List.getElem?_set_ne (Ne.symm e)]
    by_cases hi : i < am_nf.getD c 0
    · rw [am_flds_get hi, am_flds_get hi, hf i e, hr i e, hq i e]
    · rw [List.getElem?_eq_none (by rw [am_flds_len]; omega), List.getElem?_eq_none (by rw [am_flds_len]; omega)]
theorem am_uI_ne {f : Nat → Int32} {j i : Nat} {x : Int32} (h : i ≠ j) : am_uI f j x i = f i := if_neg h
theorem am_uR_ne {f : Nat → Option Nat} {j i : Nat} {x : Option Nat} (h : i ≠ j) : am_uR f j x i = f i := if_neg h
theorem am_uQ_ne {f : Nat → Int64} {j i : Nat} {x : Int64} (h : i ≠ j) : am_uQ f j x i = f i := if_neg h
theorem am_uI_eq {f : Nat → Int32} {j : Nat} {x : Int32} : am_uI f j x j = x := if_pos rfl
theorem am_uR_eq {f : Nat → Option Nat} {j : Nat} {x : Option Nat} : am_uR f j x j = x := if_pos rfl
theorem am_uQ_eq {f : Nat → Int64} {j : Nat} {x : Int64} : am_uQ f j x j = x := if_pos rfl
theorem am_sI_eq {I : am_I} {a b : Nat} {f : Nat → Int32} : am_sI I a b f a b = f := if_pos ⟨rfl, rfl⟩
theorem am_sR_eq {I : am_R} {a b : Nat} {f : Nat → Option Nat} : am_sR I a b f a b = f := if_pos ⟨rfl, rfl⟩
theorem am_sQ_eq {I : am_Q} {a b : Nat} {f : Nat → Int64} : am_sQ I a b f a b = f := if_pos ⟨rfl, rfl⟩
theorem am_sI_ne {I : am_I} {a b x y : Nat} {f : Nat → Int32} (h : ¬ (x = a ∧ y = b)) : am_sI I a b f x y = I x y := if_neg h
theorem am_sR_ne {I : am_R} {a b x y : Nat} {f : Nat → Option Nat} (h : ¬ (x = a ∧ y = b)) : am_sR I a b f x y = I x y := if_neg h
theorem am_sQ_ne {I : am_Q} {a b x y : Nat} {f : Nat → Int64} (h : ¬ (x = a ∧ y = b)) : am_sQ I a b f x y = I x y := if_neg h
theorem am_b01_fits {x : Int32} (h : vp_nar .boolean x = x) : narrow .boolean (.int x) = .int x ∧ fits .boolean (.int x) = true := by
  have h1 : x &&& 1 = x := h
  refine ⟨by show Value.int (x &&& 1) = _; rw [h1], ?_⟩
  have h2 : x = nI (x.toBitVec.toNat % 2 ^ 1) := h1.symm.trans (pk_and x (m := 1) 1 rfl)
  have h3 : x.toBitVec.toNat % 2 ^ 1 = 0 ∨ x.toBitVec.toNat % 2 ^ 1 = 1 := by omega
  rcases h3 with q | q <;> rw [q] at h2 <;> rw [h2] <;> rfl
theorem am_ref_fits {t : FieldType} (h : am_isRT t = true) {r : Option Nat} : narrow t (va_rf r) = va_rf r ∧ fits t (va_rf r) = true := by
  cases t <;> first | (cases h; done) | (cases r <;> exact ⟨rfl, rfl⟩)
section
variable {p : Program} {l : Launch} {e : Env} {Rm : Room} {s : State} {m : MethodId} {args : Array Value} {below : List Frame} {meth : Method} {c : Code} {D : va_G} {cA : Nat → Nat} {A : Nat → Prop} {rm : Nat → Nat} {I0 : am_I} {M n0 xg : Nat} {ad0 : Nat → Nat} {Qf : State → Prop} {Fx : State → Prop}
variable {pc : Nat} {als ast : List Value} {I : am_I} {R : am_R} {Q : am_Q} {pc' : Nat} {als' ast' : List Value} {I' : am_I} {R' : am_R} {Q' : am_Q}
theorem am_cell_obj {ad : Nat → Nat} {a ci : Nat} (h : a % 128 = ci) (hc : ci < 13) : am_cell cA ad I R Q a = .inr (ci, am_flds ad ci (I ci (a / 128)) (R ci (a / 128)) (Q ci (a / 128))) := by
  unfold am_cell
  rw [h, if_pos hc]
theorem am_cell_arr {ad : Nat → Nat} {a : Nat} (h : ¬ a % 128 < 13) : am_cell cA ad I R Q a = .inl (cA (am_at (a % 128)), am_len (a % 128), am_pay (am_at (a % 128)) ad (I (a % 128) (a / 128)) (R (a % 128) (a / 128)) (Q (a % 128) (a / 128))) := by
  unfold am_cell
  rw [if_neg h]
theorem am_G_getfield {idx : Nat} {z : Nat × Nat × Int} (C : am_Cx M A rm I0 Fx D cA p s m args meth c) (hd : decode (am_cc M) pc = .ok (.getfield idx, 3)) (hs : am_getf z (pc + 3) als ast I R Q = some (.inl (pc', als', ast', I', R', Q'))) (hz : (am_oc M, idx, z.1, z.2.1) ∈ am_fl ∧ z.2.1 < am_nf.getD z.1 0 ∧ z.2.2 = (am_ft z.1 z.2.1 : Int)) (k : am_G p l e Rm s m args below meth c D cA A rm I0 M n0 xg ad0 Qf pc' als' ast' I' R' Q') : am_G p l e Rm s m args below meth c D cA A rm I0 M n0 xg ad0 Qf pc als ast I R Q := by
  obtain ⟨hx, hb, hml, hown, hts, hr, hlk, hnm, hA, hK, hF⟩ := C
  unfold am_getf at hs
  split at hs
  · rename_i a st
    split at hs
    · rename_i hc
      obtain ⟨hc1, hc2⟩ := hc
      have hw := hts _ (am_fl_in _ hz.1)
      intro ad n H locs ls h1 h2 h3 h4 h5 h6 h7
      obtain ⟨i, hi, hia⟩ := am_vo_of (am_vs_hd h6) (am_lt100 hc1 hc2)
      have hcell : (am_wd cA ad I R Q n)[i]? = some (ad a, .inr (z.1, am_flds ad z.1 (I z.1 (a / 128)) (R z.1 (a / 128)) (Q z.1 (a / 128)))) := by
        rw [am_wd_get hi, hia, am_cell_obj hc1 hc2]
      refine va_get (own := am_on M) (ref := am_RX z.1) (C := am_RX z.1) (T := am_TX z.1) (N := am_nf.getD z.1 0) hx hb hts (am_uin _ hc2) hown hK h4.2.2.2.2.1 i hcell (am_cl_at _ hc2) z.2.1 hz.2.1 hw (fun x hx => by rw [am_TX_own _ hc2 _ hz.2.1] at hx; exact hx) (am_flds_get hz.2.1) hd ?_
      split at hs
      · rename_i ht
        cases hs
        have e1 : am_ft z.1 z.2.1 = 1 := by omega
        have e2 : am_fv ad (am_ft z.1 z.2.1) (I z.1 (a / 128) z.2.1) (R z.1 (a / 128) z.2.1) (Q z.1 (a / 128) z.2.1) = am_tv ad (va_rf (R z.1 (a / 128) z.2.1)) := by
          unfold am_fv
          rw [if_pos e1, am_tv_rf]
        rw [e2]
        exact k ad n H locs ls h1 h2 h3 h4 h5 (am_vs_cons (am_vv_rf (fun b hb2 => h4.2.2.1 i hi z.2.1 b (by rw [hia, hc1]; exact hb2))) (am_vs_tl h6)) h7
      · rename_i ht
        split at hs
        · rename_i ht2
          cases hs
          have e1 : am_ft z.1 z.2.1 = 2 := by omega
          have e2 : am_fv ad (am_ft z.1 z.2.1) (I z.1 (a / 128) z.2.1) (R z.1 (a / 128) z.2.1) (Q z.1 (a / 128) z.2.1) = .long (Q z.1 (a / 128) z.2.1) := by
            unfold am_fv
            rw [if_neg (by omega), if_pos e1]
          rw [e2]
          exact k ad n H locs ls h1 h2 h3 h4 h5 (am_vs_cons am_vv_long (am_vs_tl h6)) h7
        · rename_i ht2
          cases hs
          have e2 : am_fv ad (am_ft z.1 z.2.1) (I z.1 (a / 128) z.2.1) (R z.1 (a / 128) z.2.1) (Q z.1 (a / 128) z.2.1) = .int (I z.1 (a / 128) z.2.1) := by
            unfold am_fv
            rw [if_neg (by omega), if_neg (by omega)]
          rw [e2]
          exact k ad n H locs ls h1 h2 h3 h4 h5 (am_vs_cons am_vv_int (am_vs_tl h6)) h7
    · cases hs
  · cases hs
/-- a field is written -/
theorem am_put_any {idx ci j a i n : Nat} {ad : Nat → Nat} {H : Heap} {locs : List Loc} {ls : Array Slot} {st : List Value} {v : Value} {cells slots : Nat} (C : am_Cx M A rm I0 Fx D cA p s m args meth c) (hd : decode (am_cc M) pc = .ok (.putfield idx, 3)) (hc1 : a % 128 = ci) (hc2 : ci < 13) (hz : (am_oc M, idx, ci, j) ∈ am_fl ∧ j < am_nf.getD ci 0) (hfn : (am_TX ci j).2.2.2 = true → am_oc M = ci ∧ (am_yy M).name = "<init>") (hn : narrow (am_TY ci j) v = v) (hfit : fits (am_TY ci j) v = true) (hi : i < n) (hia : am_ord i = a) (h4 : am_St D cA A ad n I0 I R Q H) (h7 : va_S A s.heap H locs)
    (kk : ∀ (H1 : Heap) (locs1 : List Loc), va_P D vwCl ((am_wd cA ad I R Q n).set i (ad a, .inr (ci, (am_flds ad ci (I ci (a / 128)) (R ci (a / 128)) (Q ci (a / 128))).set j v))) H1 → va_D A ((am_wd cA ad I R Q n).set i (ad a, .inr (ci, (am_flds ad ci (I ci (a / 128)) (R ci (a / 128)) (Q ci (a / 128))).set j v))) → va_S A s.heap H1 locs1 → W p l e Rm s m args below meth c H1 locs1 cells slots Qf (F0 m (pc + 3) ls st)) : W p l e Rm s m args below meth c H locs cells slots Qf (F0 m pc ls (v :: .ref (ad a) :: st)) := by
  obtain ⟨hx, hb, hml, hown, hts, hr, hlk, hnm, hA, hK, hF⟩ := C
  have hw := hts _ (am_fl_in _ hz.1)
  have hcell : (am_wd cA ad I R Q n)[i]? = some (ad a, .inr (ci, am_flds ad ci (I ci (a / 128)) (R ci (a / 128)) (Q ci (a / 128)))) := by
    rw [am_wd_get hi, hia, am_cell_obj hc1 hc2]
  cases hf : (am_TX ci j).2.2.2 with
  | false => exact va_put (own := am_on M) (ref := am_RX ci) (C := am_RX ci) (T := am_TX ci) (N := am_nf.getD ci 0) hx hb hts (am_uin _ hc2) (am_TY ci) (am_ty_ok _ hc2) (am_nm _ hc2) hown hK h4.2.2.2.2.1 h4.2.2.2.2.2.1 h7 i hcell (am_cl_at _ hc2) j hz.2 hw (fun x hx => by rw [am_TX_own _ hc2 _ hz.2] at hx; exact hx) hf (am_ty_ok _ hc2 _ hz.2) hn hfit (by rw [am_flds_len]; exact hz.2) hd kk
  | true =>
    obtain ⟨q1, q2⟩ := hfn hf
    exact va_putF (own := am_on M) (ref := am_RX ci) (C := am_RX ci) (T := am_TX ci) (N := am_nf.getD ci 0) hx hb hts (am_uin _ hc2) (am_TY ci) (am_ty_ok _ hc2) (am_nm _ hc2) hown hK h4.2.2.2.2.1 h4.2.2.2.2.2.1 h7 i hcell (am_cl_at _ hc2) j hz.2 hw (fun x hx => by rw [am_TX_own _ hc2 _ hz.2] at hx; exact hx) hf (hnm.trans q2) (by rw [am_TX_own _ hc2 _ hz.2, ← q1]; rfl) (am_ty_ok _ hc2 _ hz.2) hn hfit (by rw [am_flds_len]; exact hz.2) hd kk
/-- the picture behind a write to one cell -/
theorem am_St_put {ad : Nat → Nat} {n i a : Nat} {H H1 : Heap} {ce : va_E} (h4 : am_St D cA A ad n I0 I R Q H) (hi : i < n) (hia : am_ord i = a) (hkd : a % 128 < 100) (hce : am_cell cA ad I' R' Q' a = ce) (hI : ∀ x y, ¬ (x = a % 128 ∧ y = a / 128) → I' x y = I x y) (hR : ∀ x y, ¬ (x = a % 128 ∧ y = a / 128) → R' x y = R x y) (hQ : ∀ x y, ¬ (x = a % 128 ∧ y = a / 128) → Q' x y = Q x y) (hv : ∀ j b, R' (a % 128) (a / 128) j = some b → am_va n b) (hP : va_P D vwCl ((am_wd cA ad I R Q n).set i (ad a, ce)) H1) (hD : va_D A ((am_wd cA ad I R Q n).set i (ad a, ce))) : am_St D cA A ad n I0 I' R' Q' H1 := by
  obtain ⟨g1, g2, g3, g4, g5, g6, g7⟩ := h4
  have e : (am_wd cA ad I R Q n).set i (ad a, ce) = am_wd cA ad I' R' Q' n := by
    rw [← hce, ← hia]
    refine am_wd_set fun j hj hne => ?_
    have hab : am_ord j ≠ a := fun q => hne (am_ord_inj (by omega) (by omega) (q.trans hia.symm))
    exact am_cell_congr (hI _ _ (am_ne_kd hab)) (hR _ _ (am_ne_kd hab)) (hQ _ _ (am_ne_kd hab))
  rw [e] at hP hD
  refine ⟨g1, by rw [hR 127 0 (by omega)]; exact g2, ?_, ?_, hP, hD, ?_⟩
  · intro j hj x b hb
    by_cases hab : am_ord j = a
    · rw [hab] at hb
      exact hv x b hb
    · rw [hR _ _ (am_ne_kd hab)] at hb
      exact g3 j hj x b hb
  · intro x y j hx
    rw [hI x y (by omega)]
    exact g4 x y j hx
  · intro j hj hj2 x
    rw [hR _ _ (am_ne_kd (fun q => by have := am_ord_inj hj2 (by omega) (q.trans hia.symm); omega))]
    exact g7 j hj hj2 x
theorem am_G_putfield {idx : Nat} {z : Nat × Nat × Int} (C : am_Cx M A rm I0 Fx D cA p s m args meth c) (hd : decode (am_cc M) pc = .ok (.putfield idx, 3)) (hs : am_putf z (pc + 3) als ast I R Q = some (.inl (pc', als', ast', I', R', Q'))) (hz : (am_oc M, idx, z.1, z.2.1) ∈ am_fl ∧ z.2.1 < am_nf.getD z.1 0 ∧ z.2.2 = (am_ft z.1 z.2.1 : Int)) (hfn : (am_TX z.1 z.2.1).2.2.2 = true → am_oc M = z.1 ∧ (am_yy M).name = "<init>") (k : am_G p l e Rm s m args below meth c D cA A rm I0 M n0 xg ad0 Qf pc' als' ast' I' R' Q') : am_G p l e Rm s m args below meth c D cA A rm I0 M n0 xg ad0 Qf pc als ast I R Q := by
  unfold am_putf at hs
  split at hs
  · rename_i v a st
    split at hs
    · rename_i hc
      obtain ⟨hc1, hc2⟩ := hc
      have hft := am_ft_ok _ hc2 _ hz.2.1
      intro ad n H locs ls h1 h2 h3 h4 h5 h6 h7
      obtain ⟨i, hi, hia⟩ := am_vo_of (am_vs_hd (am_vs_tl h6)) (am_lt100 hc1 hc2)
      have hRv : ∀ j b, R (a % 128) (a / 128) j = some b → am_va n b := fun j b hb => h4.2.2.1 i hi j b (by rw [hia]; exact hb)
      split at hs
      · rename_i x
        split at hs
        · rename_i ht
          cases hs
          have hty : narrow (am_TY z.1 z.2.1) (.int x) = .int x ∧ fits (am_TY z.1 z.2.1) (.int x) = true := by
            rcases ht with ht | ⟨ht, hb01⟩
            · rcases hft with ⟨q1, q2⟩ | ⟨q1, q2⟩ | ⟨q1, q2⟩ | ⟨q1, q2⟩ <;> first | omega | (rw [q2]; exact ⟨rfl, rfl⟩)
            · rcases hft with ⟨q1, q2⟩ | ⟨q1, q2⟩ | ⟨q1, q2⟩ | ⟨q1, q2⟩ <;> first | omega | (rw [q2]; exact am_b01_fits hb01)
          have hne : ¬ am_ft z.1 z.2.1 = 1 ∧ ¬ am_ft z.1 z.2.1 = 2 := by omega
          refine am_put_any C hd hc1 hc2 ⟨hz.1, hz.2.1⟩ hfn hty.1 hty.2 hi hia h4 h7 (fun H1 locs1 hP hD hS => ?_)
          refine k ad n H1 locs1 ls h1 h2 h3 (am_St_put h4 hi hia (am_lt100 hc1 hc2) (ce := .inr (z.1, (am_flds ad z.1 (I z.1 (a / 128)) (R z.1 (a / 128)) (Q z.1 (a / 128))).set z.2.1 (.int x))) ?_ (fun x y hxy => am_sI_ne (by rw [← hc1]; exact hxy)) (fun _ _ _ => rfl) (fun _ _ _ => rfl) hRv hP hD) h5 (am_vs_tl (am_vs_tl h6)) hS
          rw [am_cell_obj hc1 hc2, am_sI_eq]
          have e1 := am_flds_set (ad := ad) (f := I z.1 (a / 128)) (f' := am_uI (I z.1 (a / 128)) z.2.1 x) (r := R z.1 (a / 128)) (r' := R z.1 (a / 128)) (q := Q z.1 (a / 128)) (q' := Q z.1 (a / 128)) hz.2.1 (fun _ h => am_uI_ne h) (fun _ _ => rfl) (fun _ _ => rfl)
          rw [← e1, am_uI_eq]
          unfold am_fv
          rw [if_neg hne.1, if_neg hne.2]
        · cases hs
      · rename_i b
        split at hs
        · rename_i ht
          cases hs
          have e0 : am_ft z.1 z.2.1 = 1 := by omega
          have hty : narrow (am_TY z.1 z.2.1) (va_rf (some (ad b))) = va_rf (some (ad b)) ∧ fits (am_TY z.1 z.2.1) (va_rf (some (ad b))) = true := by
            rcases hft with ⟨q1, q2⟩ | ⟨q1, q2⟩ | ⟨q1, q2⟩ | ⟨q1, q2⟩ <;> first | omega | exact am_ref_fits q2
          have hbv : am_va n b := (am_vs_hd h6).1 b rfl
          refine am_put_any C hd hc1 hc2 ⟨hz.1, hz.2.1⟩ hfn hty.1 hty.2 hi hia h4 h7 (fun H1 locs1 hP hD hS => ?_)
          refine k ad n H1 locs1 ls h1 h2 h3 (am_St_put h4 hi hia (am_lt100 hc1 hc2) (ce := .inr (z.1, (am_flds ad z.1 (I z.1 (a / 128)) (R z.1 (a / 128)) (Q z.1 (a / 128))).set z.2.1 (va_rf (some (ad b))))) ?_ (fun _ _ _ => rfl) (fun x y hxy => am_sR_ne (by rw [← hc1]; exact hxy)) (fun _ _ _ => rfl) ?_ hP hD) h5 (am_vs_tl (am_vs_tl h6)) hS
          · rw [am_cell_obj hc1 hc2, am_sR_eq]
            have e1 := am_flds_set (ad := ad) (f := I z.1 (a / 128)) (f' := I z.1 (a / 128)) (r := R z.1 (a / 128)) (r' := am_uR (R z.1 (a / 128)) z.2.1 (some b)) (q := Q z.1 (a / 128)) (q' := Q z.1 (a / 128)) hz.2.1 (fun _ _ => rfl) (fun _ h => am_uR_ne h) (fun _ _ => rfl)
            rw [← e1, am_uR_eq]
            unfold am_fv
            rw [if_pos e0]
            rfl
          · intro j b2 hb2
            rw [hc1, am_sR_eq] at hb2
            unfold am_uR at hb2
            split at hb2
            · cases hb2; exact hbv
            · exact hRv j b2 (by rw [hc1]; exact hb2)
        · cases hs
      · split at hs
        · rename_i ht
          cases hs
          have e0 : am_ft z.1 z.2.1 = 1 := by omega
          have hty : narrow (am_TY z.1 z.2.1) (va_rf none) = va_rf none ∧ fits (am_TY z.1 z.2.1) (va_rf none) = true := by
            rcases hft with ⟨q1, q2⟩ | ⟨q1, q2⟩ | ⟨q1, q2⟩ | ⟨q1, q2⟩ <;> first | omega | exact am_ref_fits q2
          refine am_put_any C hd hc1 hc2 ⟨hz.1, hz.2.1⟩ hfn hty.1 hty.2 hi hia h4 h7 (fun H1 locs1 hP hD hS => ?_)
          refine k ad n H1 locs1 ls h1 h2 h3 (am_St_put h4 hi hia (am_lt100 hc1 hc2) (ce := .inr (z.1, (am_flds ad z.1 (I z.1 (a / 128)) (R z.1 (a / 128)) (Q z.1 (a / 128))).set z.2.1 (va_rf none))) ?_ (fun _ _ _ => rfl) (fun x y hxy => am_sR_ne (by rw [← hc1]; exact hxy)) (fun _ _ _ => rfl) ?_ hP hD) h5 (am_vs_tl (am_vs_tl h6)) hS
          · rw [am_cell_obj hc1 hc2, am_sR_eq]
            have e1 := am_flds_set (ad := ad) (f := I z.1 (a / 128)) (f' := I z.1 (a / 128)) (r := R z.1 (a / 128)) (r' := am_uR (R z.1 (a / 128)) z.2.1 none) (q := Q z.1 (a / 128)) (q' := Q z.1 (a / 128)) hz.2.1 (fun _ _ => rfl) (fun _ h => am_uR_ne h) (fun _ _ => rfl)
            rw [← e1, am_uR_eq]
            unfold am_fv
            rw [if_pos e0]
            rfl
          · intro j b2 hb2
            rw [hc1, am_sR_eq] at hb2
            unfold am_uR at hb2
            split at hb2
            · cases hb2
            · exact hRv j b2 (by rw [hc1]; exact hb2)
        · cases hs
      · rename_i x
        split at hs
        · rename_i ht
          cases hs
          have e0 : am_ft z.1 z.2.1 = 2 := by omega
          have hty : narrow (am_TY z.1 z.2.1) (.long x) = .long x ∧ fits (am_TY z.1 z.2.1) (.long x) = true := by
            rcases hft with ⟨q1, q2⟩ | ⟨q1, q2⟩ | ⟨q1, q2⟩ | ⟨q1, q2⟩ <;> first | omega | (rw [q2]; exact ⟨rfl, rfl⟩)
          refine am_put_any C hd hc1 hc2 ⟨hz.1, hz.2.1⟩ hfn hty.1 hty.2 hi hia h4 h7 (fun H1 locs1 hP hD hS => ?_)
          refine k ad n H1 locs1 ls h1 h2 h3 (am_St_put h4 hi hia (am_lt100 hc1 hc2) (ce := .inr (z.1, (am_flds ad z.1 (I z.1 (a / 128)) (R z.1 (a / 128)) (Q z.1 (a / 128))).set z.2.1 (.long x))) ?_ (fun _ _ _ => rfl) (fun _ _ _ => rfl) (fun x y hxy => am_sQ_ne (by rw [← hc1]; exact hxy)) hRv hP hD) h5 (am_vs_tl (am_vs_tl h6)) hS
          rw [am_cell_obj hc1 hc2, am_sQ_eq]
          have e1 := am_flds_set (ad := ad) (f := I z.1 (a / 128)) (f' := I z.1 (a / 128)) (r := R z.1 (a / 128)) (r' := R z.1 (a / 128)) (q := Q z.1 (a / 128)) (q' := am_uQ (Q z.1 (a / 128)) z.2.1 x) hz.2.1 (fun _ _ => rfl) (fun _ _ => rfl) (fun _ h => am_uQ_ne h)
          rw [← e1, am_uQ_eq]
          unfold am_fv
          rw [if_neg (by omega), if_pos e0]
        · cases hs
      · cases hs
    · cases hs
  · cases hs
end
