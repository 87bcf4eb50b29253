/-! The calls beyond the machine's own methods. -/
section
variable {p : Program} {l : Launch} {e : Env} {Rm : Room} {s : State} {m : MethodId} {args : Array Value} {below : List Frame} {meth : Method} {c : Code} {D : va_G} {cA : Nat → Nat} {A : Nat → Prop} {rm : Nat → Nat} {I0 : am_I} {M n0 xg : Nat} {ad0 : Nat → Nat} {Qf : State → Prop} {Fx : State → Prop}
variable {pc : Nat} {als ast : List Value} {I : am_I} {R : am_R} {Q : am_Q} {pc' : Nat} {als' ast' : List Value} {I' : am_I} {R' : am_R} {Q' : am_Q}
theorem am_call_gx {g : Nat} {H : Heap} {locs : List Loc} {ls : Array Slot} {n n1 : Nat} {ad : Nat → Nat} {st0 rest : List Value} {a : Array Value} {r1 : Option Value} {I1 : am_I} {R1 : am_R} {Q1 : am_Q} (hn1 : R1 127 0 0 = some n1) (hnn : n ≤ n1) (h1 : ∀ a, am_vo n0 a → ad a = ad0 a) (h2 : ∀ a ∈ am_rl, ad a = rm a) (h3 : n0 ≤ n) (h5 : am_Ls ad n (am_ml M) (am_lg M) als ls) (h6 : ∀ v ∈ rest, am_vv n v) (h7 : va_S A s.heap H locs) (hr : va_Run p l e Rm s m args below meth c H locs (n - n0 + xg) (am_ss n - am_ss n0 + 6 * xg) (n1 - n + g) (am_ss n1 - am_ss n + 6 * g) (F0 m pc ls st0) (rest.map (am_tv ad)) (am_Qc D cA A I0 ad n r1 I1 R1 Q1 a) A)
    (k : am_G p l e Rm s m args below meth c D cA A rm I0 M n0 (xg + g) ad0 Qf (pc + 3) als (r1.toList ++ rest) I1 R1 Q1) : W p l e Rm s m args below meth c H locs (n - n0 + xg) (am_ss n - am_ss n0 + 6 * xg) Qf (F0 m pc ls st0) := by
  refine am_behind hr h7 (fun ad1 n2 H1 locs1 q1 q2 q3 q4 hS => ?_)
  have hn2 : n2 = n1 := by have := q3.2.1; rw [hn1] at this; cases this; rfl
  subst hn2
  have key := k ad1 n2 H1 locs1 ls (fun x hx => by rw [← h1 x hx]; exact q1 x (Or.inl (am_vo_mono h3 hx))) (fun x hx => by rw [← h2 x hx]; exact q1 x (Or.inr hx)) (by omega) q3 (am_Ls_agree q1 hnn h5) (fun v hv => by
    rcases List.mem_append.mp hv with q | q
    · cases r1 with
      | none => cases q
      | some w => rcases List.mem_cons.mp q with q | q
                  · subst q; exact q4 _ rfl
                  · cases q
    · exact am_vv_mono hnn (h6 v q)) hS
  have e1 : (r1.toList ++ rest).map (am_tv ad1) = (r1.map (am_tv ad1)).toList ++ rest.map (am_tv ad) := by
    rw [List.map_append]
    congr 1
    · cases r1 <;> rfl
    · exact List.map_congr_left fun v hv => am_tv_agree q1 (h6 v hv)
  have m1 := am_ss_mono h3
  have m2 := am_ss_mono hnn
  rw [e1] at key
  rw [show n - n0 + xg + (n2 - n + g) = n2 - n0 + (xg + g) by omega, show am_ss n - am_ss n0 + 6 * xg + (am_ss n2 - am_ss n + 6 * g) = am_ss n2 - am_ss n0 + 6 * (xg + g) by omega]
  exact key
end
set_option maxRecDepth 100000 in
theorem am_hR2 {d f L : Nat} (h : 2 * (d + 1) + 6 ≤ f ∧ 80 * (d + 1 + 5) ≤ L) : 2 * d + 7 + 1 ≤ f ∧ 8 + (5 + 11) + (80 * (d + 5) + 40) ≤ L := by
  obtain ⟨h1, h2⟩ := h
  have e1 : 80 * (d + 1 + 5) = 80 * d + 480 := by rw [Nat.add_assoc, Nat.mul_add]
  have e2 : 80 * (d + 5) = 80 * d + 400 := by rw [Nat.mul_add]
  rw [e1] at h2
  rw [e2]
  generalize 80 * d = w at h2 ⊢
  refine ⟨by omega, ?_⟩
  rw [Nat.add_assoc w 400 40, Nat.add_left_comm]
  exact Nat.le_trans (Nat.add_le_add_left (Nat.le_of_ble_eq_true rfl) w) h2
theorem am_good1 {ws : List Cond} (h : ∀ w ∈ ws, w ∈ am_ws) : GoodIn am_ws ws := fun w hw => am_goodIn (h w hw) w List.mem_cons_self
theorem am_cl_950 {f : Nat → List Value → am_I → am_R → am_Q → Option am_X} {M : Nat} {vs : List Value} {I : am_I} {R : am_R} {Q : am_Q} {r1 : Option Value} {I1 : am_I} {R1 : am_R} {Q1 : am_Q} (hM : M = 950) (h : am_cl f M vs I R Q = some (r1, I1, R1, Q1)) : ∃ (a : Nat) (x y : Int32), vs = [.ref a, .int x, .int y, .ref (am_mk 72 0)] ∧ a % 128 = 11 ∧ ((∃ (v : Int32) (Q' : am_Q), f am_spot [.ref a, .int x, .int y] I R Q = some (some (.int v), I1, R1, Q') ∧ r1 = some (.int 0) ∧ Q1 = am_sQ Q' 72 0 (am_uQ (Q' 72 0) 0 v.toInt64)) ∨ (∃ R' : am_R, f am_spot [.ref a, .int x, .int y] I R Q = some (none, I1, R', Q1) ∧ r1 = some (.int 1) ∧ R1 = am_sR R' 126 0 (fun _ => some (am_gx R' + 1)))) := by
  subst hM
  unfold am_cl at h
  rw [if_neg (by decide), if_pos rfl] at h
  split at h
  · rename_i a x y b
    split at h
    · rename_i hb
      obtain ⟨hb, ha⟩ := hb
      subst hb
      refine ⟨a, x, y, rfl, ha, ?_⟩
      split at h
      · rename_i v I' R' Q' hf
        cases h
        exact Or.inl ⟨v, Q', hf, rfl, rfl⟩
      · rename_i I' R' Q' hf
        cases h
        exact Or.inr ⟨R', hf, rfl, rfl⟩
      · cases h
    · cases h
  · cases h
theorem am_hX {l : Launch} {D : va_G} {cA : Nat → Nat} {A : Nat → Prop} {rm : Nat → Nat} {I0 : am_I} {aV : Nat → Nat} (hlt : l.stackTraces = false) (hI : ∀ j, j < 8 → ∀ i, i < am_sl8.getD j 0 → I0 101 j i = (am_sb8.getD j []).getD i 0) : am_CX l D cA A rm I0 (am_FX A (fun j => rm (am_mk 100 j)) aV) := by
  intro p e Rm s m args below meth c M n0 xg xg1 ad0 Qf pc als ast I R Q k d idx kind z vs rest r1 I1 R1 Q1 C hP hc hz hd hkd hs hcl hRm hgx hroom key
  have C0 := C
  obtain ⟨hx, hb, hml, hown, hts, hr, hlk, hnm, hA, hK, hF⟩ := C
  obtain ⟨hz1, -, hst, hok, hrest, -⟩ := am_inv_call hs
  obtain ⟨m1, m2, m3, m4, m5⟩ := am_chV_more hc hz1
  have h900 : 900 ≤ z.1 := by omega
  rcases m3 h900 with h | h
  · unfold am_cl at hcl
    rw [if_neg (by omega), if_neg (by omega)] at hcl
    cases he : am_ext z.1 vs I with
    | none => rw [he] at hcl; cases hcl
    | some v =>
      rw [he] at hcl
      cases hcl
      have : xg1 = xg := by omega
      subst this
      obtain ⟨b1, b2, b3, b4, b5, b6, b7⟩ := hF
      exact am_X_str hI ⟨hx, hb, hml, hown, hts, hr, hlk, hnm, hA, hK, ⟨b1, b2, b3, b4, b5, b6, b7.1⟩⟩ hc ⟨h900, h⟩ hd hs he hRm hroom key
  · obtain ⟨hk1, hMl⟩ := m2 h
    subst hk1
    obtain ⟨a, x, y, hv, ha, hcase⟩ := am_cl_950 h hcl
    have hlk2 := am_ml2_in _ (m5 hz)
    unfold am_mlw at hlk2
    dsimp only at hlk2
    rw [h] at hlk2
    have hlk2 : Cond.methodLink (am_on M) idx am_yLs ∈ am_ws := hlk2
    have hT : GoodIn am_ws (va_wsS (am_on M) idx am_yLs (am_hw :: am_ws)) := am_good1 (fun w hw => by
      rcases List.mem_append.mp hw with q | q
      · simp only [List.mem_cons, List.not_mem_nil, or_false] at q
        rcases q with q | q | q
        · rw [q]; exact hlk2
        · rw [q]; exact am_xw_at 3
        · rw [q]; exact am_xw_at 5
      · rcases List.mem_cons.mp q with q | q
        · rw [q]; exact am_xw_at 2
        · exact q)
    have S : CallFix p m c (am_cc M) (am_ml M) s args am_ws (am_on M) := ⟨hx, hb, hml, hown, hts⟩
    have hlst : am_spot ≠ am_lst := by decide
    intro ad n H locs ls h1 h2 h3 h4 h5 h6 h7
    have hvs : ∀ v ∈ vs, am_vv n v := fun v hv => h6 v (by rw [hst]; exact List.mem_append_left _ (List.mem_reverse.mpr hv))
    have hvr : ∀ v ∈ rest, am_vv n v := fun v hv => h6 v (by rw [hst]; exact List.mem_append_right _ hv)
    rw [hv] at hvs
    have hva : am_vv n (.ref a) := hvs _ (by simp)
    have hvb : am_vv n (.ref (am_mk 72 0)) := hvs _ (by simp)
    have hcs := am_cat_sum (ad := ad) hrest
    have hroomW : 2 * (F0 m pc ls (ast.map (am_tv ad))).monitorRoom + ((rest.map (am_tv ad)).map fun v => v.category).sum ≤ 8 := lv_room hcs
    have hstk : ast.map (am_tv ad) = (([.ref a, .int x, .int y, .ref (am_mk 72 0)] : List Value).map (am_tv ad)).reverse ++ rest.map (am_tv ad) := by rw [hst, hv, List.map_append, List.map_reverse]
    have hPc : ∀ U : State, U.heap = H → s.WarmedH U.vm → am_Pc D cA A rm I0 (am_FX A (fun j => rm (am_mk 100 j)) aV) ad n [.ref a, .int x, .int y, .ref (am_mk 72 0)] I R Q (([.ref a, .int x, .int y, .ref (am_mk 72 0)] : List Value).map (am_tv ad)).toArray U := by
      intro U hU hW
      subst hU
      exact ⟨rfl, h4, va_K.moved hW.alike hK, am_Fs_to hW h7 am_FX_T hF, fun q hq => hA q (Nat.le_trans h7.1 hq)⟩
    have hR2 : 2 * d + 7 + 1 ≤ Rm.frames ∧ 8 + (5 + 11) + (80 * (d + 5) + 40) ≤ Rm.locals := am_hR2 hRm
    have m1' := am_ss_mono h3
    rcases hcase with ⟨v, Q2, hrun, hr1, hQ⟩ | ⟨R2, hrun, hr1, hR1⟩
    · have hg := am_run_gx _ _ _ _ _ _ _ _ _ _ _ _ _ n hlst hrun h4.2.1
      obtain ⟨n1, hn1, hnn, -⟩ := am_run_cnt _ _ _ _ _ _ _ _ _ _ _ _ _ _ hrun h4.2.1
      have : xg1 = xg := by omega
      subst this
      subst hr1
      subst hQ
      have hrr := hroom n1 hn1
      have m2' := am_ss_mono hnn
      exact am_call_go hn1 hnn h1 h2 h3 h5 hvr h7 (vx_runSW (hh := [(0, 10, 13, 13)]) (bytes := am_cLs) (maxL := 5) (ret := some .int) (As := ([.ref a, .int x, .int y, .ref (am_mk 72 0)] : List Value).map (am_tv ad)) (rest := rest.map (am_tv ad)) S (am_help_ret (ad := ad) (n := n) hP hrun hg ha h2 hva hvb hn1) (vx_cwSW (ws' := am_ws) 4 hts hT rfl rfl rfl ⟨by decide, by decide, by decide +kernel⟩ hR2) ⟨am_blind am_FX_T, hPc⟩ rfl rfl h5.2.1.1 hstk hroomW hd (by omega)) key
    · have hg := am_run_gx _ _ _ _ _ _ _ _ _ _ _ _ _ n hlst hrun h4.2.1
      obtain ⟨n1, hn1, hnn, -⟩ := am_run_cnt _ _ _ _ _ _ _ _ _ _ _ _ _ _ hrun h4.2.1
      subst hR1
      have hg2 : am_gx (am_sR R2 126 0 (fun _ => some (am_gx R2 + 1))) = am_gx R2 + 1 := by
        show ((am_sR R2 126 0 (fun _ => some (am_gx R2 + 1))) 126 0 0).getD 0 = _
        rw [am_sR_eq]
        rfl
      have : xg1 = xg + 1 := by omega
      subst this
      subst hr1
      have hn2 : (am_sR R2 126 0 (fun _ => some (am_gx R2 + 1))) 127 0 0 = some n1 := by rw [am_sR_ne (by omega)]; exact hn1
      have hrr := hroom n1 hn2
      have m2' := am_ss_mono hnn
      exact am_call_gx (g := 1) hn2 hnn h1 h2 h3 h5 hvr h7 (vx_runSW (hh := [(0, 10, 13, 13)]) (bytes := am_cLs) (maxL := 5) (ret := some .int) (As := ([.ref a, .int x, .int y, .ref (am_mk 72 0)] : List Value).map (am_tv ad)) (rest := rest.map (am_tv ad)) S (am_help_thr (ad := ad) (n := n) hlt hP hrun hg ha h2 hva hn1) (vx_cwSW (ws' := am_ws) 4 hts hT rfl rfl rfl ⟨by decide, by decide, by decide +kernel⟩ hR2) ⟨am_blind am_FX_T, hPc⟩ rfl rfl h5.2.1.1 hstk hroomW hd (by omega)) key
