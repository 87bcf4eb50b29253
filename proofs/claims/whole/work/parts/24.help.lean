/-! The law's helper: what ColdMiddle.spot tells, or that it throws. -/
theorem am_xw_at (i : Nat) {w : Cond} (h : am_xw[i]? = some w := by rfl) : w ∈ am_ws := am_xw_in w (List.mem_of_getElem? h)
section
variable {l : Launch} {D : va_G} {cA : Nat → Nat} {A : Nat → Prop} {rm : Nat → Nat} {I0 : am_I}
variable {I : am_I} {R : am_R} {Q : am_Q}
def am_hrm (d mc ms : Nat) : Room := { frames := 2 * d + 7, cells := mc, slots := ms, locals := 80 * (d + 5) + 40 }
def am_hw : Cond := .codeWith am_yLs am_cLs 5 (some .int) [(0, 10, 13, 13)]
theorem am_help_ret {k d n n1 a : Nat} {ad : Nat → Nat} {x y v : Int32} {I1 : am_I} {R1 : am_R} {Q1 : am_Q} {aK aV : Nat → Nat} (hP : am_P l D cA A rm I0 (am_FX A aK aV) k) (hrun : am_run k d am_spot 0 (am_lo am_spot [.ref a, .int x, .int y]) [] I R Q = some (some (.int v), I1, R1, Q1)) (hgx : am_gx R1 = am_gx R) (ha : a % 128 = 11) (h2 : ∀ a ∈ am_rl, ad a = rm a) (hva : am_vv n (.ref a)) (hvb : am_vv n (.ref (am_mk 72 0))) (hn1 : R1 127 0 0 = some n1) : Met l am_yLs (am_hw :: am_ws) (am_hrm d (n1 - n) (am_ss n1 - am_ss n)) (am_Pc D cA A rm I0 (am_FX A aK aV) ad n [.ref a, .int x, .int y, .ref (am_mk 72 0)] I R Q) (am_Qc D cA A I0 ad n (some (.int 0)) I1 R1 (am_sQ Q1 72 0 (am_uQ (Q1 72 0) 0 v.toInt64))) (n1 - n) (am_ss n1 - am_ss n) A := by
  refine va_MetW (cc := am_cLs) (maxL := 5) (ret := (some .int)) (hh := [(0, 10, 13, 13)]) (by decide +kernel) rfl ?_
  intro p e s m args0 below meth c s₁ B hml hv0
  obtain ⟨hargs, hSt, hK, hF, hA⟩ := hv0
  have hargs : args0 = [Value.ref (ad a), .int x, .int y, .ref (ad (am_mk 72 0))].toArray := hargs
  subst hargs
  have hx := B.exec
  have hb := B.bytes
  have hr := B.returns
  have hts0 := atoms_spec (ws := am_hw :: am_ws) B.pre
  have hts : ∀ w ∈ am_ws, w.before _ s = true := fun w hw => hts0 w (List.mem_cons_of_mem _ hw)
  have hown : s.vm.findClass "ColdMiddleLaw" = some m.cls := findClass_of_methodNamed B.named
  have hlocks := B.notSynchronized
  have hS : va_S A s.heap s.heap [] := va_S.rf
  have hl := lv_entry ([.ref (ad a), .int x, .int y, .ref (ad (am_mk 72 0))]) (n := 5) (Nat.le_of_ble_eq_true rfl)
  rw [lg_entry_eq]
  generalize (lg_sl ([.ref (ad a), .int x, .int y, .ref (ad (am_mk 72 0))]) ++ List.replicate (5 - (lg_sl ([.ref (ad a), .int x, .int y, .ref (ad (am_mk 72 0))])).length) Slot.unset).toArray = ls at hl ⊢
  have hl : lv_has ls 5 [(0, .ref (ad a)), (1, .int x), (2, .int y), (3, .ref (ad (am_mk 72 0)))] := hl
  refine lv_aload_n hx hb am_dLs_0 rfl (lv_at hl 3 rfl) ?_
  refine lv_iconst (v := 0) hx hb am_dLs_1 (by decide) ?_
  refine lv_aload_n hx hb am_dLs_2 rfl (lv_at hl 0 rfl) ?_
  refine lv_iload_n hx hb am_dLs_3 rfl (lv_at hl 1 rfl) ?_
  refine lv_iload_n hx hb am_dLs_4 rfl (lv_at hl 2 rfl) ?_
  obtain ⟨w1, w2, w3, w4⟩ := am_mchk_at (show am_spot < 283 by decide) (show am_spot ≠ am_lst by decide)
  have hvs : ∀ v ∈ [Value.ref a, .int x, .int y], am_vv n v := am_vs_cons hva (am_vs_cons am_vv_int (am_vs_cons am_vv_int (fun v hv => by cases hv)))
  have hM := am_met (ad := ad) (n := n) hP (show am_spot < 283 by decide) (Or.inr (fun q => by cases q)) hrun hgx (by rw [show am_sg am_spot = [1, 0, 0] by decide +kernel]; rfl) h2 hvs hn1
  obtain ⟨i, hi, hia⟩ := am_vo_of hva (am_lt100 ha (by decide))
  have hrecv := va_recv hK hSt.2.2.2.2.1 (am_cl_at 11 (by decide)) (show (am_wd cA ad I R Q n)[i]? = some (ad a, .inr (11, _)) by rw [am_wd_get hi, hia, am_cell_obj ha (by decide)])
  dsimp only at hrecv
  have S : CallFix p m c am_cLs 5 s ([Value.ref (ad a), .int x, .int y, .ref (ad (am_mk 72 0))].toArray) am_ws "ColdMiddleLaw" := ⟨hx, hb, hml, hown, hts⟩
  refine am_behind (va_runV (b := ad a) (As := [.int x, .int y]) (rest := [.int 0, .ref (ad (am_mk 72 0))]) S hM ⟨callB_of (ws' := am_ws) 2 hts (am_goodIn w1) rfl rfl rfl (hts _ w2) (hts _ (am_xw_at 7)) ⟨by decide +kernel, by decide +kernel, by decide +kernel⟩ ⟨by show 2 * d + 6 + 1 ≤ 2 * d + 7; omega, by show 8 + (am_ml am_spot + 11) + 80 * (d + 5) ≤ 80 * (d + 5) + 40; rw [show am_ml am_spot = 3 by decide +kernel]; omega⟩, hts _ (am_xw_at 8), hts _ (am_xw_at 9)⟩ ⟨am_blind am_FX_T, hrecv, fun U hU hW => ⟨rfl, by rw [hU]; exact hSt, va_K.moved hW.alike hK, am_Fs_to hW (by rw [hU]; exact hS) am_FX_T hF, fun q hq => hA q (by rw [hU] at hq; exact hq)⟩⟩ rfl rfl hl.1 rfl (lv_room (Nat.le_of_ble_eq_true rfl)) am_dLs_5 ⟨by show 0 + (n1 - n) ≤ n1 - n; omega, by show 0 + (am_ss n1 - am_ss n) ≤ am_ss n1 - am_ss n; omega⟩) hS ?_
  intro ad1 n2 H1 locs1 q1 q2 q3 q4 hS1
  rw [Nat.zero_add, Nat.zero_add]
  refine lv_i2l (v := v.toInt64) hx hb am_dLs_8 rfl ?_
  obtain ⟨w, hw, hwa⟩ := am_vo_of (am_vv_mono q2 hvb) (by decide)
  rw [← q1 _ (hvb.1 _ rfl)]
  have hcell := am_arr_cell (cA := cA) (ad := ad1) (I := I1) (R := R1) (Q := Q1) hw hwa (show am_at (am_mk 72 0 % 128) = 2 by decide) (by omega)
  refine va_last hx hb hK q3.2.2.2.2.1 q3.2.2.2.2.2.1 hS1 w 2 hcell rfl (am_in_of (by decide) (by decide)) am_dLs_9 (fun H2 locs2 hP2 hD2 hS2 => ?_)
  refine lv_goto (tgt := 17) hx hb am_dLs_10 rfl ?_
  refine lv_iconst (v := 0) hx hb am_dLs_17 (by decide) ?_
  refine W.zret (ty := .int) hx hb hr rfl (fun t ht hW => ⟨⟨ad1, n2, rfl, q1, ?_, q2, fun w hw => by cases hw; exact am_vv_int⟩, hS2.F ht⟩) hS2.2.2 am_dLs_18 hlocks
  rw [ht]
  refine am_St_put q3 hw hwa (by decide) ?_ (fun _ _ _ => rfl) (fun _ _ _ => rfl) (fun x y hxy => am_sQ_ne hxy) (fun j b2 hb2 => q3.2.2.1 w hw j b2 (by rw [hwa]; exact hb2)) hP2 hD2
  rw [am_cell_arr (by decide), show am_sQ Q1 72 0 (am_uQ (Q1 72 0) 0 v.toInt64) (am_mk 72 0 % 128) (am_mk 72 0 / 128) = am_uQ (Q1 72 0) 0 v.toInt64 from am_sQ_eq]
  rfl
end
section
variable {l : Launch} {D : va_G} {cA : Nat → Nat} {A : Nat → Prop} {rm : Nat → Nat} {I0 : am_I}
variable {I : am_I} {R : am_R} {Q : am_Q}
theorem am_St_126 {ad : Nat → Nat} {n : Nat} {H : Heap} {f : Nat → Option Nat} (h : am_St D cA A ad n I0 I R Q H) : am_St D cA A ad n I0 I (am_sR R 126 0 f) Q H := by
  obtain ⟨g1, g2, g3, g4, g5, g6, g7⟩ := h
  have hk := fun j (hj : j < 365) => (am_ord_kd j hj).1
  have e : ∀ j, j < 365 → (am_sR R 126 0 f) (am_ord j % 128) (am_ord j / 128) = R (am_ord j % 128) (am_ord j / 128) := fun j hj => am_sR_ne (by have := hk j hj; omega)
  have ew : am_wd cA ad I (am_sR R 126 0 f) Q n = am_wd cA ad I R Q n := am_wd_congr (fun _ _ => rfl) (fun j hj => am_cell_congr rfl (e j (by omega)) rfl)
  exact ⟨g1, by rw [am_sR_ne (by omega)]; exact g2, fun i hi j b hb => g3 i hi j b (by rw [e i (by omega)] at hb; exact hb), g4, by rw [ew]; exact g5, by rw [ew]; exact g6, fun i hi hi2 j => by rw [e i hi2]; exact g7 i hi hi2 j⟩
theorem am_help_thr {k d n n1 a : Nat} {ad : Nat → Nat} {x y : Int32} {I1 : am_I} {R1 : am_R} {Q1 : am_Q} {aK aV : Nat → Nat} (hlt : l.stackTraces = false) (hP : am_P l D cA A rm I0 (am_FX A aK aV) k) (hrun : am_run k d am_spot 0 (am_lo am_spot [.ref a, .int x, .int y]) [] I R Q = some (none, I1, R1, Q1)) (hgx : am_gx R1 = am_gx R) (ha : a % 128 = 11) (h2 : ∀ a ∈ am_rl, ad a = rm a) (hva : am_vv n (.ref a)) (hn1 : R1 127 0 0 = some n1) : Met l am_yLs (am_hw :: am_ws) (am_hrm d (n1 - n + 1) (am_ss n1 - am_ss n + 6)) (am_Pc D cA A rm I0 (am_FX A aK aV) ad n [.ref a, .int x, .int y, .ref (am_mk 72 0)] I R Q) (am_Qc D cA A I0 ad n (some (.int 1)) I1 (am_sR R1 126 0 (fun _ => some (am_gx R1 + 1))) Q1) (n1 - n + 1) (am_ss n1 - am_ss n + 6) A := by
  refine va_MetW (cc := am_cLs) (maxL := 5) (ret := (some .int)) (hh := [(0, 10, 13, 13)]) (by decide +kernel) rfl ?_
  intro p e s m args0 below meth c s₁ B hml hv0
  obtain ⟨hargs, hSt, hK, hF, hA⟩ := hv0
  have hargs : args0 = [Value.ref (ad a), .int x, .int y, .ref (ad (am_mk 72 0))].toArray := hargs
  subst hargs
  have hx := B.exec
  have hb := B.bytes
  have hr := B.returns
  have hts0 := atoms_spec (ws := am_hw :: am_ws) B.pre
  have hts : ∀ w ∈ am_ws, w.before _ s = true := fun w hw => hts0 w (List.mem_cons_of_mem _ hw)
  have hown : s.vm.findClass "ColdMiddleLaw" = some m.cls := findClass_of_methodNamed B.named
  have hlocks := B.notSynchronized
  have hS : va_S A s.heap s.heap [] := va_S.rf
  have hl := lv_entry ([.ref (ad a), .int x, .int y, .ref (ad (am_mk 72 0))]) (n := 5) (Nat.le_of_ble_eq_true rfl)
  rw [lg_entry_eq]
  generalize (lg_sl ([.ref (ad a), .int x, .int y, .ref (ad (am_mk 72 0))]) ++ List.replicate (5 - (lg_sl ([.ref (ad a), .int x, .int y, .ref (ad (am_mk 72 0))])).length) Slot.unset).toArray = ls at hl ⊢
  have hl : lv_has ls 5 [(0, .ref (ad a)), (1, .int x), (2, .int y), (3, .ref (ad (am_mk 72 0)))] := hl
  refine lv_aload_n hx hb am_dLs_0 rfl (lv_at hl 3 rfl) ?_
  refine lv_iconst (v := 0) hx hb am_dLs_1 (by decide) ?_
  refine lv_aload_n hx hb am_dLs_2 rfl (lv_at hl 0 rfl) ?_
  refine lv_iload_n hx hb am_dLs_3 rfl (lv_at hl 1 rfl) ?_
  refine lv_iload_n hx hb am_dLs_4 rfl (lv_at hl 2 rfl) ?_
  obtain ⟨w1, w2, w3, w4⟩ := am_mchk_at (show am_spot < 283 by decide) (show am_spot ≠ am_lst by decide)
  have hvs : ∀ v ∈ [Value.ref a, .int x, .int y], am_vv n v := am_vs_cons hva (am_vs_cons am_vv_int (am_vs_cons am_vv_int (fun v hv => by cases hv)))
  have hM := am_spot_met (ad := ad) (n := n) hlt hP hrun hgx (by rw [show am_sg am_spot = [1, 0, 0] by decide +kernel]; rfl) h2 hvs hn1
  obtain ⟨i, hi, hia⟩ := am_vo_of hva (am_lt100 ha (by decide))
  have hrecv := va_recv hK hSt.2.2.2.2.1 (am_cl_at 11 (by decide)) (show (am_wd cA ad I R Q n)[i]? = some (ad a, .inr (11, _)) by rw [am_wd_get hi, hia, am_cell_obj ha (by decide)])
  dsimp only at hrecv
  have S : CallFix p m c am_cLs 5 s ([Value.ref (ad a), .int x, .int y, .ref (ad (am_mk 72 0))].toArray) am_ws "ColdMiddleLaw" := ⟨hx, hb, hml, hown, hts⟩
  have htab : c.exceptionTable.toList = [] ++ ⟨0, 10, 13, 13⟩ :: [] := vx_table (x := am_yLs) B (hts0 _ List.mem_cons_self)
  intro T hT X
  rcases vx_runV (b := ad a) (As := [.int x, .int y]) (rest := [.int 0, .ref (ad (am_mk 72 0))]) S hM ⟨callB_of (ws' := am_ws) 2 hts (am_goodIn w1) rfl rfl rfl (hts _ w2) (hts _ (am_xw_at 7)) ⟨by decide +kernel, by decide +kernel, by decide +kernel⟩ ⟨by show 2 * d + 6 + 1 ≤ 2 * d + 7; omega, by show 8 + (am_ml am_spot + 11) + 80 * (d + 5) ≤ 80 * (d + 5) + 40; rw [show am_ml am_spot = 3 by decide +kernel]; omega⟩, hts _ (am_xw_at 8), hts _ (am_xw_at 9)⟩ ⟨am_blind am_FX_T, hrecv, fun U hU hW => ⟨rfl, by rw [hU]; exact hSt, va_K.moved hW.alike hK, am_Fs_to hW (by rw [hU]; exact hS) am_FX_T hF, fun q hq => hA q (by rw [hU] at hq; exact hq)⟩⟩ rfl rfl hl.1 rfl (lv_room (Nat.le_of_ble_eq_true rfl)) am_dLs_5 ⟨by show 0 + (n1 - n + 1) ≤ n1 - n + 1; omega, by show 0 + (am_ss n1 - am_ss n + 6) ≤ am_ss n1 - am_ss n + 6; omega⟩ T hT X with ⟨v, st₀, t, T', L, h0, X', hL, e1, e2, hq, st⟩ | ⟨q, st₀, t, T', L, E, ce, h0, X', hL, e1, e2, ⟨hE, ⟨ad1, n2, q1, q3, q2⟩, hF1⟩, hce, hcv, hcl, st⟩
  · exact hq.elim
  · subst hE
    obtain ⟨hz, hkp⟩ := hF1
    rw [h0] at hz hkp
    have hS1 : va_S A s.heap T'.heap ([] ++ L) := ⟨by rw [e1]; exact hz, fun q h1 h2 => by rw [e1]; exact hkp q h1 h2, fun q hq => hL q hq⟩
    obtain ⟨t2, a1, b1⟩ := vx_catch (own := "ColdMiddleLaw") (name := am_nse) (Q := MQ below (am_Qc D cA A I0 ad n (some (.int 1)) I1 (am_sR R1 126 0 (fun _ => some (am_gx R1 + 1))) Q1) ([Value.ref (ad a), .int x, .int y, .ref (ad (am_mk 72 0))].toArray) s (n1 - n + 1) (am_ss n1 - am_ss n + 6) A) hown [] ⟨0, 10, 13, 13⟩ [] htab (fun z hz => by cases hz) (show covers ⟨0, 10, 13, 13⟩ 5 = true by decide) (by decide) (hts _ (am_xw_at 6)) (va_Nw.use rfl (hF.2.2.2.2.2.2.2.2 _ List.mem_cons_self)) (by rw [e1]; exact hce) hcv hcl (by
      rw [Nat.zero_add, Nat.zero_add]
      refine lv_astore (lv' := [(4, .ref q), (0, .ref (ad a)), (1, .int x), (2, .int y), (3, .ref (ad (am_mk 72 0)))]) hx hb am_dLs_13 hl (by decide) rfl (fun ls hl => ?_)
      refine lv_iconst (v := 1) hx hb am_dLs_15 (by decide) ?_
      exact W.zret (ty := .int) hx hb hr rfl (fun t ht hW => ⟨⟨ad1, n2, rfl, q1, by rw [ht, e1]; exact am_St_126 q3, q2, fun w hw => by cases hw; exact am_vv_int⟩, hS1.F ht⟩) hS1.2.2 am_dLs_16 hlocks) T' rfl X'
    exact ⟨t2, st.trans a1, b1⟩
end
