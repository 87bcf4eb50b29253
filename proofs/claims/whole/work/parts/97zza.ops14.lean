/-! The history as one thing; COOK. -/
abbrev zH : Type := Nat × (Nat → Nat → Nat → Int32) × (Nat → Nat) × (Nat → Nat → Int32)
def hcA (I : am_I) (H : zH) : Prop := ∃ f lo, hc_at I H.1 H.2.1 H.2.2.1 f lo H.2.2.2
def hmA (I : am_I) (n : Nat) (H : zH) : Prop := hm_at I n H.1 H.2.1 H.2.2.1 H.2.2.2
def hkp (H : zH) : zH := (sp_kk H.1, (fun j => H.2.1 (sp_kj H.1 j)), (fun j => H.2.2.1 (sp_kj H.1 j)), H.2.2.2)
def hps (T : pl_T) (q : Nat) (H : zH) : zH := (H.1, sp_nw H.1 H.2.1 (T (nI q) (H.2.1 H.1)).1, sp_nw H.1 H.2.2.1 (H.2.2.1 H.1 + 1), sp_lg H.2.2.2 (H.2.2.1 H.1 + 1) (nI q) (sp_least (T (nI q) (H.2.1 H.1)).1) (T (nI q) (H.2.1 H.1)).2)
def hmx (H : zH) : zH := (H.1, sp_nw H.1 H.2.1 (sp_mix (H.2.1 H.1)), H.2.2.1, H.2.2.2)
def hOk (n b : Nat) (H : zH) : Prop := hd_ok n b H.1 H.2.1 H.2.2.1
def hSt (H : zH) : Prop := 1 ≤ H.1 ∧ ∀ j, j + 1 = H.1 → H.2.2.1 j = H.2.2.1 H.1
def hTm (H : zH) : Nat := H.2.2.1 H.1
def hN : Nat → Nat → Nat → Prop := fun a _ j => a = 60 ∨ a = 63 ∨ a = 62 ∨ a = 50 ∨ a = 51 ∨ (a = 12 ∧ j = 37)
section
variable {n b q d : Nat} {I J : am_I} {R : am_R} {Q : am_Q} {T : pl_T} {H : zH}
theorem hN_M {a b j : Nat} (w : hN a b j) : hM a b j := by
  unfold hN at w
  unfold hM
  omega
theorem hN_ev {a b j : Nat} (w : hN a b j) : mev_S a b j := by
  unfold hN at w
  unfold mev_S
  omega
theorem hC_ev {a b j : Nat} (w : hC a b j) : ev_S a b j := by
  unfold hC hc_S kk_S at w
  unfold ev_S
  omega
theorem hkp_ok (h : hOk n b H) : hOk n b (hkp H) := hd_keep h
theorem hkp_tm (h : hOk n b H) : hTm (hkp H) = hTm H := by
  show H.2.2.1 (sp_kj H.1 (sp_kk H.1)) = H.2.2.1 H.1
  rw [kj_k H.1 h.1]
theorem hkp_st (h : hOk n b H) : hSt (hkp H) := by
  have g := go_le H.1 h.1
  refine ⟨g.2.2.2.2.1, fun j hj => ?_⟩
  show H.2.2.1 (sp_kj H.1 j) = H.2.2.1 (sp_kj H.1 (sp_kk H.1))
  have hj : j + 1 = sp_kk H.1 := hj
  rw [kj_k H.1 h.1, show sp_kj H.1 j = H.1 by unfold sp_kj; omega]
theorem hps_ok (hk : kT T n b) (hT : tT T) (h : hOk n b H) (hs : hSt H) : hOk n b (hps T q H) := hd_pass hk hT h hs.2
theorem hps_tm : hTm (hps T q H) = hTm H + 1 := by
  show sp_nw H.1 H.2.2.1 (H.2.2.1 H.1 + 1) H.1 = _
  simp only [sp_nw, if_true]
  rfl
theorem hmx_ok (hb : 1 ≤ b ∧ b ≤ 99) (h : hOk n b H) : hOk n b (hmx H) := hd_nowS h (mix_I hb (h.2.1 H.1 (Nat.le_refl _)).1) (mix_t.trans (h.2.1 H.1 (Nat.le_refl _)).2)
theorem ck (hr : pa_R R) (h : hOk n b H) (hI : hcA I H) : ∃ J, am_cal (d + 1) 2 [.ref (am_mk 0 0), .ref (am_mk 9 12)] I R Q = some (none, J, R, Q) ∧ am_fr hC I J ∧ hcA J (hkp H) := by
  obtain ⟨f, lo, h6⟩ := hI
  obtain ⟨J, a1, a2, a3⟩ := c_keepH (d := d) (Q := Q) hr.2.2.2.2.2.2.2.2.2 h h6
  exact ⟨J, a1, fr_mo a2 fun a b j w => hcS_C w, _, _, a3⟩
theorem cp (hr : pa_R R) (hT : cT T n b R Q I) (hk : kT T n b) (hT4 : tT T) (hb : 1 ≤ b ∧ b ≤ 99) (hn2 : n ≤ 25) (h : hOk n b H) (hs : hSt H) (ht : hTm H < 2 ^ 28) (hq : q ≤ 9) (hI : hcA I H) : ∃ J, am_cal (d + 9) 114 [.ref (am_mk 11 0), .int (nI q)] I R Q = some (none, J, R, Q) ∧ am_fr hC I J ∧ hcA J (hps T q H) := by
  obtain ⟨f, lo, h6⟩ := hI
  obtain ⟨J, a1, a2, a3⟩ := c_passH (d := d) (Q := Q) hr hT hk hT4 hb hn2 h hs.2 hs.1 ht hq h6
  exact ⟨J, a1, fr_mo a2 fun a b j w => w.elim Or.inr Or.inl, _, _, a3⟩
theorem cx (hp : pp_R R 12) (h : hOk n b H) (hI : hcA I H) : ∃ J, am_cal (d + 2) 83 [.ref (am_mk 9 12)] I R Q = some (none, J, R, Q) ∧ am_fr hC I J ∧ hcA J (hmx H) := by
  obtain ⟨f, lo, h6⟩ := hI
  obtain ⟨J, a1, a2, a3⟩ := c_mix (d := d) (Q := Q) hp h6.2.2.2.2.1
  exact ⟨J, a1, fr_mo a2 fun a b j w => pp12_C w, _, _, c_nowH h6 a2 a3 h.1⟩
theorem mk (hr : mm_R R) (h : hOk n b H) (hI : hmA I n H) : ∃ J, am_cal d 224 [.ref (am_mk 12 0)] I R Q = some (none, J, R, Q) ∧ am_fr hN I J ∧ hmA J n (hkp H) := by
  obtain ⟨k, PK, tk, E⟩ := H
  obtain ⟨h1, h2, h3, h4⟩ := hI
  have hk : k ≤ 40 := h.1
  have g := go_le k hk
  obtain ⟨J, a1, a2, a3, a4, a5⟩ := m_keep (d := d) (Q := Q) hr h2 hk
  refine ⟨J, a1, fr_mo a2 fun a b j w => by unfold kp_S at w; unfold hN; omega, (a2 _ _ _ (fun w => by unfold kp_S at w; omega)).trans h1, a3, fun j hj => ?_, ?_⟩
  · have hj : j < sp_kk k := hj
    have e1 : sp_kj k j = j + sp_go k := by unfold sp_kj; omega
    show sn_at J 63 (283 * j) (PK (sp_kj k j)) (tk (sp_kj k j)) E
    rw [e1]
    by_cases e : j + sp_go k = k
    · have ej : j = k - sp_go k := by omega
      rw [e, ej]
      exact sn_cp h4 (fun i hi => by rw [Nat.zero_add]; exact a4 i hi)
    · exact sn_cp (h3 _ (show j + sp_go k < k by omega)) (fun i hi => a5 j (show j < k - sp_go k by omega) i hi)
  · show sn_at J 60 0 (PK (sp_kj k (sp_kk k))) (tk (sp_kj k (sp_kk k))) E
    rw [kj_k k hk]
    exact sn_cp h4 (fun i hi => a2 _ _ _ (fun w => by unfold kp_S at w; omega))
theorem mp (hr : mm_R R) (hT : mT T n b R Q I) (hk : kT T n b) (hb : 1 ≤ b ∧ b ≤ 99) (hn2 : n ≤ 25) (h : hOk n b H) (ht : hTm H < 2 ^ 28) (hq : q ≤ 9) (hI : hmA I n H) : ∃ J, am_cal (d + 9) 220 [.ref (am_mk 12 0), .int (nI q)] I R Q = some (none, J, R, Q) ∧ am_fr hN I J ∧ hmA J n (hps T q H) := by
  obtain ⟨J, a1, a2, a3⟩ := m_passH (d := d) (Q := Q) hr hT hk hb hn2 h ht hq hI
  exact ⟨J, a1, fr_mo a2 fun a b j w => by unfold mw_S at w; unfold hN; omega, a3⟩
theorem mx (hb : 1 ≤ b ∧ b ≤ 99) (hr : mm_R R) (hn2 : n ≤ 25) (h : hOk n b H) (hI : hmA I n H) : ∃ J, am_cal (d + 5) 223 [.ref (am_mk 12 0)] I R Q = some (none, J, R, Q) ∧ am_fr hN I J ∧ hmA J n (hmx H) := by
  have hP := (h.2.1 H.1 (Nat.le_refl _)).1
  have hm1 := sn_mm hI.2.2.2 (hI.1.trans hP.1.symm)
  obtain ⟨J, b1, b2, b3⟩ := m_stirNow (d := d) (Q := Q) hb hr hm1 hn2 hP
  exact ⟨J, b1, fr_mo b2 fun a b j w => Or.inl w.1, m_nowH hI (fr_mo b2 fun a b j w => ⟨Or.inl ⟨w.1, Nat.lt_trans w.2 (by decide)⟩, fun _ => w.2⟩) b3⟩
/-- some TENS of one POWER -/
def hck (T : pl_T) (q : Nat) (H : zH) (i : Nat) : zH := am_fold (fun H _ => hps T q (hkp H)) H i
theorem hck_ok (hk : kT T n b) (hT : tT T) (h : hOk n b H) : ∀ i, hOk n b (hck T q H i) ∧ hTm (hck T q H i) = hTm H + i := by
  intro i
  induction i with
  | zero => exact ⟨h, rfl⟩
  | succ i ih =>
    have e : hck T q H (i + 1) = hps T q (hkp (hck T q H i)) := rfl
    rw [e]
    exact ⟨hps_ok hk hT (hkp_ok ih.1) (hkp_st ih.1), by rw [hps_tm, hkp_tm ih.1, ih.2]; rfl⟩
theorem c_cookL (hr : pa_R R) (hT : cT T n b R Q I) (hk : kT T n b) (hT4 : tT T) (hb : 1 ≤ b ∧ b ≤ 99) (hn2 : n ≤ 25) (h : hOk n b H) (hq : q ≤ 9) (hI : hcA I H) {N : Nat} (hN : hTm H + N ≤ 9999) : ∃ J, am_ev (d + 10) 115 60 [.ref (am_mk 11 0), .int (nI N), .int (nI q), .int (nI 0)] [] I R Q = some (some (.int (nI (hTm H + N))), J, R, Q) ∧ am_fr hC I J ∧ hcA J (hck T q H N) := by
  refine loop_inv (f := fun J i => am_ev (d + 10) 115 60 [.ref (am_mk 11 0), .int (nI N), .int (nI q), .int (nI i)] [] J R Q) (Inv := fun i J => am_fr hC I J ∧ hcA J (hck T q H i)) (Post := fun y => ∃ J, y = some (some (.int (nI (hTm H + N))), J, R, Q) ∧ am_fr hC I J ∧ hcA J (hck T q H N)) (n := N) ?_ ?_ (Nat.zero_le _) ⟨fr_rf, hI⟩
  · intro i J hi ⟨f1, f2⟩
    left
    obtain ⟨o1, o2⟩ := hck_ok (q := q) hk hT4 h i
    have h1 : ¬ N ≤ i := by omega
    obtain ⟨J1, a1, a2, a3⟩ := ck (d := d + 8) (Q := Q) hr o1 f2
    obtain ⟨J2, b1, b2, b3⟩ := cp (d := d) (Q := Q) hr (cT_fr hT (fr_mo (fr_tr f1 a2) fun a b j w => hC_ev w)) hk hT4 hb hn2 (hkp_ok o1) (hkp_st o1) (by rw [hkp_tm o1, o2]; omega) hq a3
    refine ⟨J2, ?_, fr_tr f1 (fr_tr a2 b2), b3⟩
    rw [s115_60]
    simp (disch := first | omega | assumption) only [s115_0, s115_1, s115_4, s115_7, s115_8, s115_9, s115_12, s115_13, s115_14, s115_15, s115_17, s115_20, s115_23, s115_24, s115_25, s115_28, s115_31, s115_32, s115_33, s115_36, s115_37, s115_38, s115_41, s115_44, s115_45, s115_46, s115_49, s115_52, s115_53, s115_54, s115_57, s115_58, s115_59, s115_61, s115_62, s115_65, s115_66, s115_69, s115_70, s115_73, s115_76, s115_77, s115_78, s115_81, s115_84, s115_87, s115_88, s115_91, s115_94, nI_le2, nI_lt2, nI_eq2, nI_lt0, nI_0le, nI_0lt, nI_le0, nI_eq0, nI_clamp, nI_add, bu_nI, bb_0, bb_1, rf_s, rf_n, tl_s, tl_n, am_th_some, if_true, if_false, sI_eq, uI_eq, and_self, true_and, and_true, not_false_eq_true, not_true_eq_false, Nat.reduceEqDiff, Nat.reduceLeDiff, Nat.reduceLT, Nat.reduceAdd, Nat.reduceMul, Nat.reduceSub, Nat.zero_add, h1, hr.2.1, hr.2.2.2.1, a1, b1]
  · intro J ⟨f1, f2⟩
    refine ⟨J, ?_, f1, f2⟩
    obtain ⟨o1, o2⟩ := hck_ok (q := q) hk hT4 h N
    obtain ⟨f, lo, f2⟩ := f2
    have e5 : J 9 12 5 = nI (hTm H + N) := by rw [← o2]; exact f2.2.2.2.2.1.2.2.1.trans (o1.2.1 _ (Nat.le_refl _)).2
    rw [s115_60]
    simp (disch := first | omega | assumption) only [s115_0, s115_1, s115_4, s115_7, s115_8, s115_9, s115_12, s115_13, s115_14, s115_15, s115_17, s115_20, s115_23, s115_24, s115_25, s115_28, s115_31, s115_32, s115_33, s115_36, s115_37, s115_38, s115_41, s115_44, s115_45, s115_46, s115_49, s115_52, s115_53, s115_54, s115_57, s115_58, s115_59, s115_61, s115_62, s115_65, s115_66, s115_69, s115_70, s115_73, s115_76, s115_77, s115_78, s115_81, s115_84, s115_87, s115_88, s115_91, s115_94, nI_le2, nI_lt2, nI_eq2, nI_lt0, nI_0le, nI_0lt, nI_le0, nI_eq0, nI_clamp, nI_add, bu_nI, bb_0, bb_1, rf_s, rf_n, tl_s, tl_n, am_th_some, if_true, if_false, sI_eq, uI_eq, and_self, true_and, and_true, not_false_eq_true, not_true_eq_false, Nat.reduceEqDiff, Nat.reduceLeDiff, Nat.reduceLT, Nat.reduceAdd, Nat.reduceMul, Nat.reduceSub, Nat.zero_add, Nat.le_refl, hr.2.1, e5]
theorem m_cookL (hr : mm_R R) (hT : mT T n b R Q I) (hk : kT T n b) (hT4 : tT T) (hb : 1 ≤ b ∧ b ≤ 99) (hn2 : n ≤ 25) (h : hOk n b H) (hq : q ≤ 9) (hI : hmA I n H) {N : Nat} (hN' : hTm H + N ≤ 9999) {l3 : Value} : ∃ J, am_ev (d + 10) 226 67 [.ref (am_mk 12 0), .int (nI N), .int (nI q), l3, .int (nI 0)] [] I R Q = some (some (.int (nI (hTm H + N))), J, R, Q) ∧ am_fr hN I J ∧ hmA J n (hck T q H N) := by
  refine loop_inv (f := fun J i => am_ev (d + 10) 226 67 [.ref (am_mk 12 0), .int (nI N), .int (nI q), l3, .int (nI i)] [] J R Q) (Inv := fun i J => am_fr hN I J ∧ hmA J n (hck T q H i)) (Post := fun y => ∃ J, y = some (some (.int (nI (hTm H + N))), J, R, Q) ∧ am_fr hN I J ∧ hmA J n (hck T q H N)) (n := N) ?_ ?_ (Nat.zero_le _) ⟨fr_rf, hI⟩
  · intro i J hi ⟨f1, f2⟩
    left
    obtain ⟨o1, o2⟩ := hck_ok (q := q) hk hT4 h i
    have h1 : ¬ N ≤ i := by omega
    obtain ⟨J1, a1, a2, a3⟩ := mk (d := d + 9) (Q := Q) hr o1 f2
    obtain ⟨J2, b1, b2, b3⟩ := mp (d := d) (Q := Q) hr (mT_fr hT (fr_mo (fr_tr f1 a2) fun a b j w => hN_ev w)) hk hb hn2 (hkp_ok o1) (by rw [hkp_tm o1, o2]; omega) hq a3
    refine ⟨J2, ?_, fr_tr f1 (fr_tr a2 b2), b3⟩
    rw [s226_67]
    simp (disch := first | omega | assumption) only [s226_0, s226_1, s226_4, s226_7, s226_8, s226_11, s226_12, s226_13, s226_15, s226_18, s226_21, s226_22, s226_23, s226_26, s226_29, s226_30, s226_33, s226_34, s226_37, s226_39, s226_40, s226_41, s226_42, s226_45, s226_48, s226_49, s226_52, s226_53, s226_54, s226_55, s226_56, s226_59, s226_62, s226_63, s226_64, s226_65, s226_69, s226_70, s226_73, s226_74, s226_77, s226_78, s226_79, s226_82, s226_85, s226_88, s226_89, s226_92, s226_94, s226_95, nI_le2, nI_lt2, nI_eq2, nI_lt0, nI_0le, nI_0lt, nI_le0, nI_eq0, nI_clamp, nI_add, bu_nI, bb_0, bb_1, rf_s, rf_n, tl_s, tl_n, am_th_some, if_true, if_false, sI_eq, uI_eq, and_self, true_and, and_true, not_false_eq_true, not_true_eq_false, Nat.reduceEqDiff, Nat.reduceLeDiff, Nat.reduceLT, Nat.reduceAdd, Nat.reduceMul, Nat.reduceSub, Nat.zero_add, h1, a1, b1]
  · intro J ⟨f1, f2⟩
    refine ⟨J, ?_, f1, f2⟩
    obtain ⟨o1, o2⟩ := hck_ok (q := q) hk hT4 h N
    have f3 := f2.2.2.2
    have e5 : J 60 0 101 = nI (hTm H + N) := by rw [← o2]; have := f3.2.1; rw [Nat.zero_add] at this; exact this.trans (o1.2.1 _ (Nat.le_refl _)).2
    rw [s226_67]
    simp (disch := first | omega | assumption) only [s226_0, s226_1, s226_4, s226_7, s226_8, s226_11, s226_12, s226_13, s226_15, s226_18, s226_21, s226_22, s226_23, s226_26, s226_29, s226_30, s226_33, s226_34, s226_37, s226_39, s226_40, s226_41, s226_42, s226_45, s226_48, s226_49, s226_52, s226_53, s226_54, s226_55, s226_56, s226_59, s226_62, s226_63, s226_64, s226_65, s226_69, s226_70, s226_73, s226_74, s226_77, s226_78, s226_79, s226_82, s226_85, s226_88, s226_89, s226_92, s226_94, s226_95, nI_le2, nI_lt2, nI_eq2, nI_lt0, nI_0le, nI_0lt, nI_le0, nI_eq0, nI_clamp, nI_add, bu_nI, bb_0, bb_1, rf_s, rf_n, tl_s, tl_n, am_th_some, if_true, if_false, sI_eq, uI_eq, and_self, true_and, and_true, not_false_eq_true, not_true_eq_false, Nat.reduceEqDiff, Nat.reduceLeDiff, Nat.reduceLT, Nat.reduceAdd, Nat.reduceMul, Nat.reduceSub, Nat.zero_add, Nat.le_refl, mr31 hr, e5]
end
