/-! What both sides hold: references, TAPE, LAWS, the LUNCH; a TEN of both. -/
abbrev zLu : Type := zE × Nat × (Nat → Nat → Nat → Int32) × (Nat → Nat) × (Nat → Nat → Int32) × Option ((Nat → Nat → Int32) × Nat × (Nat → Nat → Int32)) × (Nat × (Nat → Nat → Nat)) × (Nat × (Nat → Nat → Nat))
/-- laws: how many, which, which holds -/
abbrev zLw : Type := Nat × (Nat → zl_K) × Option Nat
/-- TAPE, LAWS, STIRS, STATUS, the LUNCH -/
abbrev zSt : Type := (Nat × (Nat → Nat)) × zLw × Nat × (Nat → Int32) × Option zLu
abbrev zn (E : zE) : Nat := E.2.1 0 * E.2.1 1
def zV (w : zLw) : (Nat → Int32) → Int32 := match w.2.2 with
  | none => sp_usual
  | some l => zl_V (w.2.1 l)
def zT (E : zE) (w : zLw) : pl_T := fun pw P => sp_ten (zV w) (sp_B (E.2.1 0) (E.2.1 1)) (fun c => nI (zd_sh E.2.2.2.1 c)) (nI (E.2.1 3)) (nI (E.2.1 4)) (zn E) pw P
/-- the plate as it was told -/
def zP0 (E : zE) : Nat → Nat → Int32 := fun a j => if a = 4 then (if j = 0 then nI (zn E) else nI 0) else if a < 3 then nI (zd_P E.2.2.1 a j) else nI 0
def zD (D : List (Nat → Nat)) (j i : Nat) : Nat := (D.getD i (fun _ => 0)) j
def rF (R : am_R) : Prop := pa_R R ∧ (R 1 0 0 = some (am_mk 2 0) ∧ R 1 0 1 = some (am_mk 9 2) ∧ R 1 0 2 = some (am_mk 33 0) ∧ ∀ k, k < 9 → R 33 0 k = some (am_mk 9 (3 + k))) ∧ (R 2 0 2 = some (am_mk 31 0) ∧ R 2 0 3 = some (am_mk 32 0)) ∧ (∀ v, v < 2 → R 6 v 0 = some (am_mk 14 v) ∧ R 6 v 1 = some (am_mk 15 v) ∧ R 6 v 2 = some (am_mk 16 v) ∧ R 6 v 3 = some (am_mk 17 v) ∧ R 6 v 4 = some (am_mk 18 v) ∧ R 6 v 6 = some (am_mk 9 v)) ∧ (R 11 0 9 = some (am_mk 1 0) ∧ R 11 0 0 = some (am_mk 10 0) ∧ R 11 0 1 = some (am_mk 7 0) ∧ R 11 0 2 = some (am_mk 4 0) ∧ R 11 0 3 = some (am_mk 29 0) ∧ R 11 0 7 = some (am_mk 30 0) ∧ R 11 0 16 = some (am_mk 8 0) ∧ R 11 0 17 = some (am_mk 8 1)) ∧ (∀ i, i < 4 → R 29 0 i = some (am_mk 3 (i + 1))) ∧ nt_R R 0 ∧ nt_R R 1 ∧ zc_R R ∧ (∀ v, v < 5 → lw_R R v) ∧ (R 7 0 0 = some (am_mk 10 0) ∧ R 7 0 2 = some (am_mk 23 0) ∧ R 7 0 3 = some (am_mk 24 0) ∧ R 7 0 4 = some (am_mk 25 0) ∧ R 7 0 5 = some (am_mk 26 0)) ∧ mm_R R
def rR (R : am_R) (u : Nat) (w : zLw) : Prop := rF R ∧ u < 2 ∧ R 2 0 0 = some (am_mk 6 u) ∧ R 7 0 1 = some (am_mk 6 (1 - u)) ∧ R 2 0 1 = w.2.2.map (fun l => am_mk 3 (l + 1))
section
variable {u v : Nat} {R : am_R} {w : zLw}
theorem rF_pp (h : rF R) {p : Nat} (hp : p < 54) : pp_R R p := h.1.2.2.2.2.2.2.1 p hp
theorem rR_kk (h : rR R u w) : kk_R R u := by
  obtain ⟨h, hu, h1, h2, h3⟩ := h
  obtain ⟨-, -, ⟨k2, k3⟩, h6, -⟩ := h
  obtain ⟨a0, a1, a2, -⟩ := h6 u hu
  exact ⟨h1, k2, k3, a0, a1, a2⟩
theorem rR_aa (h : rR R u w) : aa_R R u := ⟨h.1.2.1.1, h.1.2.1.2.1, h.1.2.1.2.2.1, h.1.2.1.2.2.2, fun _ hp => rF_pp h.1 hp, rR_kk h⟩
theorem rR_ze (h : rR R u w) : ze_R R (1 - u) := by
  obtain ⟨h, hu, h1, h2, h3⟩ := h
  have hpp := rF_pp h (p := 1 - u) (by omega)
  obtain ⟨-, -, -, h6, -, -, -, -, hz, -, ⟨s0, s2, s3, s4, s5⟩, -⟩ := h
  obtain ⟨a0, a1, a2, a3, a4, a5⟩ := h6 (1 - u) (by omega)
  exact ⟨hz.1, s0, h2, s2, s3, s4, s5, a0, a1, a2, a3, a4, a5, hpp⟩
theorem rF_ds (h : rF R) (hu : u < 2) : ds_R R u := ⟨(h.2.2.2.1 u hu).2.2.2.1, (h.2.2.2.1 u hu).2.2.2.2.1⟩
theorem rF_11 (h : rF R) : R 11 0 9 = some (am_mk 1 0) ∧ R 11 0 0 = some (am_mk 10 0) ∧ R 11 0 1 = some (am_mk 7 0) ∧ R 11 0 2 = some (am_mk 4 0) ∧ R 11 0 3 = some (am_mk 29 0) ∧ R 11 0 7 = some (am_mk 30 0) ∧ R 11 0 16 = some (am_mk 8 0) ∧ R 11 0 17 = some (am_mk 8 1) := h.2.2.2.2.1
theorem rF_29 (h : rF R) : ∀ i, i < 4 → R 29 0 i = some (am_mk 3 (i + 1)) := h.2.2.2.2.2.1
theorem rF_nt (h : rF R) : nt_R R 0 ∧ nt_R R 1 := ⟨h.2.2.2.2.2.2.1, h.2.2.2.2.2.2.2.1⟩
theorem rF_zc (h : rF R) : zc_R R := h.2.2.2.2.2.2.2.2.1
theorem rF_lw (h : rF R) : ∀ v, v < 5 → lw_R R v := h.2.2.2.2.2.2.2.2.2.1
theorem rF_mm (h : rF R) : mm_R R := h.2.2.2.2.2.2.2.2.2.2.2
end
/-- TAPE and what stands there from the start -/
def w_c (I : am_I) (w : zLw) : Prop := I 11 0 4 = nI w.1 ∧ I 11 0 5 = (match w.2.2 with | none => -nI 1 | some l => nI l) ∧ ∀ i, i < w.1 → lw_at I (i + 1) ((zl_cls (w.2.1 i)).map zl_c)
def w_m (I : am_I) (w : zLw) : Prop := I 12 0 13 = nI w.1 ∧ I 12 0 33 = (match w.2.2 with | none => -nI 1 | some l => nI l) ∧ ∀ i, i < w.1 → zm_law I i (w.2.1 i)
def w_ok (w : zLw) : Prop := w.1 ≤ 4 ∧ (∀ i, i < w.1 → zl_ok (w.2.1 i) ∧ (zl_cls (w.2.1 i)).length ≤ 240) ∧ ∀ l, w.2.2 = some l → l < w.1
theorem zV_cg {w : zLw} {f g : Nat → Int32} (h : ∀ j, j < 6 → f j = g j) : zV w f = zV w g := by
  obtain ⟨c, Ks, o⟩ := w
  cases o with
  | none => show sp_usual f = sp_usual g; rw [sp_usual, sp_usual, h 0 (by decide), h 1 (by decide), h 2 (by decide), h 5 (by decide)]
  | some l => exact V_cg h _
theorem sh_le {c : Nat} : ∀ M : List (Nat → Nat), (∀ f ∈ M, zd_in 2 f) → zd_sh M c ≤ 20 := by
  refine snoc_ind (fun _ => by show 10 ≤ 20; decide) (fun M m ih hM => ?_)
  have h1 := ih fun g hg => hM g (List.mem_append_left _ hg)
  have hm : 0 ≤ m 1 ∧ m 1 ≤ 20 := hM m (List.mem_append_right _ (List.mem_singleton.mpr rfl)) 1 (by decide)
  rw [sh_app]
  dsimp only
  by_cases e : c = m 0
  · rw [if_pos e]; exact hm.2
  · rw [if_neg e]; exact h1
theorem edges_le {B P : Nat → Nat → Int32} {k : Nat} : ∃ x, x ≤ 4 ∧ sp_edges B P k = nI x := by
  have key : ∀ m, ∃ x, x ≤ m ∧ am_fold (fun a s => if pp_f P (B k s) then a else a + nI 1) (nI 0) m = nI x := by
    intro m
    induction m with
    | zero => exact ⟨0, Nat.le_refl _, rfl⟩
    | succ m ih =>
      obtain ⟨x, hx, e⟩ := ih
      rw [fold_s, e]
      by_cases q : pp_f P (B k m)
      · rw [if_pos q]; exact ⟨x, by omega, rfl⟩
      · rw [if_neg q, nI_add]; exact ⟨x + 1, by omega, rfl⟩
  exact key 4
theorem let_ok {E : zE} (hE : zd_ok E) {n b m q k : Nat} {P : Nat → Nat → Int32} {B : Nat → Nat → Int32} (hb : b ≤ 99) (hn : n ≤ 25) (hI : pt_I n b m P) (hq : q ≤ 9) (hk : k < n) {f : Nat → Int32} (hf : ∀ j, j < 6 → f j = sp_let B (fun c => nI (zd_sh E.2.2.2.1 c)) n (nI q) P k j) : zf_ok f := by
  refine okf_of fun j hj => ?_
  obtain ⟨t, i, g, x, e0, e1, e2, e3, l0, l1, l2, l3, -⟩ := hI.2.2.2.1 k (by omega)
  rw [hf j hj]
  unfold sp_let
  rcases (show j = 0 ∨ j = 1 ∨ j = 2 ∨ j = 3 ∨ j = 4 ∨ j = 5 by omega) with rfl | rfl | rfl | rfl | rfl | rfl
  · exact ⟨q, by omega, rfl⟩
  · exact ⟨_, Nat.le_trans (sh_le _ hE.2.2.1) (by decide), rfl⟩
  · exact ⟨t, by omega, e0⟩
  · exact ⟨i, by omega, e1⟩
  · exact ⟨g, by omega, e2⟩
  · obtain ⟨y, hy, e⟩ := edges_le (B := B) (P := P) (k := k)
    exact ⟨y, by omega, e⟩
section
variable {u : Nat} {R : am_R} {I : am_I} {Q : am_Q} {w : zLw} {E : zE}
theorem b_of (hE : zd_ok E) : 50 ≤ E.2.1 4 ∧ E.2.1 4 ≤ 99 ∧ 1 ≤ E.2.1 2 ∧ E.2.1 2 ≤ 9 := by
  have h4 : 50 ≤ E.2.1 4 ∧ E.2.1 4 ≤ 99 := hE.1 4 (by decide)
  have h2 : 1 ≤ E.2.1 2 ∧ E.2.1 2 ≤ 9 := hE.1 2 (by decide)
  exact ⟨h4.1, h4.2, h2.1, h2.2⟩
theorem z_kT (hE : zd_ok E) : kT (zT E w) (zn E) (E.2.1 4) := ten_kT ⟨(b_of hE).1, (b_of hE).2.1⟩ (wh_of hE).2.2.2.2.2
theorem z_tT : tT (zT E w) := ten_tT
theorem z_cT (hR : rR R u w) (hw : w_c I w) (hok : w_ok w) (hs : st_at I) (hE : zd_ok E) (hov : ∀ j, j < 6 → I 14 u j = nI (E.2.1 j)) (hB : bs_at I u (zn E) (sp_B (E.2.1 0) (E.2.1 1))) (hsh : ∀ c, c < 25 → I 15 u c = nI (zd_sh E.2.2.2.1 c)) : cT (zT E w) (zn E) (E.2.1 4) R Q I := by
  have hn : zn E ≤ 25 := (wh_of hE).2.2.2.2.2
  refine real_cT (G := zf_ok) (rR_kk hR) (fun p hp => rF_pp hR.1 hp) hn hB (fun c hc => hsh c (by omega)) (hov 3 (by decide)) (hov 4 (by decide)) (fun d J p hf hp => ?_) (fun f g h => zV_cg h) (fun m P q k hI hq hk _ f hf => let_ok hE (b_of hE).2.1 hn hI hq hk hf)
  have h21 := hR.2.2.2.2
  obtain ⟨c, Ks, o⟩ := w
  cases o with
  | none => exact Or.inl ⟨h21, rfl⟩
  | some l =>
    have hl : l < c := hok.2.2 l rfl
    have hc4 : c ≤ 4 := hok.1
    refine Or.inr ⟨l + 1, h21, fun K hK hG => ?_⟩
    obtain ⟨o1, o2⟩ := hok.2.1 l hl
    have e1 : ∀ a b j, a = 27 ∨ a = 101 ∨ (a = 3 ∧ ¬ j = 3) → K a b j = I a b j := fun a b j h => (hK _ _ _ (fun w => by unfold kk_S at w; omega)).trans (hf _ _ _ (fun w => by unfold ev_S at w; omega))
    have hlw := hw.2.2 l hl
    have hlwK : lw_at K (l + 1) ((zl_cls (Ks l)).map zl_c) := ⟨(e1 _ _ _ (by omega)).trans hlw.1, fun i hi => (e1 _ _ _ (by omega)).trans (hlw.2 i hi)⟩
    have hsK : st_at K := fun j i hj hi => (e1 _ _ _ (by omega)).trans (hs j i hj hi)
    obtain ⟨K2, g, fK⟩ := c_worth (d := d + 5) (Q := Q) (rF_lw hR.1 (l + 1) (by omega)) hlwK o2 hsK o1 hG
    exact ⟨K2, g, fr_mo fK fun a b j w => by unfold law_S; unfold lk_S at w; omega⟩
theorem z_mT (hr : mm_R R) (hw : w_m I w) (hok : w_ok w) (hE : zd_ok E) (hov : ∀ j, j < 6 → I 56 0 j = nI (E.2.1 j)) (hsh : ∀ c, c < 25 → I 58 0 c = nI (zd_sh E.2.2.2.1 c)) : mT (zT E w) (zn E) (E.2.1 4) R Q I := by
  obtain ⟨w1, w5, h1, h5, n1, hn⟩ := wh_of hE
  have hn : zn E ≤ 25 := hn
  refine real_mT (G := zf_ok) hr ⟨hov 0 (by decide), hov 1 (by decide), w1, w5, h5, rfl⟩ hn (fun c hc => hsh c (by omega)) (hov 3 (by decide)) (hov 4 (by decide)) (fun d J hf => ?_) (fun f g h => zV_cg h) (fun m P q k hI hq hk _ f hf => let_ok hE (b_of hE).2.1 hn hI hq hk hf)
  obtain ⟨c, Ks, o⟩ := w
  have e33 : J 12 0 33 = I 12 0 33 := hf _ _ _ (fun w => by unfold mev_S at w; omega)
  cases o with
  | none => exact Or.inl ⟨e33.trans hw.2.1, rfl⟩
  | some l =>
    have hl : l < c := hok.2.2 l rfl
    have hc4 : c ≤ 4 := hok.1
    refine Or.inr ⟨l, by omega, e33.trans hw.2.1, fun K hK hG => ?_⟩
    obtain ⟨o1, o2⟩ := hok.2.1 l hl
    have e1 : ∀ a j, 43 ≤ a → a ≤ 49 → K a 0 j = I a 0 j := fun a j h h' => (hK _ _ _ (fun w => by unfold mk_S at w; omega)).trans (hf _ _ _ (fun w => by unfold mev_S at w; omega))
    have hlw := hw.2.2 l hl
    have hlwK : zm_law K l (Ks l) := ⟨⟨(e1 _ _ (by omega) (by omega)).trans hlw.1.1, fun i hi => ⟨(e1 _ _ (by omega) (by omega)).trans (hlw.1.2 i hi).1, (e1 _ _ (by omega) (by omega)).trans (hlw.1.2 i hi).2⟩⟩, (e1 _ _ (by omega) (by omega)).trans hlw.2.1, fun i hi => ⟨(e1 _ _ (by omega) (by omega)).trans (hlw.2.2 i hi).1, (e1 _ _ (by omega) (by omega)).trans (hlw.2.2 i hi).2.1, (e1 _ _ (by omega) (by omega)).trans (hlw.2.2 i hi).2.2⟩⟩
    have hlen := cls_len _ o1
    obtain ⟨K2, g, fK⟩ := m_worthOf (d := d + 2) (Q := Q) hr (show l < 5 by omega) (show (Ks l).length ≤ 140 by have : 2 * (Ks l).length ≤ (zl_cls (Ks l)).length := hlen.1; have : (zl_cls (Ks l)).length ≤ 240 := o2; omega) (show (zk_fl (Ks l)).length ≤ 480 by have : (zk_fl (Ks l)).length ≤ (zl_cls (Ks l)).length := hlen.2; have : (zl_cls (Ks l)).length ≤ 240 := o2; omega) o1 hlwK hG
    exact ⟨K2, g, fK⟩
end
