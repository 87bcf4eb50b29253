/-! A call of a method on both sides: what it must keep. -/
def clS : Nat → Nat → Nat → Prop := fun a _ _ => a < 12 ∨ (13 ≤ a ∧ a ≤ 41)
def mdS : Nat → Nat → Nat → Prop := fun a _ _ => a = 12 ∨ (42 ≤ a ∧ a ≤ 71)
def op_c (Mc : Nat) (as : List Value) (s : zSt) (v : Int32) (s' : zSt) : Prop := ∀ (d u : Nat) (I : am_I) (R : am_R) (Q : am_Q), rel_c s u I R → ∃ (J : am_I) (R' : am_R) (u' : Nat), am_cal (d + 90) Mc (.ref (am_mk 11 0) :: as) I R Q = some (some (.int v), J, R', Q) ∧ am_fr clS I J ∧ rel_c s' u' J R' ∧ ∀ a b j, ¬ (a = 2 ∨ a = 7) → R' a b j = R a b j
def op_m (Mm : Nat) (as : List Value) (s : zSt) (v : Int32) (s' : zSt) : Prop := ∀ (d : Nat) (I : am_I) (R : am_R) (Q : am_Q), mm_R R → rel_m s I → ∃ (J : am_I) (Q' : am_Q), am_cal (d + 90) Mm (.ref (am_mk 12 0) :: as) I R Q = some (some (.int v), J, R, Q') ∧ am_fr mdS I J ∧ rel_m s' J ∧ ∀ a b j, ¬ a = 12 → Q' a b j = Q a b j
def op1 (Mc Mm : Nat) (as : List Value) (s : zSt) : Prop := ∃ v s', op_c Mc as s v s' ∧ op_m Mm as s v s' ∧ rel_ok s'
def qC (u : Nat) : Nat → Nat → Nat → Prop := fun a b j => clS a b j ∧ fC u a b j
def qM (n : Nat) : Nat → Nat → Nat → Prop := fun a b j => mdS a b j ∧ (¬ b = 0 ∨ fM6 n a b j)
def z60 (s : zSt) (I J : am_I) : Prop := match s.2.2.2.2 with
  | none => ∀ j, j < 102 → J 60 0 j = I 60 0 j
  | some l => mm_at J (l.2.2.1 l.2.1)
section
variable {Mc Mm : Nat} {as : List Value} {s : zSt} {v : Int32}
theorem relm_q {I J : am_I} (h : rel_m s I) (hok : rel_ok s) (hf : am_fr (qM s.2.1.1) I J) (h60 : z60 s I J) : rel_m s J := by
  have hg : am_fr (fM6 s.2.1.1) I (fun a b j => if b = 0 then J a b j else I a b j) := fun a b j w => by
    by_cases e : b = 0
    · show (if b = 0 then J a b j else I a b j) = _
      rw [if_pos e]; exact hf _ _ _ (fun q => q.2.elim (fun z => z e) w)
    · exact if_neg e
  have hh := relm_fr6 h hok hg h60
  exact hh
theorem z60_rf {I : am_I} (h : rel_m s I) (hok : rel_ok s) : z60 s I I := by
  obtain ⟨s1, s2, s3, s4, o⟩ := s
  cases o with
  | none => exact fun _ _ => rfl
  | some l =>
    obtain ⟨E, k, PK, tk, EL, im, ⟨k0, N0⟩, k1, N1⟩ := l
    obtain ⟨-, ⟨m1, m2, m3, m4⟩, -⟩ := h.2
    have hI := (hok.2.2.2 _ rfl).2.1.2.1 k (Nat.le_refl _)
    have hI4 : PK k 4 0 = nI (zn E) := hI.1.1
    exact sn_mm m4 (m1.trans hI4.symm)
theorem op_q (hok : rel_ok s) (hc : ∀ (d u : Nat) (I : am_I) (R : am_R) (Q : am_Q), rel_c s u I R → ∃ J, am_cal (d + 90) Mc (.ref (am_mk 11 0) :: as) I R Q = some (some (.int v), J, R, Q) ∧ am_fr (qC u) I J) (hm : ∀ (d : Nat) (I : am_I) (R : am_R) (Q : am_Q), mm_R R → rel_m s I → ∃ J, am_cal (d + 90) Mm (.ref (am_mk 12 0) :: as) I R Q = some (some (.int v), J, R, Q) ∧ am_fr (qM s.2.1.1) I J ∧ z60 s I J) : op1 Mc Mm as s := by
  refine ⟨v, s, fun d u I R Q h => ?_, fun d I R Q hr h => ?_, hok⟩
  · obtain ⟨J, g, f⟩ := hc d u I R Q h
    exact ⟨J, R, u, g, fr_mo f fun a b j w => w.1, relc_fr h hok (fr_mo f fun a b j w => w.2), fun _ _ _ _ => rfl⟩
  · obtain ⟨J, g, f, z⟩ := hm d I R Q hr h
    exact ⟨J, Q, g, fr_mo f fun a b j w => w.1, relm_q h hok f z, fun _ _ _ _ => rfl⟩
theorem op_k (hok : rel_ok s) (hc : ∀ (d u : Nat) (I : am_I) (R : am_R) (Q : am_Q), rel_c s u I R → am_cal (d + 90) Mc (.ref (am_mk 11 0) :: as) I R Q = some (some (.int v), I, R, Q)) (hm : ∀ (d : Nat) (I : am_I) (R : am_R) (Q : am_Q), mm_R R → rel_m s I → am_cal (d + 90) Mm (.ref (am_mk 12 0) :: as) I R Q = some (some (.int v), I, R, Q)) : op1 Mc Mm as s := op_q hok (fun d u I R Q h => ⟨I, hc d u I R Q h, fr_rf⟩) (fun d I R Q hr h => ⟨I, hm d I R Q hr h, fr_rf, z60_rf h hok⟩)
end
def lF (w : zLw) (E : zE) (k : Nat) (PK : Nat → Nat → Nat → Int32) (tk : Nat → Nat) : Prop := (1 ≤ zn E) ∧ (zn E ≤ 25) ∧ (1 ≤ E.2.1 4 ∧ E.2.1 4 ≤ 99) ∧ (E.2.1 2 ≤ 9) ∧ (1 ≤ E.2.1 2) ∧ (1 ≤ E.2.1 0 ∧ E.2.1 0 ≤ 5 ∧ 1 ≤ E.2.1 1 ∧ E.2.1 1 ≤ 5) ∧ (kT (zT E w) (zn E) (E.2.1 4)) ∧ (tT (zT E w)) ∧ (pt_I (zn E) (E.2.1 4) (tk k) (PK k)) ∧ (PK k 4 1 = nI (tk k)) ∧ (tk k ≤ 9999) ∧ (k ≤ 40)
theorem lF.n1 {w : zLw} {E : zE} {k : Nat} {PK : Nat → Nat → Nat → Int32} {tk : Nat → Nat} (h : lF w E k PK tk) : 1 ≤ zn E := h.1
theorem lF.n25 {w : zLw} {E : zE} {k : Nat} {PK : Nat → Nat → Nat → Int32} {tk : Nat → Nat} (h : lF w E k PK tk) : zn E ≤ 25 := h.2.1
theorem lF.b1 {w : zLw} {E : zE} {k : Nat} {PK : Nat → Nat → Nat → Int32} {tk : Nat → Nat} (h : lF w E k PK tk) : 1 ≤ E.2.1 4 ∧ E.2.1 4 ≤ 99 := h.2.2.1
theorem lF.q9 {w : zLw} {E : zE} {k : Nat} {PK : Nat → Nat → Nat → Int32} {tk : Nat → Nat} (h : lF w E k PK tk) : E.2.1 2 ≤ 9 := h.2.2.2.1
theorem lF.q1 {w : zLw} {E : zE} {k : Nat} {PK : Nat → Nat → Nat → Int32} {tk : Nat → Nat} (h : lF w E k PK tk) : 1 ≤ E.2.1 2 := h.2.2.2.2.1
theorem lF.wh {w : zLw} {E : zE} {k : Nat} {PK : Nat → Nat → Nat → Int32} {tk : Nat → Nat} (h : lF w E k PK tk) : 1 ≤ E.2.1 0 ∧ E.2.1 0 ≤ 5 ∧ 1 ≤ E.2.1 1 ∧ E.2.1 1 ≤ 5 := h.2.2.2.2.2.1
theorem lF.hk {w : zLw} {E : zE} {k : Nat} {PK : Nat → Nat → Nat → Int32} {tk : Nat → Nat} (h : lF w E k PK tk) : kT (zT E w) (zn E) (E.2.1 4) := h.2.2.2.2.2.2.1
theorem lF.ht {w : zLw} {E : zE} {k : Nat} {PK : Nat → Nat → Nat → Int32} {tk : Nat → Nat} (h : lF w E k PK tk) : tT (zT E w) := h.2.2.2.2.2.2.2.1
theorem lF.pt {w : zLw} {E : zE} {k : Nat} {PK : Nat → Nat → Nat → Int32} {tk : Nat → Nat} (h : lF w E k PK tk) : pt_I (zn E) (E.2.1 4) (tk k) (PK k) := h.2.2.2.2.2.2.2.2.1
theorem lF.p1 {w : zLw} {E : zE} {k : Nat} {PK : Nat → Nat → Nat → Int32} {tk : Nat → Nat} (h : lF w E k PK tk) : PK k 4 1 = nI (tk k) := h.2.2.2.2.2.2.2.2.2.1
theorem lF.tm {w : zLw} {E : zE} {k : Nat} {PK : Nat → Nat → Nat → Int32} {tk : Nat → Nat} (h : lF w E k PK tk) : tk k ≤ 9999 := h.2.2.2.2.2.2.2.2.2.2.1
theorem lF.k40 {w : zLw} {E : zE} {k : Nat} {PK : Nat → Nat → Nat → Int32} {tk : Nat → Nat} (h : lF w E k PK tk) : k ≤ 40 := h.2.2.2.2.2.2.2.2.2.2.2
def lC (w : zLw) (E : zE) (P : Nat → Nat → Int32) (u : Nat) (I : am_I) (R : am_R) (Q : am_Q) : Prop := (pa_R R) ∧ (aa_R R u) ∧ (kk_R R u) ∧ (ds_R R u) ∧ (nt_R R 0) ∧ (nt_R R 1) ∧ (I 9 12 4 = nI (zn E)) ∧ (pp_at I 12 P) ∧ (cT (zT E w) (zn E) (E.2.1 4) R Q I) ∧ (∀ j, j < 6 → I 14 u j = nI (E.2.1 j)) ∧ (bs_at I u (zn E) (sp_B (E.2.1 0) (E.2.1 1))) ∧ (∀ c, c < 25 → I 15 u c = nI (zd_sh E.2.2.2.1 c)) ∧ (R 11 0 9 = some (am_mk 1 0)) ∧ (R 11 0 16 = some (am_mk 8 0)) ∧ (R 11 0 17 = some (am_mk 8 1))
theorem lC.pa {w : zLw} {E : zE} {P : Nat → Nat → Int32} {u : Nat} {I : am_I} {R : am_R} {Q : am_Q} (h : lC w E P u I R Q) : pa_R R := h.1
theorem lC.aa {w : zLw} {E : zE} {P : Nat → Nat → Int32} {u : Nat} {I : am_I} {R : am_R} {Q : am_Q} (h : lC w E P u I R Q) : aa_R R u := h.2.1
theorem lC.kk {w : zLw} {E : zE} {P : Nat → Nat → Int32} {u : Nat} {I : am_I} {R : am_R} {Q : am_Q} (h : lC w E P u I R Q) : kk_R R u := h.2.2.1
theorem lC.ds {w : zLw} {E : zE} {P : Nat → Nat → Int32} {u : Nat} {I : am_I} {R : am_R} {Q : am_Q} (h : lC w E P u I R Q) : ds_R R u := h.2.2.2.1
theorem lC.n0 {w : zLw} {E : zE} {P : Nat → Nat → Int32} {u : Nat} {I : am_I} {R : am_R} {Q : am_Q} (h : lC w E P u I R Q) : nt_R R 0 := h.2.2.2.2.1
theorem lC.n1 {w : zLw} {E : zE} {P : Nat → Nat → Int32} {u : Nat} {I : am_I} {R : am_R} {Q : am_Q} (h : lC w E P u I R Q) : nt_R R 1 := h.2.2.2.2.2.1
theorem lC.h4 {w : zLw} {E : zE} {P : Nat → Nat → Int32} {u : Nat} {I : am_I} {R : am_R} {Q : am_Q} (h : lC w E P u I R Q) : I 9 12 4 = nI (zn E) := h.2.2.2.2.2.2.1
theorem lC.pp {w : zLw} {E : zE} {P : Nat → Nat → Int32} {u : Nat} {I : am_I} {R : am_R} {Q : am_Q} (h : lC w E P u I R Q) : pp_at I 12 P := h.2.2.2.2.2.2.2.1
theorem lC.T {w : zLw} {E : zE} {P : Nat → Nat → Int32} {u : Nat} {I : am_I} {R : am_R} {Q : am_Q} (h : lC w E P u I R Q) : cT (zT E w) (zn E) (E.2.1 4) R Q I := h.2.2.2.2.2.2.2.2.1
theorem lC.ov {w : zLw} {E : zE} {P : Nat → Nat → Int32} {u : Nat} {I : am_I} {R : am_R} {Q : am_Q} (h : lC w E P u I R Q) : ∀ j, j < 6 → I 14 u j = nI (E.2.1 j) := h.2.2.2.2.2.2.2.2.2.1
theorem lC.bs {w : zLw} {E : zE} {P : Nat → Nat → Int32} {u : Nat} {I : am_I} {R : am_R} {Q : am_Q} (h : lC w E P u I R Q) : bs_at I u (zn E) (sp_B (E.2.1 0) (E.2.1 1)) := h.2.2.2.2.2.2.2.2.2.2.1
theorem lC.sh {w : zLw} {E : zE} {P : Nat → Nat → Int32} {u : Nat} {I : am_I} {R : am_R} {Q : am_Q} (h : lC w E P u I R Q) : ∀ c, c < 25 → I 15 u c = nI (zd_sh E.2.2.2.1 c) := h.2.2.2.2.2.2.2.2.2.2.2.1
theorem lC.r9 {w : zLw} {E : zE} {P : Nat → Nat → Int32} {u : Nat} {I : am_I} {R : am_R} {Q : am_Q} (h : lC w E P u I R Q) : R 11 0 9 = some (am_mk 1 0) := h.2.2.2.2.2.2.2.2.2.2.2.2.1
theorem lC.r16 {w : zLw} {E : zE} {P : Nat → Nat → Int32} {u : Nat} {I : am_I} {R : am_R} {Q : am_Q} (h : lC w E P u I R Q) : R 11 0 16 = some (am_mk 8 0) := h.2.2.2.2.2.2.2.2.2.2.2.2.2.1
theorem lC.r17 {w : zLw} {E : zE} {P : Nat → Nat → Int32} {u : Nat} {I : am_I} {R : am_R} {Q : am_Q} (h : lC w E P u I R Q) : R 11 0 17 = some (am_mk 8 1) := h.2.2.2.2.2.2.2.2.2.2.2.2.2.2
def lM (w : zLw) (E : zE) (P : Nat → Nat → Int32) (I : am_I) (R : am_R) (Q : am_Q) : Prop := (I 12 0 30 = nI (zn E)) ∧ (mm_at I P) ∧ (mT (zT E w) (zn E) (E.2.1 4) R Q I) ∧ (∀ j, j < 6 → I 56 0 j = nI (E.2.1 j)) ∧ (mo_at I (E.2.1 0) (E.2.1 1) (zn E)) ∧ (∀ c, c < 25 → I 58 0 c = nI (zd_sh E.2.2.2.1 c)) ∧ mm_R R
theorem lM.hc {w : zLw} {E : zE} {P : Nat → Nat → Int32} {I : am_I} {R : am_R} {Q : am_Q} (h : lM w E P I R Q) : I 12 0 30 = nI (zn E) := h.1
theorem lM.mm {w : zLw} {E : zE} {P : Nat → Nat → Int32} {I : am_I} {R : am_R} {Q : am_Q} (h : lM w E P I R Q) : mm_at I P := h.2.1
theorem lM.T {w : zLw} {E : zE} {P : Nat → Nat → Int32} {I : am_I} {R : am_R} {Q : am_Q} (h : lM w E P I R Q) : mT (zT E w) (zn E) (E.2.1 4) R Q I := h.2.2.1
theorem lM.ov {w : zLw} {E : zE} {P : Nat → Nat → Int32} {I : am_I} {R : am_R} {Q : am_Q} (h : lM w E P I R Q) : ∀ j, j < 6 → I 56 0 j = nI (E.2.1 j) := h.2.2.2.1
theorem lM.mo {w : zLw} {E : zE} {P : Nat → Nat → Int32} {I : am_I} {R : am_R} {Q : am_Q} (h : lM w E P I R Q) : mo_at I (E.2.1 0) (E.2.1 1) (zn E) := h.2.2.2.2.1
theorem lM.sh {w : zLw} {E : zE} {P : Nat → Nat → Int32} {I : am_I} {R : am_R} {Q : am_Q} (h : lM w E P I R Q) : ∀ c, c < 25 → I 58 0 c = nI (zd_sh E.2.2.2.1 c) := h.2.2.2.2.2.1
theorem lM.hr {w : zLw} {E : zE} {P : Nat → Nat → Int32} {I : am_I} {R : am_R} {Q : am_Q} (h : lM w E P I R Q) : mm_R R := h.2.2.2.2.2.2
def nC (u : Nat) (I : am_I) (R : am_R) : Prop := (pa_R R) ∧ (kk_R R u) ∧ (I 9 12 4 = nI 0) ∧ (pp_at I 12 (fun _ _ => nI 0)) ∧ (I 6 u 5 = nI 0)
theorem nC.pa {u : Nat} {I : am_I} {R : am_R} (h : nC u I R) : pa_R R := h.1
theorem nC.kk {u : Nat} {I : am_I} {R : am_R} (h : nC u I R) : kk_R R u := h.2.1
theorem nC.h4 {u : Nat} {I : am_I} {R : am_R} (h : nC u I R) : I 9 12 4 = nI 0 := h.2.2.1
theorem nC.pp {u : Nat} {I : am_I} {R : am_R} (h : nC u I R) : pp_at I 12 (fun _ _ => nI 0) := h.2.2.2.1
theorem nC.ds {u : Nat} {I : am_I} {R : am_R} (h : nC u I R) : I 6 u 5 = nI 0 := h.2.2.2.2
def nM (I : am_I) : Prop := (I 12 0 30 = nI 0) ∧ (mm_at I (fun _ _ => nI 0)) ∧ (∀ j, j < 283 → I 60 0 j = nI 0)
theorem nM.hc {I : am_I} (h : nM I) : I 12 0 30 = nI 0 := h.1
theorem nM.mm {I : am_I} (h : nM I) : mm_at I (fun _ _ => nI 0) := h.2.1
theorem nM.z {I : am_I} (h : nM I) : ∀ j, j < 283 → I 60 0 j = nI 0 := h.2.2
section
variable {tp : Nat × (Nat → Nat)} {w : zLw} {st : Nat} {rf : Nat → Int32} {E : zE} {k : Nat} {PK : Nat → Nat → Nat → Int32} {tk : Nat → Nat} {EL : Nat → Nat → Int32} {im : Option ((Nat → Nat → Int32) × Nat × (Nat → Nat → Int32))} {k0 k1 : Nat} {N0 N1 : Nat → Nat → Nat} {u : Nat} {I : am_I} {R : am_R} {Q : am_Q}
theorem get_l (hok : rel_ok (tp, w, st, rf, some (E, k, PK, tk, EL, im, (k0, N0), (k1, N1)))) : lF w E k PK tk := by
  obtain ⟨⟨hE, hg⟩, ⟨a1, a2, a3⟩, h9, -⟩ := hok.2.2.2 _ rfl
  obtain ⟨w1, w5, h1, h5, n1, n25⟩ := wh_of hE
  obtain ⟨b50, b99, q1, q9⟩ := b_of hE
  exact ⟨n1, n25, ⟨by omega, b99⟩, q9, q1, ⟨w1, w5, h1, h5⟩, z_kT hE, z_tT, (a2 k (Nat.le_refl _)).1, (a2 k (Nat.le_refl _)).2, h9, a1⟩
theorem get_c (h : rel_c (tp, w, st, rf, some (E, k, PK, tk, EL, im, (k0, N0), (k1, N1))) u I R) (hok : rel_ok (tp, w, st, rf, some (E, k, PK, tk, EL, im, (k0, N0), (k1, N1)))) : lC w E (PK k) u I R Q := by
  have L := get_l hok
  obtain ⟨⟨hE, hg⟩, -⟩ := hok.2.2.2 _ rfl
  obtain ⟨hR, ⟨x1, x2, x3, x4, x5, x6, x7⟩, ⟨l1, l2, l3, l4, l5⟩, ⟨f, lo, l6⟩, l7, l8, l9⟩ := h
  have h11 := rF_11 hR.1
  have hpp := l6.2.2.2.2.1
  have h4 : I 9 12 4 = nI (zn E) := hpp.2.1.trans L.pt.1
  exact ⟨hR.1.1, rR_aa hR, rR_kk hR, rF_ds hR.1 hR.2.1, (rF_nt hR.1).1, (rF_nt hR.1).2, h4, hpp, z_cT hR x4 hok.2.1 x2 hE l1 l2 l3, l1, l2, l3, h11.1, h11.2.2.2.2.2.2.1, h11.2.2.2.2.2.2.2⟩
theorem get_m (hr : mm_R R) (h : rel_m (tp, w, st, rf, some (E, k, PK, tk, EL, im, (k0, N0), (k1, N1))) I) (hok : rel_ok (tp, w, st, rf, some (E, k, PK, tk, EL, im, (k0, N0), (k1, N1)))) : lM w E (PK k) I R Q := by
  have L := get_l hok
  obtain ⟨⟨hE, hg⟩, -⟩ := hok.2.2.2 _ rfl
  obtain ⟨⟨x1, x2, x3, x4⟩, ⟨l1, l2, l3, l4⟩, l5, -⟩ := h
  have hm := sn_mm l5.2.2.2 (l5.1.trans L.pt.1.symm)
  exact ⟨l5.1, hm, z_mT hr x2 hok.2.1 hE l1 l2, l1, ⟨l1 0 (by decide), l1 1 (by decide), L.wh.1, L.wh.2.1, L.wh.2.2.2, rfl⟩, l2, hr⟩
theorem get_nc (h : rel_c (tp, w, st, rf, none) u I R) : nC u I R := by
  obtain ⟨hR, -, n1, n2, n3, n4, n5, n6, n7⟩ := h
  exact ⟨hR.1.1, rR_kk hR, n1.2.1, n1, n7⟩
theorem get_nm (h : rel_m (tp, w, st, rf, none) I) : nM I := by
  obtain ⟨-, n1, n2, -⟩ := h
  exact ⟨n1, ⟨fun c hc => ⟨n2 _ (by omega), n2 _ (by omega), n2 _ (by omega), n2 _ (by omega)⟩, n1, n2 _ (by decide), n2 _ (by decide)⟩, n2⟩
end
section
variable {d n q u : Nat} {I : am_I} {R : am_R} {Q : am_Q} {x lo hi : Int32} {P : Nat → Nat → Int32}
theorem m_lunch (h : I 12 0 30 = nI n) (hn : n ≤ 25) : am_cal d 202 [.ref (am_mk 12 0)] I R Q = some (some (.int (if n = 0 then nI 0 else nI 1)), I, R, Q) := by
  rw [m_isLunch, h]
  by_cases e : n = 0
  · subst e; rfl
  · rw [if_neg e, if_neg (by rw [nI_le0 (by omega)]; omega)]
theorem m_inX : am_cal d 156 [.int x, .int lo, .int hi] I R Q = some (some (.int (if lo ≤ x ∧ x ≤ hi then nI 1 else nI 0)), I, R, Q) := by
  rw [m_in]
  by_cases e : lo ≤ x ∧ x ≤ hi
  · rw [if_pos e, if_neg (Int32.not_lt.mpr e.1), if_neg (Int32.not_lt.mpr e.2)]
  · rw [if_neg e]
    by_cases e1 : lo ≤ x
    · rw [if_neg (Int32.not_lt.mpr e1), if_pos (Int32.not_le.mp (fun q => e ⟨e1, q⟩))]
    · rw [if_pos (Int32.not_le.mp e1)]
theorem m_power0 (h : I 12 0 30 = nI 0) : am_cal (d + 1) 205 [.ref (am_mk 12 0), .int x] I R Q = some (some (.int (nI 0)), I, R, Q) := by
  have hl := m_lunch (d := d) (R := R) (Q := Q) h (by decide)
  rw [if_pos rfl] at hl
  rw [s205]
  simp (disch := first | omega | assumption) only [s205_0, s205_1, s205_4, s205_7, s205_8, s205_9, s205_10, s205_13, s205_14, s205_15, s205_18, s205_21, s205_22, s205_25, s205_26, nI_le2, nI_lt2, nI_eq2, nI_lt0, nI_0le, nI_0lt, nI_le0, nI_eq0, nI_clamp, nI_add, bu_nI, bb_0, bb_1, rf_s, rf_n, tl_s, tl_n, am_th_some, if_true, if_false, sI_eq, uI_eq, and_self, true_and, and_true, not_false_eq_true, not_true_eq_false, Nat.reduceEqDiff, Nat.reduceLeDiff, Nat.reduceLT, Nat.reduceAdd, Nat.reduceMul, Nat.reduceSub, Nat.zero_add, hl]
/-- a number of a range -/
theorem in_nat {b : Nat} (hb : b < 2 ^ 31) (h : nI 0 ≤ x ∧ x ≤ nI b) : ∃ k, k ≤ b ∧ x = nI k := by
  refine Classical.byContradiction fun hno => ?_
  have hh := tsw_out hb fun k hk e => hno ⟨k, hk, e⟩
  have h1 := Int32.le_iff_toInt_le.mp h.1
  have h2 := Int32.le_iff_toInt_le.mp h.2
  rw [nI_toInt (by decide)] at h1
  rw [nI_toInt hb] at h2
  omega
theorem in_nat1 {b : Nat} (hb : b < 2 ^ 31) (h : nI 1 ≤ x ∧ x ≤ nI b) : ∃ k, 1 ≤ k ∧ k ≤ b ∧ x = nI k := by
  obtain ⟨k, hk, e⟩ := in_nat hb ⟨Int32.le_trans (by decide) h.1, h.2⟩
  refine ⟨k, ?_, hk, e⟩
  have h1 := h.1
  rw [e, nI_le2 (by decide) (by omega)] at h1
  exact h1
end
