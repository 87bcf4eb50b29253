/-! The constructors: what is made, in its order. -/
theorem ord_pos : ∀ i, i < 365 → am_od.idxOf (am_ord i) = i := by decide +kernel
theorem ord_inj {i m : Nat} (hi : i < 365) (hm : m < 365) (h : am_ord i = am_ord m) : i = m := by rw [← ord_pos i hi, h, ord_pos m hm]
theorem ord_127 : ∀ i, i < 365 → am_ord i % 128 < 100 := by decide +kernel
/-- n are made; what is to come holds nothing -/
def cr (n : Nat) (R : am_R) : Prop := n ≤ 365 ∧ R 127 0 0 = some n ∧ (∀ m, n ≤ m → m < 365 → ∀ j, R (am_ord m % 128) (am_ord m / 128) j = none) ∧ R 126 0 0 = none
/-- what was made before the p-th is as it was -/
def od (p : Nat) (R R' : am_R) : Prop := ∀ q, q < p → ∀ j, R' (am_ord q % 128) (am_ord q / 128) j = R (am_ord q % 128) (am_ord q / 128) j
/-- what was set stays -/
def cm (R R' : am_R) : Prop := ∀ a b j v, ¬ a = 127 → R a b j = some v → R' a b j = some v
/-- of an object no more is set than S -/
def un (c k : Nat) (S : Nat → Prop) (R : am_R) : Prop := ∀ j, ¬ S j → R c k j = none
/-- what was made before the s-th is as it was, but for the p-th -/
def fx (s p : Nat) (R R' : am_R) : Prop := ∀ q, q < s → ¬ q = p → ∀ j, R' (am_ord q % 128) (am_ord q / 128) j = R (am_ord q % 128) (am_ord q / 128) j
def zI (I : am_I) : Prop := ∀ a b j, a < 100 → ¬ a = 11 → ¬ a = 12 → I a b j = 0
def zQ (Q : am_Q) : Prop := ∀ a b j, Q a b j = 0
section
variable {n p q c k f F : Nat} {I : am_I} {R R' R'' : am_R} {Q : am_Q} {S : Nat → Prop}
theorem cm_rf : cm R R := fun _ _ _ _ _ h => h
theorem cm_tr (h : cm R R') (g : cm R' R'') : cm R R'' := fun a b j v hn w => g a b j v hn (h a b j v hn w)
theorem od_rf : od p R R := fun _ _ _ => rfl
theorem od_tr (h : od p R R') (g : od p R' R'') : od p R R'' := fun q hq j => (g q hq j).trans (h q hq j)
theorem od_mo (h : od p R R') (hq : q ≤ p) : od q R R' := fun x hx j => h x (by omega) j
theorem ord_k (o : am_ord p = am_mk c k) (hc : c < 128) : am_ord p % 128 = c ∧ am_ord p / 128 = k := ⟨by rw [o, am_mk_kd hc], by rw [o, am_mk_in hc]⟩
theorem un_od (h : un c k S R) (g : od q R R') (o : am_ord p = am_mk c k) (hc : c < 128) (hp : p < q) : un c k S R' := fun j hj => by
  have := g p hp j
  rw [(ord_k o hc).1, (ord_k o hc).2] at this
  exact this.trans (h j hj)
/-- one more is made -/
theorem st_new (h : cr n R) (hn : n < 365) : ∃ R1, am_sR R 127 0 (fun _ => some (n + 1)) = R1 ∧ cr (n + 1) R1 ∧ (∀ a b j, ¬ a = 127 → R1 a b j = R a b j) := by
  have e : ∀ a b j, ¬ a = 127 → am_sR R 127 0 (fun _ => some (n + 1)) a b j = R a b j := fun a b j ha => by
    unfold am_sR
    rw [if_neg (fun w => ha w.1)]
  refine ⟨_, rfl, ⟨hn, ?_, fun m h1 h2 j => ?_, (e _ _ _ (by decide)).trans h.2.2.2⟩, e⟩
  · unfold am_sR
    rw [if_pos ⟨rfl, rfl⟩]
  · rw [e _ _ _ (by have := ord_127 m h2; omega)]
    exact h.2.2.1 m (by omega) h2 j
theorem of_127 (e : ∀ a b j, ¬ a = 127 → R' a b j = R a b j) (hp : p ≤ 365) : od p R R' ∧ cm R R' := ⟨fun q hq j => e _ _ _ (by have := ord_127 q (by omega); omega), fun a b j v hn w => (e a b j hn).trans w⟩
/-- what is new holds nothing -/
theorem un_new (h : cr n R) (hn : n < 365) (o : am_ord n = am_mk c k) (hc : c < 100) (e : ∀ a b j, ¬ a = 127 → R' a b j = R a b j) : un c k (fun _ => False) R' := fun j _ => by
  rw [e _ _ _ (by omega)]
  have := h.2.2.1 n (Nat.le_refl _) hn j
  rw [(ord_k o (by omega)).1, (ord_k o (by omega)).2] at this
  exact this
theorem n0 (h : cr n R) (hn : n < 365) (o : am_ord n = am_mk c k) (hc : c < 100) (hI : ∀ j, I c k j = 0) (hQ : zQ Q) (m : Nat) : am_new0 m (am_mk c k) I R Q := fun j _ => by
  rw [am_mk_kd (show c < 128 by omega), am_mk_in (show c < 128 by omega)]
  have := h.2.2.1 n (Nat.le_refl _) hn j
  rw [(ord_k o (by omega)).1, (ord_k o (by omega)).2] at this
  exact ⟨hI j, this, hQ _ _ _⟩
/-- a field of the p-th is set, for the first time -/
theorem st_put (h : cr n R) (o : am_ord p = am_mk c k) (hc : c < 100) (hp : p < n) (u : un c k S R) (f v : Nat) (hf : ¬ S f) : ∃ R1, am_sR R c k (am_uR (R c k) f (some v)) = R1 ∧ cr n R1 ∧ od p R R1 ∧ cm R R1 ∧ un c k (fun j => j = f ∨ S j) R1 ∧ R1 c k f = some v ∧ (∀ y z j, ¬ (y = c ∧ z = k ∧ j = f) → R1 y z j = R y z j) := by
  obtain ⟨R1, e, e1, e2⟩ := wrR R c k f (some v)
  have hn := h.1
  have ne : ∀ m, m < 365 → ¬ m = p → ¬ (am_ord m % 128 = c ∧ am_ord m / 128 = k) := fun m hm hne w => hne (ord_inj hm (by omega) (by
    rw [o]
    unfold am_mk
    omega))
  refine ⟨R1, e, ⟨h.1, (e2 _ _ _ (by omega)).trans h.2.1, fun m h1 h2 j => ?_, (e2 _ _ _ (by omega)).trans h.2.2.2⟩, fun q hq j => ?_, fun a b j w hw hh => ?_, fun j hj => ?_, e1, e2⟩
  · rw [e2 _ _ _ (fun w => ne m h2 (by omega) ⟨w.1, w.2.1⟩)]
    exact h.2.2.1 m h1 h2 j
  · exact e2 _ _ _ (fun w => ne q (by omega) (by omega) ⟨w.1, w.2.1⟩)
  · rw [e2 _ _ _ (fun w => ?_)]
    · exact hh
    · obtain ⟨rfl, rfl, rfl⟩ := w
      rw [u _ hf] at hh
      cases hh
  · rw [e2 _ _ _ (fun w => hj (Or.inl w.2.2))]
    exact u j (fun w => hj (Or.inr w))
theorem un_fr {a b f : Nat} (h : un c k S R) (x : ∀ y z j, ¬ (y = a ∧ z = b ∧ j = f) → R' y z j = R y z j) (ha : ¬ c = a) : un c k S R' := fun j hj => (x _ _ _ (fun w => ha w.1)).trans (h j hj)
theorem fx_od {s : Nat} (h : od n R R') (hs : s ≤ n) : fx s p R R' := fun q hq _ j => h q (by omega) j
theorem fx_tr {s : Nat} (h : fx s p R R') (g : fx s p R' R'') : fx s p R R'' := fun q hq hn j => (g q hq hn j).trans (h q hq hn j)
theorem fx_put {s : Nat} (o : am_ord p = am_mk c k) (hc : c < 128) (hp : p < 365) (hs : s ≤ 365) (x : ∀ y z j, ¬ (y = c ∧ z = k ∧ j = f) → R' y z j = R y z j) : fx s p R R' := fun q hq hn j => x _ _ _ (fun w => hn (ord_inj (by omega) hp (by
  rw [o]
  have h1 := w.1
  have h2 := w.2.1
  unfold am_mk
  omega)))
theorem un_fx {s : Nat} (h : un c k S R) (g : fx s p R R') (o : am_ord q = am_mk c k) (hc : c < 128) (hq : q < s) (hn : ¬ q = p) : un c k S R' := fun j hj => by
  have := g q hq hn j
  rw [(ord_k o hc).1, (ord_k o hc).2] at this
  exact this.trans (h j hj)
theorem pp_cm {p : Nat} (c : cm R R') (h : pp_R R p) : pp_R R' p := ⟨c _ _ _ _ (by decide) h.1, c _ _ _ _ (by decide) h.2.1, c _ _ _ _ (by decide) h.2.2.1, c _ _ _ _ (by decide) h.2.2.2⟩
end
