/-! LAW texts: what is read, the class. A token: a number, or 10000 and its byte. -/
def zl_c (t : Nat) : Int32 := if t < 10000 then nI t else -nI (t - 10000)
def zc_R (R : am_R) : Prop := tc_R R ∧ lw_R R 0 ∧ R 4 0 0 = some (am_mk 10 0) ∧ R 4 0 1 = some (am_mk 3 0)
def zc_S : Nat → Nat → Nat → Prop := fun a b j => (a = 10 ∧ j = 2) ∨ (a = 27 ∧ b = 0) ∨ (a = 3 ∧ b = 0 ∧ j = 1)
def zc_at (I : am_I) (L : Nat) (B : Nat → Nat) (a : Nat) (C : List Nat) : Prop := tc_at I L B ∧ st_at I ∧ I 10 0 2 = nI a ∧ lw_at I 0 (C.map zl_c)
def zc_K (L : Nat) (B : Nat → Nat) (N M : Nat) (args : List Value) (a : Nat) (ok : Bool) (a' : Nat) (C : List Nat) : Prop := ∀ (d : Nat) (I : am_I) (R : am_R) (Q : am_Q) (C0 : List Nat), N ≤ d → zc_R R → zc_at I L B a C0 → C0.length ≤ a → ∃ (J : am_I) (C1 : List Nat), am_cal d M args I R Q = some (some (.int (if ok = true then nI 1 else nI 0)), J, R, Q) ∧ am_fr zc_S I J ∧ zc_at J L B a' C1 ∧ C1.length + a ≤ C0.length + a' ∧ (ok = true → C1 = C0 ++ C)
def zc_W (L : Nat) (B : Nat → Nat) (N M pc : Nat) (ls : Nat → Value → List Value) (a : Nat) (ok : Bool) (a' : Nat) (C : List Nat) : Prop := ∀ (d : Nat) (I : am_I) (R : am_R) (Q : am_Q) (C0 : List Nat) (i : Nat) (l : Value), N ≤ d → zc_R R → zc_at I L B a C0 → C0.length ≤ a → i ≤ a → ∃ (J : am_I) (C1 : List Nat), am_ev d M pc (ls i l) [] I R Q = some (some (.int (if ok = true then nI 1 else nI 0)), J, R, Q) ∧ am_fr zc_S I J ∧ zc_at J L B a' C1 ∧ C1.length + a ≤ C0.length + a' ∧ (ok = true → C1 = C0 ++ C)
theorem st_fr {Z : Nat → Nat → Nat → Prop} {I J : am_I} (h : st_at I) (hf : am_fr Z I J) (h2 : ∀ a b, ¬ Z 101 a b) : st_at J := fun j i hj hi => (hf _ _ _ (h2 _ _)).trans (h j i hj hi)
theorem sk_n {L : Nat} {B : Nat → Nat} : ∀ m a, L - a ≤ m → ¬ (sp_sk L B a < L ∧ B (sp_sk L B a) = 32) := by
  intro m
  induction m with
  | zero => intro a h; rw [sk_e (by omega)]; omega
  | succ m ih =>
    intro a h
    by_cases e : a < L ∧ B a = 32
    · rw [sk_s e.1 e.2]; exact ih (a + 1) (by omega)
    · rw [sk_e e]; exact e
theorem sk_sk {L : Nat} {B : Nat → Nat} {a : Nat} : sp_sk L B (sp_sk L B a) = sp_sk L B a := sk_e (sk_n _ a (Nat.le_refl _))
theorem hr_in {L : Nat} {B : Nat → Nat} {j a : Nat} (hj : j < 8) (h : sp_in j (sp_hr L B a)) : a < L := by
  unfold sp_hr at h
  by_cases e : a < L
  · exact e
  · rw [if_neg e] at h; exact absurd h (strs_0 j hj)
theorem hr_ltx {L : Nat} {B : Nat → Nat} {a x : Nat} (h : sp_hr L B a = x) (hx : 0 < x) : a < L := by
  unfold sp_hr at h
  by_cases e : a < L
  · exact e
  · rw [if_neg e] at h; omega
section
variable {d L a : Nat} {I : am_I} {R : am_R} {Q : am_Q} {B : Nat → Nat} {C : List Nat}
theorem zc_t {J : am_I} {a' : Nat} (h : zc_at I L B a C) (hf : am_fr tc_S I J) (h2 : J 10 0 2 = nI a') : am_fr zc_S I J ∧ zc_at J L B a' C := ⟨fr_mo hf fun a b j w => Or.inl w, tc_fr h.1 hf (fun w => by unfold tc_S at w; omega) (fun j w => by unfold tc_S at w; omega), st_fr h.2.1 hf (fun a b w => by unfold tc_S at w; omega), h2, lw_fr h.2.2.2 hf (fun w => by unfold tc_S at w; omega) (fun j w => by unfold tc_S at w; omega)⟩
theorem zc_sign (hr : zc_R R) (hk : tp_ok L B) (h : zc_at I L B a C) (haL : a ≤ L) : ∃ J, am_cal (d + 1) 90 [.ref (am_mk 10 0)] I R Q = some (some (.int (nI (sp_hr L B (sp_sk L B a)))), J, R, Q) ∧ am_fr zc_S I J ∧ zc_at J L B (sp_sk L B a) C := by
  obtain ⟨J, g1, g2, g3⟩ := c_sign (d := d) (Q := Q) hr.1 hk h.1 h.2.2.1 haL
  exact ⟨J, g1, zc_t h g2 g3⟩
theorem zc_oneOf (hr : zc_R R) (hk : tp_ok L B) (h : zc_at I L B a C) (haL : a ≤ L) {j : Nat} (hj : j < 8) : ∃ J, am_cal (d + 2) 91 [.ref (am_mk 10 0), .ref (am_mk 100 j)] I R Q = some (some (.int (if sp_in j (sp_hr L B (sp_sk L B a)) then nI 1 else nI 0)), J, R, Q) ∧ am_fr zc_S I J ∧ zc_at J L B (sp_sk L B a) C := by
  obtain ⟨J, g1, g2, g3⟩ := c_oneOf (d := d) (Q := Q) hr.1 hk h.1 h.2.1 h.2.2.1 haL hj
  exact ⟨J, g1, zc_t h g2 g3⟩
theorem zc_pass (hk : tp_ok L B) (h : zc_at I L B a C) (haL : a < L) : ∃ J, am_cal d 92 [.ref (am_mk 10 0)] I R Q = some (none, J, R, Q) ∧ am_fr zc_S I J ∧ zc_at J L B (a + 1) C := by
  obtain ⟨J, g1, g2, g3⟩ := c_tpass (d := d) (R := R) (Q := Q) h.1 hk.1 h.2.2.1 (by omega)
  rw [if_pos haL] at g3
  exact ⟨J, g1, zc_t h g2 g3⟩
theorem zc_passes (hr : zc_R R) (hk : tp_ok L B) (h : zc_at I L B a C) (haL : a ≤ L) {x : Nat} (hx : x < 2 ^ 31) : ∃ J, am_cal (d + 2) 93 [.ref (am_mk 10 0), .int (nI x)] I R Q = some (some (.int (if sp_hr L B (sp_sk L B a) = x then nI 1 else nI 0)), J, R, Q) ∧ am_fr zc_S I J ∧ zc_at J L B (if sp_hr L B (sp_sk L B a) = x then sp_sk L B a + 1 else sp_sk L B a) C := by
  obtain ⟨J, g1, g2, g3⟩ := c_passes (d := d) (Q := Q) hr.1 hk h.1 h.2.2.1 haL hx
  exact ⟨J, g1, zc_t h g2 g3⟩
theorem zc_add (hr : zc_R R) (h : zc_at I L B a C) (hl : C.length < 240) (t : Nat) : ∃ J, am_cal d 28 [.ref (am_mk 3 0), .int (zl_c t)] I R Q = some (none, J, R, Q) ∧ am_fr zc_S I J ∧ zc_at J L B a (C ++ [t]) := by
  obtain ⟨J, g1, g2, g3⟩ := c_ladd (d := d) (Q := Q) (x := zl_c t) hr.2.1 h.2.2.2 (by rw [List.length_map]; exact hl)
  have hz : ∀ (a b j : Nat), la_S 0 a b j → (a = 27 ∧ b = 0) ∨ (a = 3 ∧ b = 0 ∧ j = 1) := fun a b j w => w
  refine ⟨J, g1, fr_mo g2 fun a b j w => Or.inr w, tc_fr h.1 g2 (fun w => by have := hz _ _ _ w; omega) (fun j w => by have := hz _ _ _ w; omega), st_fr h.2.1 g2 (fun a b w => by have := hz _ _ _ w; omega), (g2 _ _ _ (fun w => by have := hz _ _ _ w; omega)).trans h.2.2.1, ?_⟩
  rw [List.map_append]
  exact g3
theorem zl_neg {x : Nat} (hx : 0 < x) : -nI x = zl_c (10000 + x) := by
  rw [zl_c, if_neg (by omega), show 10000 + x - 10000 = x by omega]
theorem zl_num {x : Nat} (hx : x < 10000) : nI x = zl_c x := by rw [zl_c, if_pos hx]
end
