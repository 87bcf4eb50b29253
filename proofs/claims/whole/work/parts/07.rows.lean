/-! Rows of am_step at addresses of a known kind. -/
def am_ok (t a : Nat) : Prop := am_at a = t ∧ a < 115
def am_okr (a : Nat) : Prop := (am_at a = 3 ∨ am_at a = 4) ∧ a < 100
def am_okw (t a : Nat) : Prop := am_at a = t ∧ a < 100
def am_okn (t a : Nat) : Prop := am_at a = t ∧ a < 100
def am_okq (a b : Nat) : Prop := ((am_at a = 3 ∧ b = 3) ∨ (am_at a = 4 ∧ b = 9)) ∧ a < 100
def am_arr (a : Nat) : Prop := am_at a < 9 ∧ a < 115
def am_bd (i : Int32) (n : Nat) : Prop := 0 ≤ i ∧ i.toNatClampNeg < n
def am_bdc (x w : Int32) (n : Nat) : Prop := 0 ≤ x ∧ 0 ≤ w ∧ x.toNatClampNeg + w.toNatClampNeg ≤ n
def am_ne (a k b j : Nat) : Prop := ¬ (a = b ∧ k = j)
def am_oi (n a : Nat) : Prop := n < 365 ∧ am_ord n = a
section
variable {pc : Nat} {ls st : List Value} {I : am_I} {R : am_R} {Q : am_Q} {k j : Nat}
theorem am_getf_I {c : Nat} (h : c < 13) : am_getf (c, j, 0) pc ls (.ref (am_mk c k) :: st) I R Q = some (.inl (pc, ls, .int (I c k j) :: st, I, R, Q)) := by
  simp [am_getf, am_mk_kd (show c < 128 by omega), am_mk_in (show c < 128 by omega), h, am_nx]
theorem am_getf_Z {c : Nat} (h : c < 13) : am_getf (c, j, 3) pc ls (.ref (am_mk c k) :: st) I R Q = some (.inl (pc, ls, .int (I c k j) :: st, I, R, Q)) := by
  simp [am_getf, am_mk_kd (show c < 128 by omega), am_mk_in (show c < 128 by omega), h, am_nx]
theorem am_getf_R {c : Nat} (h : c < 13) : am_getf (c, j, 1) pc ls (.ref (am_mk c k) :: st) I R Q = some (.inl (pc, ls, va_rf (R c k j) :: st, I, R, Q)) := by
  simp [am_getf, am_mk_kd (show c < 128 by omega), am_mk_in (show c < 128 by omega), h, am_nx]
theorem am_getf_Q {c : Nat} (h : c < 13) : am_getf (c, j, 2) pc ls (.ref (am_mk c k) :: st) I R Q = some (.inl (pc, ls, .long (Q c k j) :: st, I, R, Q)) := by
  simp [am_getf, am_mk_kd (show c < 128 by omega), am_mk_in (show c < 128 by omega), h, am_nx]
theorem am_putf_I {c : Nat} {x : Int32} (h : c < 13) : am_putf (c, j, 0) pc ls (.int x :: .ref (am_mk c k) :: st) I R Q = some (.inl (pc, ls, st, am_sI I c k (am_uI (I c k) j x), R, Q)) := by
  simp [am_putf, am_mk_kd (show c < 128 by omega), am_mk_in (show c < 128 by omega), h, am_nx]
theorem am_putf_Z {c : Nat} {x : Int32} (h : c < 13) (hx : am_b01 x) : am_putf (c, j, 3) pc ls (.int x :: .ref (am_mk c k) :: st) I R Q = some (.inl (pc, ls, st, am_sI I c k (am_uI (I c k) j x), R, Q)) := by
  have hx : vp_nar .boolean x = x := hx
  simp [am_putf, am_mk_kd (show c < 128 by omega), am_mk_in (show c < 128 by omega), h, am_nx, hx]
theorem am_putf_R {c x : Nat} (h : c < 13) : am_putf (c, j, 1) pc ls (.ref x :: .ref (am_mk c k) :: st) I R Q = some (.inl (pc, ls, st, I, am_sR R c k (am_uR (R c k) j (some x)), Q)) := by
  simp [am_putf, am_mk_kd (show c < 128 by omega), am_mk_in (show c < 128 by omega), h, am_nx]
theorem am_putf_N {c : Nat} (h : c < 13) : am_putf (c, j, 1) pc ls (.null :: .ref (am_mk c k) :: st) I R Q = some (.inl (pc, ls, st, I, am_sR R c k (am_uR (R c k) j none), Q)) := by
  simp [am_putf, am_mk_kd (show c < 128 by omega), am_mk_in (show c < 128 by omega), h, am_nx]
theorem am_putf_Q {c : Nat} {x : Int64} (h : c < 13) : am_putf (c, j, 2) pc ls (.long x :: .ref (am_mk c k) :: st) I R Q = some (.inl (pc, ls, st, I, R, am_sQ Q c k (am_uQ (Q c k) j x))) := by
  simp [am_putf, am_mk_kd (show c < 128 by omega), am_mk_in (show c < 128 by omega), h, am_nx]
theorem am_ll_s {a : Nat} (h : a < 115) : am_ll I a = am_len a := if_neg (by omega)
theorem am_alen_s {a : Nat} (h : am_arr a) : am_alen pc ls (.ref (am_mk a k) :: st) I R Q = some (.inl (pc, ls, .int (nI (am_len a)) :: st, I, R, Q)) := by
  obtain ⟨h1, h2⟩ := h
  simp [am_alen, am_mk_kd (show a < 128 by omega), h1, am_nx, am_ll_s h2, nI]
theorem am_ald_s {t a : Nat} {i : Int32} (h : am_ok t a) (hi : am_bd i (am_len a)) (ht : ¬ t = 2) : am_ald t pc ls (.int i :: .ref (am_mk a k) :: st) I R Q = some (.inl (pc, ls, .int (I a k i.toNatClampNeg) :: st, I, R, Q)) := by
  obtain ⟨h1, h2⟩ := h
  obtain ⟨h3, h4⟩ := hi
  simp [am_ald, am_mk_kd (show a < 128 by omega), am_mk_in (show a < 128 by omega), h1, h3, h4, am_nx, am_ll_s h2, ht]
theorem am_lald_s {a : Nat} {i : Int32} (h : am_ok 2 a) (hi : am_bd i (am_len a)) : am_ald 2 pc ls (.int i :: .ref (am_mk a k) :: st) I R Q = some (.inl (pc, ls, .long (Q a k i.toNatClampNeg) :: st, I, R, Q)) := by
  obtain ⟨h1, h2⟩ := h
  obtain ⟨h3, h4⟩ := hi
  simp [am_ald, am_mk_kd (show a < 128 by omega), am_mk_in (show a < 128 by omega), h1, h3, h4, am_nx, am_ll_s h2]
theorem am_aald_s {a : Nat} {i : Int32} (h : am_okr a) (hi : am_bd i (am_len a)) : am_aald pc ls (.int i :: .ref (am_mk a k) :: st) I R Q = some (.inl (pc, ls, va_rf (R a k i.toNatClampNeg) :: st, I, R, Q)) := by
  obtain ⟨h1, h2⟩ := h
  obtain ⟨h3, h4⟩ := hi
  simp [am_aald, am_mk_kd (show a < 128 by omega), am_mk_in (show a < 128 by omega), h1, h3, h4, am_nx, am_ll_s (show a < 115 by omega)]
theorem am_ast_s {t a : Nat} {i x : Int32} (h : am_okw t a) (hi : am_bd i (am_len a)) (hx : t = 0 ∨ am_b01 x) : am_ast t pc ls (.int x :: .int i :: .ref (am_mk a k) :: st) I R Q = some (.inl (pc, ls, st, am_sI I a k (am_uI (I a k) i.toNatClampNeg x), R, Q)) := by
  obtain ⟨h1, h2⟩ := h
  obtain ⟨h3, h4⟩ := hi
  have hx : t = 0 ∨ vp_nar .boolean x = x := hx
  simp [am_ast, am_mk_kd (show a < 128 by omega), am_mk_in (show a < 128 by omega), h1, h3, h4, am_nx, am_ll_s (show a < 115 by omega), h2, hx]
theorem am_aast_s {a b : Nat} {i : Int32} (h : am_okq a b) (hi : am_bd i (am_len a)) : am_aast pc ls (.ref (am_mk b j) :: .int i :: .ref (am_mk a k) :: st) I R Q = some (.inl (pc, ls, st, I, am_sR R a k (am_uR (R a k) i.toNatClampNeg (some (am_mk b j))), Q)) := by
  obtain ⟨h1, h2⟩ := h
  obtain ⟨h3, h4⟩ := hi
  have hb : b < 128 := by omega
  simp [am_aast, am_mk_kd (show a < 128 by omega), am_mk_in (show a < 128 by omega), am_mk_kd hb, h1, h3, h4, am_nx, am_ll_s (show a < 115 by omega), h2]
theorem am_mkO_s {c n m : Nat} (hc : c < 13) (hn : R 127 0 0 = some n) (ho : am_oi n (am_mk c k)) (h0 : am_new0 m (am_mk c k) I R Q) (hm : am_nf.getD c 0 = m := by rfl) : am_mkO c pc ls st I R Q = some (.inl (pc, ls, .ref (am_mk c k) :: st, I, am_sR R 127 0 (fun _ => some (n + 1)), Q)) := by
  obtain ⟨h1, h2⟩ := ho
  subst hm
  unfold am_mkO
  rw [hn]
  dsimp only
  rw [if_pos ⟨h1, by rw [h2, am_mk_kd (by omega)], hc, by rw [h2]; exact h0⟩, h2]
theorem am_mkA_s {t a n : Nat} {x : Int32} (hn : R 127 0 0 = some n) (ho : am_oi n (am_mk a k)) (ha : am_okn t a) (hx : x = nI (am_len a)) (h0 : am_new0 (am_len a) (am_mk a k) I R Q) : am_mkA t pc ls (.int x :: st) I R Q = some (.inl (pc, ls, .ref (am_mk a k) :: st, I, am_sR R 127 0 (fun _ => some (n + 1)), Q)) := by
  obtain ⟨h1, h2⟩ := ho
  obtain ⟨h3, h4⟩ := ha
  have hk : am_ord n % 128 = a := by rw [h2, am_mk_kd (by omega)]
  unfold am_mkA
  rw [hn]
  dsimp only
  rw [if_pos ⟨h1, by rw [hk]; exact h3, by rw [hk]; exact hx, by rw [hk, h2]; exact h0⟩, h2]
theorem am_mk_inj {a b k j : Nat} (ha : a < 128) (hb : b < 128) : am_mk a k = am_mk b j ↔ a = b ∧ k = j := by unfold am_mk; omega
theorem am_cpy_s {a b : Nat} {x y w : Int32} (ha : am_okw 0 a) (hb : am_okw 0 b) (hab : am_ne a k b j) (hx : am_bdc x w (am_len a)) (hy : am_bdc y w (am_len b)) : am_inv (1005, 0, 0) pc ls [.int w, .int y, .ref (am_mk b j), .int x, .ref (am_mk a k)] I R Q = some (.inl (pc + 3, ls, [], am_sI I b j (va_cpy (I a k) (I b j) x.toNatClampNeg y.toNatClampNeg w.toNatClampNeg), R, Q)) := by
  obtain ⟨a1, a2⟩ := ha
  obtain ⟨b1, b2⟩ := hb
  obtain ⟨x1, x2, x3⟩ := hx
  obtain ⟨y1, y2, y3⟩ := hy
  have hab : ¬ (a = b ∧ k = j) := hab
  have e : ¬ am_mk a k = am_mk b j := by rw [am_mk_inj (by omega) (by omega)]; exact hab
  simp [am_inv, am_intr, am_mk_kd (show a < 128 by omega), am_mk_in (show a < 128 by omega), am_mk_kd (show b < 128 by omega), am_mk_in (show b < 128 by omega), a1, a2, b1, b2, x1, x2, x3, y1, y3, e, am_nx]
theorem am_inv_v {M q : Nat} {v : Int} (a rest : List Value) (hM : ¬ 1000 ≤ M) (hc : am_ocE M < 128) (ha : (st.take (am_sgE M).length).reverse = .ref (am_mk (am_ocE M) k) :: a) (hr : st.drop (am_sgE M).length = rest) (hok : am_okA (am_sgE M) (.ref (am_mk (am_ocE M) k) :: a) = true) (hl : rest.length ≤ 4) : am_inv (M, q, v) pc ls st I R Q = some (.inr (.inr (M, .ref (am_mk (am_ocE M) k) :: a, rest))) := by
  unfold am_inv
  dsimp only
  rw [if_neg hM, ha, hr, if_pos ⟨hok, hl, Or.inr (by simp [am_isR, am_mk_kd hc])⟩]
end
theorem am_sw_out {pc : Nat} {d lo hi : Int} {offs : Array Int} {x : Int32} {ls st : List Value} {I : am_I} {R : am_R} {Q : am_Q} (h : x.toInt < lo ∨ hi < x.toInt) (h2 : 0 ≤ (pc : Int) + d := by decide) : am_sw (am_tsw pc d lo hi offs) ls (.int x :: st) I R Q = some (.inl (am_tg pc d, ls, st, I, R, Q)) := by
  simp [am_sw, am_tsw, h, h2, am_nx]
theorem am_lsw_out {pc : Nat} {d : Int} {ps : Array (Int × Int)} {x : Int32} {ls st : List Value} {I : am_I} {R : am_R} {Q : am_Q} (h : Op.lookupswitch.offset ps.toList d x.toInt = d) (h2 : 0 ≤ (pc : Int) + d := by decide) : am_sw (am_lsw pc d ps) ls (.int x :: st) I R Q = some (.inl (am_tg pc d, ls, st, I, R, Q)) := by
  simp [am_sw, am_lsw, h, h2, am_nx]
