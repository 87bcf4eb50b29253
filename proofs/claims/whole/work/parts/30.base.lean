/-! Rows without side conditions, and what is said of numbers and of the heap. -/
abbrev am_bu (i : Int32) (n : Nat) : Prop := 0 ≤ i ∧ i.toNatClampNeg < n
abbrev am_bb (x : Int32) : Prop := vp_nar .boolean x = x
theorem am_ev_none {d M pc : Nat} {ls st : List Value} {I : am_I} {R : am_R} {Q : am_Q} {i : Instr} {len : Nat} {z : Nat × Nat × Int} (h1 : am_fetch M pc = some (i, len, z)) (h2 : am_step i z pc ls st I R Q = none) : am_ev d M pc ls st I R Q = none := by
  cases h : am_ev d M pc ls st I R Q with
  | none => rfl
  | some x =>
    obtain ⟨n, hn⟩ := am_ev_iff.mp h
    cases n with
    | zero => simp [am_run] at hn
    | succ n => rw [am_run, h1] at hn; dsimp only at hn; rw [h2] at hn; cases hn
theorem am_ev_if {d M pc : Nat} {ls st : List Value} {I : am_I} {R : am_R} {Q : am_Q} {i : Instr} {len : Nat} {z : Nat × Nat × Int} {c : Prop} {hc : Decidable c} {pc' : Nat} {ls' st' : List Value} {I' : am_I} {R' : am_R} {Q' : am_Q} (h1 : am_fetch M pc = some (i, len, z)) (h2 : am_step i z pc ls st I R Q = if c then some (.inl (pc', ls', st', I', R', Q')) else none) : am_ev d M pc ls st I R Q = if c then am_ev d M pc' ls' st' I' R' Q' else none := by
  by_cases hh : c
  · rw [if_pos hh] at h2 ⊢
    exact am_ev_nx h1 h2
  · rw [if_neg hh] at h2 ⊢
    exact am_ev_none h1 h2
theorem am_ev_ifr {d M pc : Nat} {ls st : List Value} {I : am_I} {R : am_R} {Q : am_Q} {i : Instr} {len : Nat} {z : Nat × Nat × Int} {c : Prop} {hc : Decidable c} {r : Option Value} (h1 : am_fetch M pc = some (i, len, z)) (h2 : am_step i z pc ls st I R Q = if c then some (.inr (.inl r)) else none) : am_ev d M pc ls st I R Q = if c then some (r, I, R, Q) else none := by
  by_cases hh : c
  · rw [if_pos hh] at h2 ⊢
    exact am_ev_ret h1 h2
  · rw [if_neg hh] at h2 ⊢
    exact am_ev_none h1 h2
section
variable {pc : Nat} {ls st : List Value} {I : am_I} {R : am_R} {Q : am_Q} {k j : Nat}
theorem am_putf_Zu {c : Nat} {x : Int32} (h : c < 13) : am_putf (c, j, 3) pc ls (.int x :: .ref (am_mk c k) :: st) I R Q = if am_bb x then some (.inl (pc, ls, st, am_sI I c k (am_uI (I c k) j x), R, Q)) else none := by
  by_cases hx : vp_nar .boolean x = x
  · rw [if_pos hx, am_putf_Z h hx]
  · simp [am_putf, am_mk_kd (show c < 128 by omega), am_mk_in (show c < 128 by omega), h, hx]
theorem am_ald_u {t a : Nat} {i : Int32} (h : am_ok t a) (ht : ¬ t = 2) : am_ald t pc ls (.int i :: .ref (am_mk a k) :: st) I R Q = if am_bu i (am_len a) then some (.inl (pc, ls, .int (I a k i.toNatClampNeg) :: st, I, R, Q)) else none := by
  by_cases hi : am_bu i (am_len a)
  · rw [if_pos hi, am_ald_s h hi ht]
  · rw [if_neg hi]
    obtain ⟨h1, h2⟩ := h
    simp only [am_ald, am_mk_kd (show a < 128 by omega), am_mk_in (show a < 128 by omega), am_ll_s h2]
    rw [if_neg (fun q => hi q.2)]
theorem am_aald_u {a : Nat} {i : Int32} (h : am_okr a) : am_aald pc ls (.int i :: .ref (am_mk a k) :: st) I R Q = if am_bu i (am_len a) then some (.inl (pc, ls, va_rf (R a k i.toNatClampNeg) :: st, I, R, Q)) else none := by
  by_cases hi : am_bu i (am_len a)
  · rw [if_pos hi, am_aald_s h hi]
  · rw [if_neg hi]
    obtain ⟨h1, h2⟩ := h
    simp only [am_aald, am_mk_kd (show a < 128 by omega), am_mk_in (show a < 128 by omega), am_ll_s (show a < 115 by omega)]
    rw [if_neg (fun q => hi q.2)]
theorem am_ast_u {a : Nat} {i x : Int32} (h : am_okw 0 a) : am_ast 0 pc ls (.int x :: .int i :: .ref (am_mk a k) :: st) I R Q = if am_bu i (am_len a) then some (.inl (pc, ls, st, am_sI I a k (am_uI (I a k) i.toNatClampNeg x), R, Q)) else none := by
  by_cases hi : am_bu i (am_len a)
  · rw [if_pos hi, am_ast_s h hi (Or.inl rfl)]
  · rw [if_neg hi]
    obtain ⟨h1, h2⟩ := h
    simp only [am_ast, am_mk_kd (show a < 128 by omega), am_mk_in (show a < 128 by omega), am_ll_s (show a < 115 by omega)]
    rw [if_neg (fun q => hi q.2.1)]
theorem am_bst_u {a : Nat} {i x : Int32} (h : am_okw 1 a) : am_ast 1 pc ls (.int x :: .int i :: .ref (am_mk a k) :: st) I R Q = if am_bu i (am_len a) ∧ am_bb x then some (.inl (pc, ls, st, am_sI I a k (am_uI (I a k) i.toNatClampNeg x), R, Q)) else none := by
  by_cases hi : am_bu i (am_len a) ∧ am_bb x
  · rw [if_pos hi, am_ast_s h hi.1 (Or.inr hi.2)]
  · rw [if_neg hi]
    obtain ⟨h1, h2⟩ := h
    simp only [am_ast, am_mk_kd (show a < 128 by omega), am_mk_in (show a < 128 by omega), am_ll_s (show a < 115 by omega)]
    rw [if_neg (fun q => hi ⟨q.2.1, q.2.2.2.resolve_left (by decide)⟩)]
theorem am_zr_u {z : Nat × Nat × Int} {x : Int32} (hz : z.1 = 1) : am_step .ireturn z pc ls [.int x] I R Q = if am_bb x then some (.inr (.inl (some (.int x)))) else none := by
  show (if z.1 = 0 ∨ vp_nar .boolean x = x then some (Sum.inr (Sum.inl (some (Value.int x)))) else none) = _
  by_cases hx : vp_nar .boolean x = x
  · rw [if_pos (Or.inr hx), if_pos hx]
  · rw [if_neg (by rw [hz]; exact fun q => q.elim (by decide) hx), if_neg hx]
end
theorem bb_0 : am_bb (nI 0) = True := eq_true (by decide)
theorem bb_1 : am_bb (nI 1) = True := eq_true (by decide)
theorem rf_s (a : Nat) : va_rf (some a) = .ref a := rfl
theorem rf_n : va_rf none = .null := rfl
theorem tl_s (v : Value) (r : List Value) : (some v).toList ++ r = v :: r := rfl
theorem tl_n (r : List Value) : (none : Option Value).toList ++ r = r := rfl
theorem bu_nI {c n : Nat} (h : c < n) (hn : n ≤ 2 ^ 31 := by decide) : am_bu (nI c) n = True := eq_true ⟨nI_pos' (by omega), by rw [nI_clamp (by omega)]; exact h⟩
theorem nI_le2 {a b : Nat} (ha : a < 2 ^ 31) (hb : b < 2 ^ 31) : (nI a ≤ nI b) = (a ≤ b) := propext (nI_leI ha hb)
theorem nI_lt2 {a b : Nat} (ha : a < 2 ^ 31) (hb : b < 2 ^ 31) : (nI a < nI b) = (a < b) := propext (nI_ltI ha hb)
theorem nI_eq2 {a b : Nat} (ha : a < 2 ^ 31) (hb : b < 2 ^ 31) : (nI a = nI b) = (a = b) := propext (nI_eq ha hb)
theorem nI_lt0 {a : Nat} (ha : a < 2 ^ 31) : (nI a < 0) = False := eq_false (nI_pos ha)
theorem nI_0le {a : Nat} (ha : a < 2 ^ 31) : (0 ≤ nI a) = True := eq_true (nI_pos' ha)
theorem nI_0lt {a : Nat} (ha : a < 2 ^ 31) : (0 < nI a) = (0 < a) := by rw [← nI_0]; exact nI_lt2 (by decide) ha
theorem nI_le0 {a : Nat} (ha : a < 2 ^ 31) : (nI a ≤ 0) = (a = 0) := by rw [← nI_0, nI_le2 ha (by decide)]; exact propext (by omega)
theorem nI_eq0 {a : Nat} (ha : a < 2 ^ 31) : (nI a = 0) = (a = 0) := by rw [← nI_0]; exact nI_eq2 ha (by decide)
theorem sI_eq (I : am_I) (a b : Nat) (f : Nat → Int32) : am_sI I a b f a b = f := if_pos ⟨rfl, rfl⟩
theorem sI_na {I : am_I} {a b x y : Nat} {f : Nat → Int32} (h : ¬ x = a) : am_sI I a b f x y = I x y := if_neg fun q => h q.1
theorem sI_nb {I : am_I} {a b x y : Nat} {f : Nat → Int32} (h : ¬ y = b) : am_sI I a b f x y = I x y := if_neg fun q => h q.2
theorem uI_eq (f : Nat → Int32) (k : Nat) (x : Int32) : am_uI f k x k = x := if_pos rfl
theorem uI_ne {f : Nat → Int32} {k j : Nat} {x : Int32} (h : ¬ j = k) : am_uI f k x j = f j := if_neg h
/-- the heap is as it was, but at S -/
def am_fr (S : Nat → Nat → Nat → Prop) (I I' : am_I) : Prop := ∀ a b j, ¬ S a b j → I' a b j = I a b j
theorem fr_rf {S : Nat → Nat → Nat → Prop} {I : am_I} : am_fr S I I := fun _ _ _ _ => rfl
theorem fr_tr {S : Nat → Nat → Nat → Prop} {I J K : am_I} (h : am_fr S I J) (g : am_fr S J K) : am_fr S I K := fun a b j q => (g a b j q).trans (h a b j q)
theorem fr_mo {S T : Nat → Nat → Nat → Prop} {I J : am_I} (h : am_fr S I J) (g : ∀ a b j, S a b j → T a b j) : am_fr T I J := fun a b j q => h a b j fun w => q (g a b j w)
theorem fr_s {S : Nat → Nat → Nat → Prop} {I J : am_I} {a b k : Nat} {x : Int32} (h : am_fr S I J) (g : S a b k) : am_fr S I (am_sI J a b (am_uI (J a b) k x)) := fun y z j q => by
  rw [← h y z j q]
  unfold am_sI am_uI
  by_cases e : y = a ∧ z = b
  · obtain ⟨rfl, rfl⟩ := e
    rw [if_pos ⟨rfl, rfl⟩]
    by_cases e : j = k
    · subst e; exact absurd g q
    · rw [if_neg e]
  · rw [if_neg e]
theorem fr_f {S : Nat → Nat → Nat → Prop} {I J : am_I} {a b : Nat} {f : Nat → Int32} (h : am_fr S I J) (g : ∀ j, S a b j) : am_fr S I (am_sI J a b f) := fun y z j q => by
  rw [← h y z j q]
  unfold am_sI
  by_cases e : y = a ∧ z = b
  · obtain ⟨rfl, rfl⟩ := e; exact absurd (g j) q
  · rw [if_neg e]
def am_fold {α : Type} (F : α → Nat → α) (a : α) : Nat → α
  | 0 => a
  | n + 1 => F (am_fold F a n) n
theorem fold_s {α : Type} (F : α → Nat → α) (a : α) (n : Nat) : am_fold F a (n + 1) = F (am_fold F a n) n := rfl
theorem fold_congr {α : Type} {F G : α → Nat → α} {a : α} {n : Nat} (h : ∀ x c, c < n → F x c = G x c) : am_fold F a n = am_fold G a n := by
  induction n with
  | zero => rfl
  | succ n ih => rw [fold_s, fold_s, ih fun x c hc => h x c (by omega), h _ n (by omega)]
/-- a loop that counts: what is carried is a fold -/
theorem loop_fold {α β : Type} (f : α → Nat → β) (F : α → Nat → α) (n : Nat) (step : ∀ a c, c < n → f a c = f (F a c) (c + 1)) (a : α) : f a 0 = f (am_fold F a n) n := by
  induction n with
  | zero => rfl
  | succ n ih => rw [ih fun a c hc => step a c (by omega), step _ n (by omega)]; rfl
/-- a loop that counts, with what holds of it; it may end ahead of its end -/
theorem loop_inv {α β : Type} {f : α → Nat → β} {Inv : Nat → α → Prop} {Post : β → Prop} {n : Nat} (step : ∀ c a, c < n → Inv c a → (∃ a', f a c = f a' (c + 1) ∧ Inv (c + 1) a') ∨ Post (f a c)) (done : ∀ a, Inv n a → Post (f a n)) {c : Nat} {a : α} (hc : c ≤ n) (h : Inv c a) : Post (f a c) := by
  have key : ∀ m c a, c + m = n → Inv c a → Post (f a c) := by
    intro m
    induction m with
    | zero =>
      intro c a e h
      obtain rfl : c = n := by omega
      exact done a h
    | succ m ih =>
      intro c a e h
      rcases step c a (by omega) h with ⟨a', e1, h'⟩ | h'
      · rw [e1]
        exact ih (c + 1) a' (by omega) h'
      · exact h'
  exact key (n - c) c a (by omega) h
/-- a number that is none below 0 and below n is one of them -/
theorem am_in {c : Int32} {n : Nat} (h0 : 0 ≤ c) (h1 : c < nI n) (hn : n < 2 ^ 31) : ∃ k, k < n ∧ c = nI k := by
  obtain ⟨k, hk, rfl⟩ := nI_of (Int32.not_lt.mpr h0)
  rw [nI_lt2 hk hn] at h1
  exact ⟨k, h1, rfl⟩
