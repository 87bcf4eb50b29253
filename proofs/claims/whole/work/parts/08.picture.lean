/-! The A-machine's picture in the machine's heap. -/
def am_tv (ad : Nat → Nat) (v : Value) : Value := match v with
  | .ref a => .ref (ad a)
  | v => v
def am_fv (ad : Nat → Nat) (t : Nat) (x : Int32) (r : Option Nat) (q : Int64) : Value := if t = 1 then va_rf (r.map ad) else if t = 2 then .long q else .int x
def am_pay (t : Nat) (ad : Nat → Nat) (f : Nat → Int32) (r : Nat → Option Nat) (q : Nat → Int64) : (Nat → Int32) ⊕ (Nat → Int64) ⊕ (Nat → UInt32) ⊕ (Nat → UInt64) ⊕ (Nat → Option Nat) := if t = 2 then .inr (.inl q) else if t = 3 ∨ t = 4 then .inr (.inr (.inr (.inr (fun j => (r j).map ad)))) else .inl f
def am_flds (ad : Nat → Nat) (c : Nat) (f : Nat → Int32) (r : Nat → Option Nat) (q : Nat → Int64) : List Value := (List.range (am_nf.getD c 0)).map fun j => am_fv ad (am_ft c j) (f j) (r j) (q j)
def am_cell (cA : Nat → Nat) (ad : Nat → Nat) (I : am_I) (R : am_R) (Q : am_Q) (a : Nat) : va_E :=
  if a % 128 < 13 then .inr (a % 128, am_flds ad (a % 128) (I (a % 128) (a / 128)) (R (a % 128) (a / 128)) (Q (a % 128) (a / 128)))
  else .inl (cA (am_at (a % 128)), am_len (a % 128), am_pay (am_at (a % 128)) ad (I (a % 128) (a / 128)) (R (a % 128) (a / 128)) (Q (a % 128) (a / 128)))
def am_wd (cA : Nat → Nat) (ad : Nat → Nat) (I : am_I) (R : am_R) (Q : am_Q) (n : Nat) : va_W := (List.range n).map fun i => (ad (am_ord i), am_cell cA ad I R Q (am_ord i))
def am_tys (cA : Nat → Nat) : List (ClassId × FieldType) := [(cA 0, .int), (cA 1, .boolean), (cA 2, .long), (cA 3, .object "ColdMiddle$Law"), (cA 4, .object "ColdMiddle$Plate")]
theorem am_wd_get {cA : Nat → Nat} {ad : Nat → Nat} {I : am_I} {R : am_R} {Q : am_Q} {i n : Nat} (h : i < n) : (am_wd cA ad I R Q n)[i]? = some (ad (am_ord i), am_cell cA ad I R Q (am_ord i)) := by
  simp [am_wd, h]
theorem am_wd_len {cA : Nat → Nat} {ad : Nat → Nat} {I : am_I} {R : am_R} {Q : am_Q} {n : Nat} : (am_wd cA ad I R Q n).length = n := by simp [am_wd]
theorem am_wd_set {cA : Nat → Nat} {ad : Nat → Nat} {I I' : am_I} {R R' : am_R} {Q Q' : am_Q} {i n : Nat} (hc : ∀ j, j < n → j ≠ i → am_cell cA ad I' R' Q' (am_ord j) = am_cell cA ad I R Q (am_ord j)) : (am_wd cA ad I R Q n).set i (ad (am_ord i), am_cell cA ad I' R' Q' (am_ord i)) = am_wd cA ad I' R' Q' n := by
  apply List.ext_getElem?
  intro j
  by_cases hj : j < n
  · rw [am_wd_get hj]
    by_cases e : j = i
    · subst e
      rw [List.getElem?_set_self (by rw [am_wd_len]; exact hj)]
    · rw [List.getElem?_set_ne (Ne.symm e), am_wd_get hj, hc j hj e]
  · rw [List.getElem?_eq_none (by rw [List.length_set, am_wd_len]; omega), List.getElem?_eq_none (by rw [am_wd_len]; omega)]
theorem am_wd_congr {cA : Nat → Nat} {ad ad' : Nat → Nat} {I I' : am_I} {R R' : am_R} {Q Q' : am_Q} {n : Nat} (ha : ∀ j, j < n → ad' (am_ord j) = ad (am_ord j)) (hc : ∀ j, j < n → am_cell cA ad' I' R' Q' (am_ord j) = am_cell cA ad I R Q (am_ord j)) : am_wd cA ad' I' R' Q' n = am_wd cA ad I R Q n := by
  apply List.ext_getElem?
  intro j
  by_cases hj : j < n
  · rw [am_wd_get hj, am_wd_get hj, ha j hj, hc j hj]
  · rw [List.getElem?_eq_none (by rw [am_wd_len]; omega), List.getElem?_eq_none (by rw [am_wd_len]; omega)]
theorem am_wd_succ {cA : Nat → Nat} {ad : Nat → Nat} {I : am_I} {R : am_R} {Q : am_Q} {n : Nat} : am_wd cA ad I R Q (n + 1) = am_wd cA ad I R Q n ++ [(ad (am_ord n), am_cell cA ad I R Q (am_ord n))] := by
  simp [am_wd, List.range_succ]
theorem am_od_nd : va_nd am_od = true := by decide +kernel
theorem am_ord_inj {i j : Nat} (hi : i < 365) (hj : j < 365) (h : am_ord i = am_ord j) : i = j := by
  have hl : am_od.length = 365 := by decide +kernel
  have e : ∀ {k : Nat}, k < 365 → am_od[k]? = some (am_ord k) := fun {k} hk => by
    unfold am_ord
    rw [List.getD_eq_getElem?_getD, List.getElem?_eq_getElem (by omega)]
    rfl
  exact va_nd_inj am_od am_od_nd i j _ (e hi) (by rw [e hj, h])
theorem am_ord_kd : ∀ i, i < 365 → am_ord i % 128 < 73 ∧ (13 ≤ am_ord i % 128 → am_at (am_ord i % 128) ≤ 4) := by decide +kernel
theorem am_ne_kd {a b : Nat} (h : a ≠ b) : ¬ (a % 128 = b % 128 ∧ a / 128 = b / 128) := by
  intro ⟨h1, h2⟩
  apply h
  omega
theorem am_cell_congr {cA : Nat → Nat} {ad : Nat → Nat} {I I' : am_I} {R R' : am_R} {Q Q' : am_Q} {a : Nat} (h1 : I' (a % 128) (a / 128) = I (a % 128) (a / 128)) (h2 : R' (a % 128) (a / 128) = R (a % 128) (a / 128)) (h3 : Q' (a % 128) (a / 128) = Q (a % 128) (a / 128)) : am_cell cA ad I' R' Q' a = am_cell cA ad I R Q a := by
  unfold am_cell
  rw [h1, h2, h3]
def am_vo (n a : Nat) : Prop := ∃ i, i < n ∧ am_ord i = a
def am_rl : List Nat := [am_mk 100 0, am_mk 100 1, am_mk 100 2, am_mk 100 3, am_mk 100 4, am_mk 100 5, am_mk 100 6, am_mk 100 7, am_mk 110 0, am_mk 111 0, am_mk 112 0, am_mk 113 0, am_mk 114 0, am_mk 120 0]
def am_va (n a : Nat) : Prop := am_vo n a ∨ a ∈ am_rl
def am_vv (n : Nat) (v : Value) : Prop := (∀ a, v = .ref a → am_va n a) ∧ ∀ x, v ≠ .double x
theorem am_vo_mono {n m a : Nat} (h : n ≤ m) (ha : am_vo n a) : am_vo m a := by
  obtain ⟨i, h1, h2⟩ := ha
  exact ⟨i, by omega, h2⟩
theorem am_vv_mono {n m : Nat} {v : Value} (h : n ≤ m) (hv : am_vv n v) : am_vv m v := ⟨fun a ha => (hv.1 a ha).imp (am_vo_mono h) id, hv.2⟩
theorem am_vv_int {n : Nat} {x : Int32} : am_vv n (.int x)   := ⟨fun a h => (by cases h), fun x h => by cases h⟩
theorem am_vv_long {n : Nat} {x : Int64} : am_vv n (.long x)   := ⟨fun a h => (by cases h), fun x h => by cases h⟩
theorem am_vv_null {n : Nat} : am_vv n .null   := ⟨fun a h => (by cases h), fun x h => by cases h⟩
theorem am_vv_J {n : Nat} : am_vv n am_J   := ⟨fun a h => (by cases h), fun x h => by cases h⟩
def am_St (D : va_G) (cA : Nat → Nat) (A : Nat → Prop) (ad : Nat → Nat) (n : Nat) (I0 I : am_I) (R : am_R) (Q : am_Q) (H : Heap) : Prop :=
  n ≤ 365 ∧ R 127 0 0 = some n ∧ (∀ i, i < n → ∀ j b, R (am_ord i % 128) (am_ord i / 128) j = some b → am_va n b) ∧ (∀ a b j, 100 ≤ a → I a b j = I0 a b j) ∧ va_P D vwCl (am_wd cA ad I R Q n) H ∧ va_D A (am_wd cA ad I R Q n) ∧ ∀ i, n ≤ i → i < 365 → ∀ j, R (am_ord i % 128) (am_ord i / 128) j = none
def am_lvs (ad : Nat → Nat) (als : List Value) : List (Nat × Value) := (List.range als.length).filterMap fun i => match als[i]? with
  | some v => if v = am_J then none else some (i, am_tv ad v)
  | none => none
theorem am_lvs_mem {ad : Nat → Nat} {als : List Value} {q : Nat × Value} : q ∈ am_lvs ad als ↔ ∃ v, als[q.1]? = some v ∧ v ≠ am_J ∧ q.2 = am_tv ad v := by
  unfold am_lvs
  rw [List.mem_filterMap]
  constructor
  · rintro ⟨i, hi, h⟩
    cases hv : als[i]? with
    | none => rw [hv] at h; cases h
    | some v =>
      rw [hv] at h
      dsimp only at h
      by_cases e : v = am_J
      · rw [if_pos e] at h; cases h
      · rw [if_neg e] at h
        cases h
        exact ⟨v, hv, e, rfl⟩
  · rintro ⟨v, h1, h2, h3⟩
    refine ⟨q.1, List.mem_range.mpr (List.getElem?_eq_some_iff.mp h1).1, ?_⟩
    rw [h1]
    dsimp only
    rw [if_neg h2, ← h3]
def am_Ls (ad : Nat → Nat) (n nL : Nat) (lg : Bool) (als : List Value) (ls : Array Slot) : Prop := als.length = nL ∧ lv_has ls nL (am_lvs ad als) ∧ (∀ v ∈ als, am_vv n v) ∧ (lg = false → ∀ v ∈ als, v.category = 1)
/-- a local that is read -/
theorem am_Ls_at {ad : Nat → Nat} {n nL : Nat} {lg : Bool} {als : List Value} {ls : Array Slot} (h : am_Ls ad n nL lg als ls) {k : Nat} {v : Value} (hk : als[k]? = some v) (hv : v ≠ am_J) : ls[k]? = some (.val (am_tv ad v)) := h.2.1.2.2 (k, am_tv ad v) (am_lvs_mem.mpr ⟨v, hk, hv, rfl⟩)
theorem am_lv_sub {ls : Array Slot} {nL : Nat} {l l' : List (Nat × Value)} (h : lv_has ls nL l) (hs : ∀ q ∈ l', q ∈ l) : lv_has ls nL l' := ⟨h.1, h.2.1, fun q hq => h.2.2 q (hs q hq)⟩
theorem am_tv_cat {ad : Nat → Nat} {v : Value} : (am_tv ad v).category = v.category := by cases v <;> rfl
/-- a local of one slot that is written -/
theorem am_Ls_set {ad : Nat → Nat} {n nL z : Nat} {lg : Bool} {als : List Value} {ls ls' : Array Slot} {k : Nat} {v : Value} (h : am_Ls ad n nL lg als ls) (hz : z ≤ 1) (hlg : ((z == 1) == lg) = true) (hm : am_may z k als = true) (hv : am_vv n v) (hc : v.category = 1) (hn : lv_has ls' nL ((k, am_tv ad v) :: (am_lvs ad als).filter (fun q => !(q.1 == k) && !(q.1 + 1 == k && q.2.category == 2)))) : am_Ls ad n nL lg (als.set k v) ls' := by
  obtain ⟨h1, h2, h3, h4⟩ := h
  unfold am_may at hm
  rw [Bool.and_eq_true] at hm
  have hk : k < als.length := of_decide_eq_true hm.2
  refine ⟨by rw [List.length_set]; exact h1, am_lv_sub hn ?_, ?_, ?_⟩
  · intro q hq
    obtain ⟨w, e1, e2, e3⟩ := am_lvs_mem.mp hq
    by_cases e : q.1 = k
    · rw [e, List.getElem?_set_self hk] at e1
      cases e1
      exact List.mem_cons.mpr (Or.inl (Prod.ext e e3))
    · rw [List.getElem?_set_ne (Ne.symm e)] at e1
      refine List.mem_cons_of_mem _ (List.mem_filter.mpr ⟨am_lvs_mem.mpr ⟨w, e1, e2, e3⟩, ?_⟩)
      have hb : ¬ (q.1 + 1 = k ∧ q.2.category = 2) := by
        rintro ⟨a, b⟩
        rw [e3, am_tv_cat] at b
        cases lg with
        | false =>
          have := h4 rfl w (List.mem_of_getElem? e1)
          omega
        | true =>
          have hz1 : z = 1 := by simpa using hlg
          subst hz1
          have hk0 : k - 1 = q.1 := by omega
          have hm1 := hm.1
          rw [hk0, e1] at hm1
          have : am_isL (some w) = true ∨ w = am_J ∨ ∃ x, w = .double x := by
            cases w <;> simp_all [am_isL, Value.category]
          rcases this with t | t | ⟨x, t⟩
          · simp [t] at hm1; omega
          · exact e2 t
          · subst t
            have e5 := h3 _ (List.mem_of_getElem? e1)
            exact e5.2 x rfl
      simp only [Bool.and_eq_true, Bool.not_eq_true', beq_eq_false_iff_ne, ne_eq, Bool.and_eq_false_iff]
      refine ⟨e, ?_⟩
      by_cases a : q.1 + 1 = k
      · exact Or.inr (fun b => hb ⟨a, b⟩)
      · exact Or.inl a
  · intro w hw
    rcases List.mem_or_eq_of_mem_set hw with a | a
    · exact h3 w a
    · rw [a]; exact hv
  · intro e w hw
    rcases List.mem_or_eq_of_mem_set hw with a | a
    · exact h4 e w a
    · rw [a]; exact hc
