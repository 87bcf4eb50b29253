/-! LAW texts: what tokens do to a stack. -/
abbrev zo_in (o : Nat) : Prop := o = 43 ∨ o = 45 ∨ o = 42 ∨ o = 47 ∨ o = 61 ∨ o = 60 ∨ o = 62 ∨ o = 38 ∨ o = 124
def zv (b : Bool) (x : Int32) : Prop := (-1000000 ≤ x.toInt ∧ x.toInt ≤ 1000000) ∧ (b = true → x = nI 0 ∨ x = nI 1)
def zr_n : List Int32 → List Int32
  | x :: S => (if x = nI 0 then nI 1 else nI 0) :: S
  | [] => []
def zr_2 (o : Nat) : List Int32 → List Int32
  | r :: l :: S => sp_op o l r :: S
  | _ => []
def zr_f (f : Nat → Int32) (S : List Int32) (t : Nat) : List Int32 := if t < 10000 then nI t :: S else if zl_t (t - 10000) < 6 then f (zl_t (t - 10000)) :: S else if t = 10033 then zr_n S else zr_2 (t - 10000) S
def zr_ok (S : List Int32) (t : Nat) : Prop := S.length < 63 ∧ (t < 10000 ∨ (∃ x, t = 10000 + x ∧ 0 < x ∧ x < 256 ∧ zl_t x < 6) ∨ (t = 10033 ∧ ∃ x S', S = x :: S' ∧ (x = nI 0 ∨ x = nI 1)) ∨ ∃ o r l S', t = 10000 + o ∧ zo_in o ∧ S = r :: l :: S' ∧ zv false l ∧ (o = 38 ∨ o = 124 → (l = nI 0 ∨ l = nI 1) ∧ (r = nI 0 ∨ r = nI 1)))
def zr_run (f : Nat → Int32) : List Nat → List Int32 → List Int32
  | [], S => S
  | t :: C, S => zr_run f C (zr_f f S t)
def zr_oks (f : Nat → Int32) : List Nat → List Int32 → Prop
  | [], _ => True
  | t :: C, S => zr_ok S t ∧ zr_oks f C (zr_f f S t)
def zf_ok (f : Nat → Int32) : Prop := ∀ j, j < 6 → zv false (f j)
def zh (b : Bool) (n : Nat) (C : List Nat) : Prop := ∀ f, zf_ok f → ∃ y, zv b y ∧ ∀ S : List Int32, S.length + n ≤ 60 → zr_oks f C S ∧ zr_run f C S = y :: S
def zg (b b' : Bool) (n : Nat) (C : List Nat) : Prop := ∀ f, zf_ok f → ∀ x, zv b x → ∃ y, zv b' y ∧ ∀ S : List Int32, S.length + n ≤ 60 → zr_oks f C (x :: S) ∧ zr_run f C (x :: S) = y :: S
theorem zr_app {f : Nat → Int32} : ∀ (C D : List Nat) (S : List Int32), zr_run f (C ++ D) S = zr_run f D (zr_run f C S) := by
  intro C
  induction C with
  | nil => intro D S; rfl
  | cons t C ih => intro D S; exact ih D _
theorem zr_oapp {f : Nat → Int32} : ∀ (C D : List Nat) (S : List Int32), zr_oks f C S → zr_oks f D (zr_run f C S) → zr_oks f (C ++ D) S := by
  intro C
  induction C with
  | nil => intro D S _ h; exact h
  | cons t C ih => intro D S h g; exact ⟨h.1, ih D _ h.2 g⟩
theorem zv_mo {x : Int32} {b : Bool} (h : zv b x) : zv false x := ⟨h.1, fun w => by cases w⟩
theorem zv_0 {b : Bool} : zv b (nI 0) := ⟨by decide, fun _ => Or.inl rfl⟩
theorem zv_1 {b : Bool} : zv b (nI 1) := ⟨by decide, fun _ => Or.inr rfl⟩
theorem bd_le (x : Int64) : -1000000 ≤ (sp_bd x).toInt ∧ (sp_bd x).toInt ≤ 1000000 := by
  unfold sp_bd
  by_cases h1 : x < 1000000
  · rw [if_pos h1]
    by_cases h2 : x < -1000000
    · rw [if_pos h2]; decide
    · rw [if_neg h2, Int64.toInt_toInt32]
      rw [Int64.lt_iff_toInt_lt] at h1 h2
      have e1 : (1000000 : Int64).toInt = 1000000 := by decide
      have e2 : (-1000000 : Int64).toInt = -1000000 := by decide
      rw [e1] at h1
      rw [e2] at h2
      rw [bm_32b (by omega) (by omega)]
      omega
  · rw [if_neg h1]
    decide
theorem zv_bd (x : Int64) : zv false (sp_bd x) := ⟨bd_le x, fun w => by cases w⟩
theorem zv_if {c : Prop} {b : Bool} {hc : Decidable c} : zv b (if c then nI 1 else nI 0) := by
  by_cases e : c
  · rw [if_pos e]; exact zv_1
  · rw [if_neg e]; exact zv_0
theorem zv_arith {o : Nat} (ho : o = 43 ∨ o = 45 ∨ o = 42 ∨ o = 47) (l r : Int32) : zv false (sp_op o l r) := by
  rcases ho with rfl | rfl | rfl | rfl
  · exact zv_bd _
  · exact zv_bd _
  · exact zv_bd _
  · show zv false (if r = 0 then sp_bd 0 else sp_bd (l / r).toInt64)
    by_cases e : r = 0
    · rw [if_pos e]; exact zv_bd _
    · rw [if_neg e]; exact zv_bd _
theorem zv_cmp {o : Nat} (ho : o = 61 ∨ o = 60 ∨ o = 62) (l r : Int32) : zv true (sp_op o l r) := by
  rcases ho with rfl | rfl | rfl
  · exact zv_if (c := l = r)
  · exact zv_if (c := l < r)
  · exact zv_if (c := r < l)
theorem zv_and {o : Nat} (ho : o = 38 ∨ o = 124) {l r : Int32} (hl : zv true l) (hr : zv true r) : zv true (sp_op o l r) := by
  rcases ho with rfl | rfl
  · show zv true (l &&& r)
    rcases hl.2 rfl with rfl | rfl <;> rcases hr.2 rfl with rfl | rfl <;> rw [nI_and] <;> first | exact zv_0 | exact zv_1
  · show zv true (l ||| r)
    rcases hl.2 rfl with rfl | rfl <;> rcases hr.2 rfl with rfl | rfl <;> rw [nI_or] <;> first | exact zv_0 | exact zv_1
theorem zh_mo {b : Bool} {n m : Nat} {C : List Nat} (hn : n ≤ m) (h : zh b n C) : zh b m C := fun f hf => by
  obtain ⟨y, h1, h2⟩ := h f hf
  exact ⟨y, h1, fun S hS => h2 S (by omega)⟩
theorem zg_mo {b b' : Bool} {n m : Nat} {C : List Nat} (hn : n ≤ m) (h : zg b b' n C) : zg b b' m C := fun f hf x hx => by
  obtain ⟨y, h1, h2⟩ := h f hf x hx
  exact ⟨y, h1, fun S hS => h2 S (by omega)⟩
theorem zh_num {v : Nat} (hv : v < 10000) : zh false 1 [v] := fun f hf => by
  refine ⟨nI v, ⟨?_, fun w => by cases w⟩, fun S hS => ⟨⟨⟨by omega, Or.inl hv⟩, trivial⟩, ?_⟩⟩
  · have : (nI v).toInt = v := nI_toInt (by omega)
    omega
  · show zr_f f S v = nI v :: S
    rw [zr_f, if_pos hv]
theorem zh_let {x : Nat} (h0 : 0 < x) (hx : x < 256) (h : zl_t x < 6) : zh false 1 [10000 + x] := fun f hf => by
  refine ⟨f (zl_t x), hf _ h, fun S hS => ⟨⟨⟨by omega, Or.inr (Or.inl ⟨x, rfl, h0, hx, h⟩)⟩, trivial⟩, ?_⟩⟩
  show zr_f f S (10000 + x) = f (zl_t x) :: S
  rw [zr_f, if_neg (by omega), Nat.add_sub_cancel_left, if_pos h]
theorem zg_nil {b : Bool} {n : Nat} : zg b b n [] := fun f hf x hx => ⟨x, hx, fun S _ => ⟨trivial, rfl⟩⟩
theorem zh_zg {b b' : Bool} {n : Nat} {C D : List Nat} (h : zh b n C) (g : zg b b' n D) : zh b' n (C ++ D) := fun f hf => by
  obtain ⟨x, h1, h2⟩ := h f hf
  obtain ⟨y, g1, g2⟩ := g f hf x h1
  refine ⟨y, g1, fun S hS => ?_⟩
  obtain ⟨p1, p2⟩ := h2 S hS
  obtain ⟨q1, q2⟩ := g2 S hS
  exact ⟨zr_oapp _ _ _ p1 (by rw [p2]; exact q1), by rw [zr_app, p2, q2]⟩
theorem zg_zg {b b' b2 : Bool} {n : Nat} {C D : List Nat} (h : zg b b' n C) (g : zg b' b2 n D) : zg b b2 n (C ++ D) := fun f hf x0 hx0 => by
  obtain ⟨x, h1, h2⟩ := h f hf x0 hx0
  obtain ⟨y, g1, g2⟩ := g f hf x h1
  refine ⟨y, g1, fun S hS => ?_⟩
  obtain ⟨p1, p2⟩ := h2 S hS
  obtain ⟨q1, q2⟩ := g2 S hS
  exact ⟨zr_oapp _ _ _ p1 (by rw [p2]; exact q1), by rw [zr_app, p2, q2]⟩
theorem zo_t : ∀ o, o < 256 → zo_in o → ¬ zl_t o < 6 ∧ ¬ o = 33 := by decide +kernel
theorem zg_step {b b2 b' : Bool} {n m o : Nat} {C D : List Nat} (ho : zo_in o) (h : zh b n C) (hv : ∀ l r, zv b l → zv b r → zv b2 (sp_op o l r)) (hb : o = 38 ∨ o = 124 → b = true) (hn : n + 1 ≤ m) (g : zg b2 b' m D) : zg b b' m (C ++ (10000 + o) :: D) := fun f hf l hl => by
  obtain ⟨r, h1, h2⟩ := h f hf
  obtain ⟨y, g1, g2⟩ := g f hf _ (hv l r hl h1)
  have ho2 : o < 256 := by unfold zo_in at ho; omega
  obtain ⟨t1, t2⟩ := zo_t o ho2 ho
  refine ⟨y, g1, fun S hS => ?_⟩
  obtain ⟨p1, p2⟩ := h2 (l :: S) (by rw [List.length_cons]; omega)
  obtain ⟨q1, q2⟩ := g2 S hS
  have e : zr_f f (r :: l :: S) (10000 + o) = sp_op o l r :: S := by
    rw [zr_f, if_neg (by omega), Nat.add_sub_cancel_left, if_neg t1, if_neg (by omega), zr_2]
  refine ⟨zr_oapp _ _ _ p1 ⟨⟨by rw [p2, List.length_cons, List.length_cons]; omega, Or.inr (Or.inr (Or.inr ⟨o, r, l, S, rfl, ho, by rw [p2], zv_mo hl, fun w => ?_⟩))⟩, by rw [p2, e]; exact q1⟩, by rw [zr_app, p2, zr_run, e, q2]⟩
  have hbt := hb w
  exact ⟨hl.2 hbt, h1.2 hbt⟩
theorem zh_not {n : Nat} {C : List Nat} (h : zh true n C) : zh true n (C ++ [10033]) := fun f hf => by
  obtain ⟨x, h1, h2⟩ := h f hf
  refine ⟨if x = nI 0 then nI 1 else nI 0, zv_if, fun S hS => ?_⟩
  obtain ⟨p1, p2⟩ := h2 S hS
  refine ⟨zr_oapp _ _ _ p1 ⟨⟨by rw [p2, List.length_cons]; omega, Or.inr (Or.inr (Or.inl ⟨rfl, x, S, p2, h1.2 rfl⟩))⟩, trivial⟩, ?_⟩
  rw [zr_app, p2]
  rfl
