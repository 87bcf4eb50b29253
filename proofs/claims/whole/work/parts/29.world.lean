/-! The world at the law's entry. -/
def am_gv : List Cond := flatC (Jvm.Cond.and given_1 narrow_1)
theorem am_arrB {args : Array Value} {s : State} {ty : FieldType} (h : (Cond.arrayClass ty).before args s = true) : ∃ cA : ClassId, ArrOfT s cA ty ∧ s.vm.findClass ("[" ++ ty.toString) = some cA := by
  obtain ⟨c, k, comp, h1, h2, h3⟩ := Cond.arrayClass_spec h
  exact ⟨c, fun n z => ⟨fun k h => (by cases h), k, h2, comp, h3⟩, h1⟩
theorem am_arrO {args : Array Value} {s : State} {C : String} (h : (Cond.arrayOver (.object C)).before args s = true) : ∃ cA : ClassId, ArrOfT s cA (.object C) ∧ va_RA s cA (.object C) := by
  obtain ⟨comp, c, k, h1, -, h3, h4, h5⟩ := Cond.arrayOver_spec h
  exact ⟨c, fun n z => ⟨fun k h => (by cases h), k, h3, comp, h4⟩, k, comp, h3, h4, h1, h5⟩
theorem am_arr_words : Cond.arrayClass .int ∈ lw_tbl ∧ Cond.arrayClass .boolean ∈ lw_tbl ∧ Cond.arrayClass .long ∈ lw_tbl ∧ Cond.arrayOver (.object "ColdMiddle$Law") ∈ lw_tbl ∧ Cond.arrayOver (.object "ColdMiddle$Plate") ∈ lw_tbl := by decide +kernel
theorem am_K_of {args : Array Value} {s : State} (hts : ∀ w ∈ lw_tbl, w.before args s = true) : ∃ (D : va_G) (cA : Nat → Nat), va_K D vwCl (am_tys cA) s := by
  obtain ⟨w1, w2, w3, w4, w5⟩ := am_arr_words
  obtain ⟨D, hD⟩ := am_known hts
  obtain ⟨c0, a0, b0⟩ := am_arrB (hts _ w1)
  obtain ⟨c1, a1, b1⟩ := am_arrB (hts _ w2)
  obtain ⟨c2, a2, b2⟩ := am_arrB (hts _ w3)
  obtain ⟨c3, a3, b3⟩ := am_arrO (hts _ w4)
  obtain ⟨c4, a4, b4⟩ := am_arrO (hts _ w5)
  refine ⟨D, fun t => if t = 0 then c0 else if t = 1 then c1 else if t = 2 then c2 else if t = 3 then c3 else c4, hD, fun k q hq => ?_⟩
  have hk : k < 5 := (List.getElem?_eq_some_iff.mp hq).1
  rcases (show k = 0 ∨ k = 1 ∨ k = 2 ∨ k = 3 ∨ k = 4 by omega) with e | e | e | e | e <;> subst e <;> cases hq
  · exact ⟨a0, b0⟩
  · exact ⟨a1, b1⟩
  · exact ⟨a2, b2⟩
  · exact ⟨a3, b3⟩
  · exact ⟨a4, b4⟩
def am_stv : List (List Int32) := [[1, 12, 6, 6], [0, 6, 10, 12, 14], [1, 1, 1, 0, 50, 30, 0, 1, 0, 0, 0, 0, 1, 0], [5, 5, 9, 9, 99, 90, 24, 9, 99, 49, 24, 20, 30, 9], [4, 4, 4, 2, 95, 70, 0, 3, 0, 10, 0, 3, 9, 1]]
def am_stt (k : Nat) : Term := .static "ColdMiddle$LunchReader" (am_sn k) "[I"
theorem am_st_fl : ∀ k, k < 5 → Cond.arrayOf (am_stt (110 + k)) .int ∈ am_gv ∧ Cond.eq (.length (am_stt (110 + k))) (.int (Int32.ofNat (am_stv.getD k []).length)) ∈ am_gv ∧ ∀ j, j < (am_stv.getD k []).length → Cond.eq (.elem (am_stt (110 + k)) (.int (Int32.ofNat j))) (.int ((am_stv.getD k []).getD j 0)) ∈ am_gv := by decide +kernel
theorem am_st_tb : ∀ k, k < 5 → Cond.laysStatic "ColdMiddle$LunchReader" (am_sn (110 + k)) "[I" ∈ lw_tbl := by decide +kernel
theorem am_ini_tb : Cond.initialized "ColdMiddle$LunchReader" ∈ lw_tbl ∧ Cond.initialized "java/lang/String" ∈ lw_tbl ∧ Cond.initialized "jdk/internal/util/Preconditions" ∈ lw_tbl ∧ Cond.initialized "java/lang/Throwable" ∈ lw_tbl := by decide +kernel
theorem am_jst_tb : Cond.laysStatic "java/lang/String" "COMPACT_STRINGS" "Z" ∈ lw_tbl ∧ Cond.laysStatic "jdk/internal/util/Preconditions" "SIOOBE_FORMATTER" "Ljava/util/function/BiFunction;" ∈ lw_tbl ∧ Cond.laysStatic Bundle.tN "UNASSIGNED_STACK" Bundle.steD ∈ lw_tbl ∧ Cond.laysStatic Bundle.tN "SUPPRESSED_SENTINEL" Bundle.listD ∈ lw_tbl := by decide +kernel
theorem am_jst_fl : Cond.eq (.static "java/lang/String" "COMPACT_STRINGS" "Z") (.int 1) ∈ am_gv ∧ Cond.isRef (.static "jdk/internal/util/Preconditions" "SIOOBE_FORMATTER" "Ljava/util/function/BiFunction;") ∈ am_gv ∧ Cond.isRef (.static Bundle.tN "UNASSIGNED_STACK" Bundle.steD) ∈ am_gv ∧ Cond.isRef (.static Bundle.tN "SUPPRESSED_SENTINEL" Bundle.listD) ∈ am_gv := by decide +kernel
def am_stm (j : Nat) : Term := .string (am_RX (am_sr.getD j (99, 0, "")).1) (am_sr.getD j (99, 0, "")).2.1
theorem am_str_fl : ∀ j, j < 8 → Cond.exactly (am_stm j) "java/lang/String" ∈ am_gv ∧ Cond.eq (.field (am_stm j) "java/lang/String" "coder" "B") (.int 0) ∈ am_gv ∧ Cond.arrayOf (.field (am_stm j) "java/lang/String" "value" "[B") .byte ∈ am_gv ∧ Cond.eq (.length (.field (am_stm j) "java/lang/String" "value" "[B")) (.int (Int32.ofNat (am_sl8.getD j 0))) ∈ am_gv ∧ ∀ i, i < am_sl8.getD j 0 → Cond.eq (.elem (.field (am_stm j) "java/lang/String" "value" "[B") (.int (Int32.ofNat i))) (.int ((am_sb8.getD j []).getD i 0)) ∈ am_gv := by decide +kernel
theorem am_str_of {args : Array Value} {s : State} {A : Nat → Prop} (hs : ∀ w ∈ am_gv, w.before args s = true) (hA : ∀ a : Nat, a < s.heap.size → ¬ A a) {j : Nat} (hj : j < 8) : ∃ a v : Nat, (am_stm j).eval args s none [] s = some (.ref a) ∧ vk_S 1 [am_sl8.getD j 0] [am_sb8.getD j []] (fun _ => a) (fun _ => v) A s s.heap := by
  obtain ⟨w1, w2, w3, w4, w5⟩ := am_str_fl j hj
  have z : ∀ i : Nat, i < 1 → i = 0 := fun i hi => by omega
  obtain ⟨adK, adV, h1, h2⟩ := vk_Sof (args := args) (s := s) (N := 1) (tm := fun _ => am_stm j) (len := [am_sl8.getD j 0]) (byt := [am_sb8.getD j []]) (A := A) (fun i hi => by
      rw [z i hi]
      exact Nat.lt_trans (am_sl8_lt hj) (by decide)) (fun i hi => hs _ w1) (fun i hi => hs _ w2) (fun i hi => hs _ w3) (fun i hi => by rw [z i hi]; exact hs _ w4) (fun i hi k hk => by
      obtain rfl := z i hi
      exact hs _ (w5 k hk)) (fun i k hi hk h => absurd ((z i hi).trans (z k hk).symm) h) hA
  exact ⟨adK 0, adV 0, h2 0 (by decide), fun i hi => (by rw [z i hi]; exact h1.1 0 (by decide)), fun i k hi hk _ => (z i hi).trans (z k hk).symm⟩
/-- what the A-machine finds there: the strings' bytes, the static arrays, the script -/
def am_I0 (L : Nat) (xs : Nat → Int32) : am_I := fun a b j =>
  if a = 101 then (am_sb8.getD b []).getD j 0 else if a = 120 then xs j else if a = 121 then Int32.ofNat L else if 110 ≤ a ∧ a < 115 then (am_stv.getD (a - 110) []).getD j 0 else 0
def am_rmf (aK tK : Nat → Nat) (b a : Nat) : Nat := if a % 128 = 100 then aK (a / 128) else if a % 128 = 120 then b else tK (a % 128 - 110)
theorem am_stl5 : ∀ k, k < 5 → am_len (110 + k) = (am_stv.getD k []).length := by decide +kernel
theorem am_mn_on : ∀ q ∈ am_mn, (am_mnw q).onTables = true := by decide +kernel
theorem am_sr_w : ∀ j, j < 8 → Cond.stringRef (am_RX (am_sr.getD j (99, 0, "")).1) (am_sr.getD j (99, 0, "")).2.1 (am_sr.getD j (99, 0, "")).2.2 ∈ lw_tbl := fun j hj => am_sr_in (am_sr.getD j (99, 0, "")) (by
  rw [List.getD_eq_getElem?_getD, List.getElem?_eq_getElem (show j < am_sr.length from hj)]
  exact List.getElem_mem _)
theorem am_Fs_of {args : Array Value} {s : State} {b L : Nat} {xs : Nat → Int32} (hL : L ≤ 3072) (hts : ∀ w ∈ lw_tbl, w.before args s = true) (hs : ∀ w ∈ am_gv, w.before args s = true) (hX : va_X b L xs s s.heap) : ∃ (rm aV : Nat → Nat), rm (am_mk 120 0) = b ∧ am_Fs (fun q => s.heap.size ≤ q) rm (am_I0 L xs) (am_FX (fun q => s.heap.size ≤ q) (fun j => rm (am_mk 100 j)) aV) s := by
  have hA : ∀ a : Nat, a < s.heap.size → ¬ s.heap.size ≤ a := fun a h => by omega
  obtain ⟨i1, i2, i3, i4⟩ := am_ini_tb
  obtain ⟨t1, t2, t3, t4⟩ := am_jst_tb
  obtain ⟨f1, f2, f3, f4⟩ := am_jst_fl
  have hst : ∀ k, ∃ t : Nat, k < 5 → (am_stt (110 + k)).eval args s none [] s = some (.ref t) ∧ va_T .int t (am_stv.getD k []).length (fun j => .int ((am_stv.getD k []).getD j 0)) (fun q => s.heap.size ≤ q) s s.heap := by
    intro k
    by_cases hk : k < 5
    · obtain ⟨w1, w2, w3⟩ := am_st_fl k hk
      have hl : (am_stv.getD k []).length < 2 ^ 31 := Nat.lt_trans ((by decide +kernel : ∀ k, k < 5 → (am_stv.getD k []).length < 100) k hk) (by decide)
      obtain ⟨t, h1, h2⟩ := va_Tof (f := fun j => .int ((am_stv.getD k []).getD j 0)) (A := fun q => s.heap.size ≤ q) hl (hs _ w1) (va_eqt (hs _ w2)) (fun j hj => va_eqt (hs _ (w3 j hj))) hA
      exact ⟨t, fun _ => ⟨h1, h2⟩⟩
    · exact ⟨0, fun h => absurd h hk⟩
  have hstr : ∀ j, ∃ q : Nat × Nat, j < 8 → (am_stm j).eval args s none [] s = some (.ref q.1) ∧ vk_S 1 [am_sl8.getD j 0] [am_sb8.getD j []] (fun _ => q.1) (fun _ => q.2) (fun q => s.heap.size ≤ q) s s.heap := by
    intro j
    by_cases hj : j < 8
    · obtain ⟨a, v, h1, h2⟩ := am_str_of (A := fun q => s.heap.size ≤ q) hs hA hj
      exact ⟨(a, v), fun _ => ⟨h1, h2⟩⟩
    · exact ⟨(0, 0), fun h => absurd h hj⟩
  obtain ⟨tK, htK⟩ := Classical.axiomOfChoice hst
  obtain ⟨sK, hsK⟩ := Classical.axiomOfChoice hstr
  have eS : ∀ j, am_rmf (fun j => (sK j).1) tK b (am_mk 100 j) = (sK j).1 := fun j => by
    unfold am_rmf
    rw [am_mk_kd (by decide), am_mk_in (by decide), if_pos rfl]
  have eX : am_rmf (fun j => (sK j).1) tK b (am_mk 120 0) = b := by
    unfold am_rmf
    rw [am_mk_kd (by decide), if_neg (by decide), if_pos rfl]
  have eT : ∀ k, k < 5 → am_rmf (fun j => (sK j).1) tK b (am_mk (110 + k) 0) = tK k := fun k hk => by
    unfold am_rmf
    rw [am_mk_kd (by omega), if_neg (by omega), if_neg (by omega), show 110 + k - 110 = k by omega]
  refine ⟨am_rmf (fun j => (sK j).1) tK b, fun j => (sK j).2, eX, ?_, ?_, ?_, fun q hq => va_Nw.of (am_mn_on q hq) (hts _ (am_mn_in q hq)), va_AO.of (hts _ am_arr_words.2.2.2.1), va_AO.of (hts _ am_arr_words.2.2.2.2), ?_, ⟨vx_Zqof (hts _ t3) (hts _ i4) (hs _ f3) hA, vx_Zqof (hts _ t4) (hts _ i4) (hs _ f4) hA⟩, fun w hw => va_Nw.of (am_at0B_tab w hw) (hts _ (am_at0B_tb w hw))⟩
  · intro k hk
    rcases hk with ⟨h1, h2⟩ | h
    · obtain ⟨j, rfl⟩ := Nat.exists_eq_add_of_le h1
      have hj : j < 5 := by omega
      rw [eT j hj]
      have e1 : am_ll (am_I0 L xs) (110 + j) = (am_stv.getD j []).length := by
        unfold am_ll
        rw [if_neg (by omega), am_stl5 j hj]
      rw [e1]
      have e2 : (fun i => Value.int (am_I0 L xs (110 + j) 0 i)) = fun i => .int ((am_stv.getD j []).getD i 0) := by
        funext i
        unfold am_I0
        rw [if_neg (by omega), if_neg (by omega), if_neg (by omega), if_pos ⟨by omega, by omega⟩, show 110 + j - 110 = j by omega]
      rw [e2]
      exact (htK j hj).2
    · subst h
      rw [eX]
      obtain ⟨scr, h1, h2, h3, h4, h5⟩ := hX
      have e1 : am_ll (am_I0 L xs) 120 = L := by
        show (Int32.ofNat L).toNatClampNeg = L
        exact Int32.toNatClampNeg_ofNat_of_lt (by omega)
      rw [e1]
      refine ⟨scr, h1, h2, h3, by omega, by rw [h4], fun j hj => h5 j hj, hA _ (Array.getElem?_eq_some_iff.mp h1).1⟩
  · intro k h1 h2
    obtain ⟨j, rfl⟩ := Nat.exists_eq_add_of_le h1
    have hj : j < 5 := by omega
    rw [eT j hj]
    exact va_Zref (hts _ (am_st_tb j hj)) (hts _ i1) (htK j hj).1 hA
  · intro j hj
    rw [eS j]
    exact vk_R.of (hts _ (am_sr_w j hj)) (hsK j hj).1
  · refine ⟨fun i hi => ?_, va_Zof (hts _ t1) (hts _ i2) (va_eqt (hs _ f1)) hA, va_Zqof (hts _ t2) (hts _ i3) (hs _ f2) hA⟩
    show vk_S 1 _ _ (fun _ => am_rmf _ _ _ (am_mk 100 i)) _ _ _ _
    rw [eS i]
    exact (hsK i hi).2
