/-! LUNCH texts: ahead and behind; the class. -/
section
variable {d u w h : Nat} {I : am_I} {R : am_R} {Q : am_Q}
theorem c_putBeside (hr : ze_R R u) {c s : Nat} {x : Int32} (hb : c * 4 + s < 100) : am_cal d 50 [.ref (am_mk 6 u), .int (nI c), .int (nI s), .int x] I R Q = some (none, am_sI I 16 u (am_uI (I 16 u) (c * 4 + s) x), R, Q) := by
  obtain ⟨-, r0, r1, r2, r3, r4, r5, q0, q1, q2, q3, q4, q6, p0, p1, p2, p3⟩ := id hr
  have n1 : ¬ 100 ≤ c * 4 + s := by omega
  rw [s50]
  simp (disch := first | omega | assumption) only [s50_0, s50_1, s50_2, s50_3, s50_4, s50_5, s50_7, s50_9, s50_12, s50_14, s50_15, s50_18, s50_19, s50_22, s50_23, s50_26, s50_28, s50_29, s50_30, nI_le2, nI_lt2, nI_eq2, nI_lt0, nI_0le, nI_0lt, nI_le0, nI_eq0, nI_clamp, nI_add, bu_nI, bb_0, bb_1, rf_s, rf_n, tl_s, tl_n, am_th_some, if_true, if_false, sI_eq, uI_eq, and_self, true_and, and_true, not_false_eq_true, not_true_eq_false, Nat.reduceEqDiff, Nat.reduceLeDiff, Nat.reduceLT, Nat.reduceAdd, Nat.reduceMul, Nat.reduceSub, Nat.zero_add, q2, nI_mul, n1, hb]
theorem c_settle (hr : ze_R R u) (hw : I 14 u 0 = nI w) (hh : I 14 u 1 = nI h) (w1 : 1 ≤ w) (w5 : w ≤ 5) (h1 : 1 ≤ h) (h5 : h ≤ 5) : ∃ J, am_cal (d + 1) 49 [.ref (am_mk 6 u)] I R Q = some (none, J, R, Q) ∧ am_fr (fun a b j => (a = 16 ∧ b = u) ∨ (a = 9 ∧ b = u ∧ j = 4)) I J ∧ J 9 u 4 = nI (w * h) ∧ bs_at J u (w * h) (sp_B w h) := by
  obtain ⟨-, r0, r1, r2, r3, r4, r5, q0, q1, q2, q3, q4, q6, p0, p1, p2, p3⟩ := id hr
  obtain ⟨X0, x0, y0, f0⟩ := wr I 9 u 4 (nI (w * h))
  -- one CELL
  have cell : ∀ (J : am_I) (r c : Nat), r < h → c < w → (∀ j, j < r * w + c → ∀ s, s < 4 → J 16 u (j * 4 + s) = sp_B w h j s) → ∃ K, am_ev (d + 1) 49 38 [.ref (am_mk 6 u), .int (nI w), .int (nI h), .int (nI (r * w + c)), .int (nI r), .int (nI c)] [] J R Q = am_ev (d + 1) 49 38 [.ref (am_mk 6 u), .int (nI w), .int (nI h), .int (nI (r * w + (c + 1))), .int (nI r), .int (nI (c + 1))] [] K R Q ∧ am_fr (fun a b _ => a = 16 ∧ b = u) J K ∧ (∀ j, j < r * w + (c + 1) → ∀ s, s < 4 → K 16 u (j * 4 + s) = sp_B w h j s) := by
    intro J r c hr' hc hJ
    have hlt : r * w + c < w * h := by
      have : (r + 1) * w ≤ h * w := Nat.mul_le_mul_right w hr'
      rw [Nat.add_mul, Nat.one_mul] at this
      rw [Nat.mul_comm w h]
      omega
    have hlt25 : w * h ≤ 25 := Nat.mul_le_mul w5 h5
    have dv : (r * w + c) / w = r := by rw [Nat.mul_comm, Nat.mul_add_div (by omega), Nat.div_eq_of_lt hc, Nat.add_zero]
    have dm : (r * w + c) % w = c := by rw [Nat.mul_comm, Nat.mul_add_mod, Nat.mod_eq_of_lt hc]
    have rw0 : 0 < r → w ≤ r * w := fun q => Nat.le_mul_of_pos_left w q
    generalize hy : r * w + c = y at *
    have b0 : sp_B w h y 0 = if r = 0 then -nI 1 else nI (y - w) := by rw [sp_B, if_pos rfl, dv]
    have b1 : sp_B w h y 1 = if c = 0 then -nI 1 else nI (y - 1) := by rw [sp_B, if_neg (by decide), if_pos rfl, dm]
    have b2 : sp_B w h y 2 = if c + 1 < w then nI (y + 1) else -nI 1 := by rw [sp_B, if_neg (by decide), if_neg (by decide), if_pos rfl, dm]
    have b3 : sp_B w h y 3 = if r + 1 < h then nI (y + w) else -nI 1 := by rw [sp_B, if_neg (by decide), if_neg (by decide), if_neg (by decide), dv]
    obtain ⟨X1, x1, y1, f1⟩ := wr J 16 u (y * 4 + 0) (sp_B w h y 0)
    obtain ⟨X2, x2, y2, f2⟩ := wr X1 16 u (y * 4 + 1) (sp_B w h y 1)
    obtain ⟨X3, x3, y3, f3⟩ := wr X2 16 u (y * 4 + 2) (sp_B w h y 2)
    obtain ⟨X4, x4, y4, f4⟩ := wr X3 16 u (y * 4 + 3) (sp_B w h y 3)
    have g1 := c_putBeside (d := d) (I := J) (Q := Q) (c := y) (s := 0) (x := sp_B w h y 0) hr (by omega)
    have g2 := c_putBeside (d := d) (I := X1) (Q := Q) (c := y) (s := 1) (x := sp_B w h y 1) hr (by omega)
    have g3 := c_putBeside (d := d) (I := X2) (Q := Q) (c := y) (s := 2) (x := sp_B w h y 2) hr (by omega)
    have g4 := c_putBeside (d := d) (I := X3) (Q := Q) (c := y) (s := 3) (x := sp_B w h y 3) hr (by omega)
    rw [x1] at g1
    rw [x2] at g2
    rw [x3] at g3
    rw [x4] at g4
    have e0 : r = 0 ∨ 0 < r := by omega
    have n1 : ¬ w ≤ c := by omega
    have ew : nI w - nI 1 = nI (w - 1) := nI_sub w1
    have eh : nI h - nI 1 = nI (h - 1) := nI_sub h1
    refine ⟨X4, ?_, fr_tr (fr_tr (fr_tr (fr_mo f1 fun a b j w => ⟨w.1, w.2.1⟩) (fr_mo f2 fun a b j w => ⟨w.1, w.2.1⟩)) (fr_mo f3 fun a b j w => ⟨w.1, w.2.1⟩)) (fr_mo f4 fun a b j w => ⟨w.1, w.2.1⟩), fun j hj s hs => ?_⟩
    · rw [show r * w + (c + 1) = y + 1 by omega, s49_38]
      have part2 : am_ev (d + 1) 49 80 [.ref (am_mk 6 u), .int (nI w), .int (nI h), .int (nI y), .int (nI r), .int (nI c)] [] X2 R Q = am_ev (d + 1) 49 38 [.ref (am_mk 6 u), .int (nI w), .int (nI h), .int (nI (y + 1)), .int (nI r), .int (nI (c + 1))] [] X4 R Q := by
        by_cases k2 : c + 1 < w
        · rw [if_pos k2] at b2
          rw [b2] at g3
          have k2' : ¬ w - 1 ≤ c := by omega
          by_cases k3 : r + 1 < h
          · rw [if_pos k3] at b3
            rw [b3] at g4
            have k3' : ¬ h - 1 ≤ r := by omega
            simp (disch := first | omega | assumption) only [s49_0, s49_1, s49_4, s49_5, s49_6, s49_7, s49_8, s49_11, s49_12, s49_13, s49_14, s49_15, s49_18, s49_19, s49_20, s49_21, s49_24, s49_25, s49_26, s49_27, s49_29, s49_31, s49_32, s49_35, s49_36, s49_40, s49_41, s49_44, s49_45, s49_46, s49_47, s49_49, s49_52, s49_53, s49_54, s49_55, s49_58, s49_59, s49_62, s49_63, s49_64, s49_65, s49_67, s49_70, s49_71, s49_72, s49_73, s49_76, s49_77, s49_80, s49_81, s49_82, s49_83, s49_85, s49_86, s49_87, s49_88, s49_91, s49_92, s49_93, s49_94, s49_97, s49_98, s49_101, s49_102, s49_103, s49_104, s49_106, s49_107, s49_108, s49_109, s49_112, s49_113, s49_114, s49_115, s49_118, s49_119, s49_122, s49_125, s49_128, s49_131, s49_134, s49_137, nI_le2, nI_lt2, nI_eq2, nI_lt0, nI_0le, nI_0lt, nI_le0, nI_eq0, nI_clamp, nI_add, bu_nI, bb_0, bb_1, rf_s, rf_n, tl_s, tl_n, am_th_some, if_true, if_false, sI_eq, uI_eq, and_self, true_and, and_true, not_false_eq_true, not_true_eq_false, Nat.reduceEqDiff, Nat.reduceLeDiff, Nat.reduceLT, Nat.reduceAdd, Nat.reduceMul, Nat.reduceSub, Nat.zero_add, ew, eh, k2', k3', g3, g4]
          · rw [if_neg k3] at b3
            rw [b3] at g4
            have k3' : h - 1 ≤ r := by omega
            simp (disch := first | omega | assumption) only [s49_0, s49_1, s49_4, s49_5, s49_6, s49_7, s49_8, s49_11, s49_12, s49_13, s49_14, s49_15, s49_18, s49_19, s49_20, s49_21, s49_24, s49_25, s49_26, s49_27, s49_29, s49_31, s49_32, s49_35, s49_36, s49_40, s49_41, s49_44, s49_45, s49_46, s49_47, s49_49, s49_52, s49_53, s49_54, s49_55, s49_58, s49_59, s49_62, s49_63, s49_64, s49_65, s49_67, s49_70, s49_71, s49_72, s49_73, s49_76, s49_77, s49_80, s49_81, s49_82, s49_83, s49_85, s49_86, s49_87, s49_88, s49_91, s49_92, s49_93, s49_94, s49_97, s49_98, s49_101, s49_102, s49_103, s49_104, s49_106, s49_107, s49_108, s49_109, s49_112, s49_113, s49_114, s49_115, s49_118, s49_119, s49_122, s49_125, s49_128, s49_131, s49_134, s49_137, nI_le2, nI_lt2, nI_eq2, nI_lt0, nI_0le, nI_0lt, nI_le0, nI_eq0, nI_clamp, nI_add, bu_nI, bb_0, bb_1, rf_s, rf_n, tl_s, tl_n, am_th_some, if_true, if_false, sI_eq, uI_eq, and_self, true_and, and_true, not_false_eq_true, not_true_eq_false, Nat.reduceEqDiff, Nat.reduceLeDiff, Nat.reduceLT, Nat.reduceAdd, Nat.reduceMul, Nat.reduceSub, Nat.zero_add, ew, eh, k2', k3', g3, g4]
        · rw [if_neg k2] at b2
          rw [b2] at g3
          have k2' : w - 1 ≤ c := by omega
          by_cases k3 : r + 1 < h
          · rw [if_pos k3] at b3
            rw [b3] at g4
            have k3' : ¬ h - 1 ≤ r := by omega
            simp (disch := first | omega | assumption) only [s49_0, s49_1, s49_4, s49_5, s49_6, s49_7, s49_8, s49_11, s49_12, s49_13, s49_14, s49_15, s49_18, s49_19, s49_20, s49_21, s49_24, s49_25, s49_26, s49_27, s49_29, s49_31, s49_32, s49_35, s49_36, s49_40, s49_41, s49_44, s49_45, s49_46, s49_47, s49_49, s49_52, s49_53, s49_54, s49_55, s49_58, s49_59, s49_62, s49_63, s49_64, s49_65, s49_67, s49_70, s49_71, s49_72, s49_73, s49_76, s49_77, s49_80, s49_81, s49_82, s49_83, s49_85, s49_86, s49_87, s49_88, s49_91, s49_92, s49_93, s49_94, s49_97, s49_98, s49_101, s49_102, s49_103, s49_104, s49_106, s49_107, s49_108, s49_109, s49_112, s49_113, s49_114, s49_115, s49_118, s49_119, s49_122, s49_125, s49_128, s49_131, s49_134, s49_137, nI_le2, nI_lt2, nI_eq2, nI_lt0, nI_0le, nI_0lt, nI_le0, nI_eq0, nI_clamp, nI_add, bu_nI, bb_0, bb_1, rf_s, rf_n, tl_s, tl_n, am_th_some, if_true, if_false, sI_eq, uI_eq, and_self, true_and, and_true, not_false_eq_true, not_true_eq_false, Nat.reduceEqDiff, Nat.reduceLeDiff, Nat.reduceLT, Nat.reduceAdd, Nat.reduceMul, Nat.reduceSub, Nat.zero_add, ew, eh, k2', k3', g3, g4]
          · rw [if_neg k3] at b3
            rw [b3] at g4
            have k3' : h - 1 ≤ r := by omega
            simp (disch := first | omega | assumption) only [s49_0, s49_1, s49_4, s49_5, s49_6, s49_7, s49_8, s49_11, s49_12, s49_13, s49_14, s49_15, s49_18, s49_19, s49_20, s49_21, s49_24, s49_25, s49_26, s49_27, s49_29, s49_31, s49_32, s49_35, s49_36, s49_40, s49_41, s49_44, s49_45, s49_46, s49_47, s49_49, s49_52, s49_53, s49_54, s49_55, s49_58, s49_59, s49_62, s49_63, s49_64, s49_65, s49_67, s49_70, s49_71, s49_72, s49_73, s49_76, s49_77, s49_80, s49_81, s49_82, s49_83, s49_85, s49_86, s49_87, s49_88, s49_91, s49_92, s49_93, s49_94, s49_97, s49_98, s49_101, s49_102, s49_103, s49_104, s49_106, s49_107, s49_108, s49_109, s49_112, s49_113, s49_114, s49_115, s49_118, s49_119, s49_122, s49_125, s49_128, s49_131, s49_134, s49_137, nI_le2, nI_lt2, nI_eq2, nI_lt0, nI_0le, nI_0lt, nI_le0, nI_eq0, nI_clamp, nI_add, bu_nI, bb_0, bb_1, rf_s, rf_n, tl_s, tl_n, am_th_some, if_true, if_false, sI_eq, uI_eq, and_self, true_and, and_true, not_false_eq_true, not_true_eq_false, Nat.reduceEqDiff, Nat.reduceLeDiff, Nat.reduceLT, Nat.reduceAdd, Nat.reduceMul, Nat.reduceSub, Nat.zero_add, ew, eh, k2', k3', g3, g4]
      by_cases k0 : r = 0
      · rw [if_pos k0] at b0
        rw [b0] at g1
        have k0 := eq_true k0
        by_cases k1 : c = 0
        · rw [if_pos k1] at b1
          rw [b1] at g2
          have k1 := eq_true k1
          simp (disch := first | omega | assumption) only [s49_0, s49_1, s49_4, s49_5, s49_6, s49_7, s49_8, s49_11, s49_12, s49_13, s49_14, s49_15, s49_18, s49_19, s49_20, s49_21, s49_24, s49_25, s49_26, s49_27, s49_29, s49_31, s49_32, s49_35, s49_36, s49_40, s49_41, s49_44, s49_45, s49_46, s49_47, s49_49, s49_52, s49_53, s49_54, s49_55, s49_58, s49_59, s49_62, s49_63, s49_64, s49_65, s49_67, s49_70, s49_71, s49_72, s49_73, s49_76, s49_77, s49_81, s49_82, s49_83, s49_85, s49_86, s49_87, s49_88, s49_91, s49_92, s49_93, s49_94, s49_97, s49_98, s49_101, s49_102, s49_103, s49_104, s49_106, s49_107, s49_108, s49_109, s49_112, s49_113, s49_114, s49_115, s49_118, s49_119, s49_122, s49_125, s49_128, s49_131, s49_134, s49_137, nI_le2, nI_lt2, nI_eq2, nI_lt0, nI_0le, nI_0lt, nI_le0, nI_eq0, nI_clamp, nI_add, bu_nI, bb_0, bb_1, rf_s, rf_n, tl_s, tl_n, am_th_some, if_true, if_false, sI_eq, uI_eq, and_self, true_and, and_true, not_false_eq_true, not_true_eq_false, Nat.reduceEqDiff, Nat.reduceLeDiff, Nat.reduceLT, Nat.reduceAdd, Nat.reduceMul, Nat.reduceSub, Nat.zero_add, n1, k0, k1, g1, g2]
          exact part2
        · rw [if_neg k1] at b1
          rw [b1] at g2
          have ey : nI y - nI 1 = nI (y - 1) := nI_sub (by omega)
          simp (disch := first | omega | assumption) only [s49_0, s49_1, s49_4, s49_5, s49_6, s49_7, s49_8, s49_11, s49_12, s49_13, s49_14, s49_15, s49_18, s49_19, s49_20, s49_21, s49_24, s49_25, s49_26, s49_27, s49_29, s49_31, s49_32, s49_35, s49_36, s49_40, s49_41, s49_44, s49_45, s49_46, s49_47, s49_49, s49_52, s49_53, s49_54, s49_55, s49_58, s49_59, s49_62, s49_63, s49_64, s49_65, s49_67, s49_70, s49_71, s49_72, s49_73, s49_76, s49_77, s49_81, s49_82, s49_83, s49_85, s49_86, s49_87, s49_88, s49_91, s49_92, s49_93, s49_94, s49_97, s49_98, s49_101, s49_102, s49_103, s49_104, s49_106, s49_107, s49_108, s49_109, s49_112, s49_113, s49_114, s49_115, s49_118, s49_119, s49_122, s49_125, s49_128, s49_131, s49_134, s49_137, nI_le2, nI_lt2, nI_eq2, nI_lt0, nI_0le, nI_0lt, nI_le0, nI_eq0, nI_clamp, nI_add, bu_nI, bb_0, bb_1, rf_s, rf_n, tl_s, tl_n, am_th_some, if_true, if_false, sI_eq, uI_eq, and_self, true_and, and_true, not_false_eq_true, not_true_eq_false, Nat.reduceEqDiff, Nat.reduceLeDiff, Nat.reduceLT, Nat.reduceAdd, Nat.reduceMul, Nat.reduceSub, Nat.zero_add, n1, k0, k1, g1, g2, ey]
          exact part2
      · rw [if_neg k0] at b0
        rw [b0] at g1
        have ex : nI y - nI w = nI (y - w) := nI_sub (by have := rw0 (by omega); omega)
        by_cases k1 : c = 0
        · rw [if_pos k1] at b1
          rw [b1] at g2
          have k1 := eq_true k1
          simp (disch := first | omega | assumption) only [s49_0, s49_1, s49_4, s49_5, s49_6, s49_7, s49_8, s49_11, s49_12, s49_13, s49_14, s49_15, s49_18, s49_19, s49_20, s49_21, s49_24, s49_25, s49_26, s49_27, s49_29, s49_31, s49_32, s49_35, s49_36, s49_40, s49_41, s49_44, s49_45, s49_46, s49_47, s49_49, s49_52, s49_53, s49_54, s49_55, s49_58, s49_59, s49_62, s49_63, s49_64, s49_65, s49_67, s49_70, s49_71, s49_72, s49_73, s49_76, s49_77, s49_81, s49_82, s49_83, s49_85, s49_86, s49_87, s49_88, s49_91, s49_92, s49_93, s49_94, s49_97, s49_98, s49_101, s49_102, s49_103, s49_104, s49_106, s49_107, s49_108, s49_109, s49_112, s49_113, s49_114, s49_115, s49_118, s49_119, s49_122, s49_125, s49_128, s49_131, s49_134, s49_137, nI_le2, nI_lt2, nI_eq2, nI_lt0, nI_0le, nI_0lt, nI_le0, nI_eq0, nI_clamp, nI_add, bu_nI, bb_0, bb_1, rf_s, rf_n, tl_s, tl_n, am_th_some, if_true, if_false, sI_eq, uI_eq, and_self, true_and, and_true, not_false_eq_true, not_true_eq_false, Nat.reduceEqDiff, Nat.reduceLeDiff, Nat.reduceLT, Nat.reduceAdd, Nat.reduceMul, Nat.reduceSub, Nat.zero_add, n1, k0, k1, g1, g2, ex]
          exact part2
        · rw [if_neg k1] at b1
          rw [b1] at g2
          have ey : nI y - nI 1 = nI (y - 1) := nI_sub (by omega)
          simp (disch := first | omega | assumption) only [s49_0, s49_1, s49_4, s49_5, s49_6, s49_7, s49_8, s49_11, s49_12, s49_13, s49_14, s49_15, s49_18, s49_19, s49_20, s49_21, s49_24, s49_25, s49_26, s49_27, s49_29, s49_31, s49_32, s49_35, s49_36, s49_40, s49_41, s49_44, s49_45, s49_46, s49_47, s49_49, s49_52, s49_53, s49_54, s49_55, s49_58, s49_59, s49_62, s49_63, s49_64, s49_65, s49_67, s49_70, s49_71, s49_72, s49_73, s49_76, s49_77, s49_81, s49_82, s49_83, s49_85, s49_86, s49_87, s49_88, s49_91, s49_92, s49_93, s49_94, s49_97, s49_98, s49_101, s49_102, s49_103, s49_104, s49_106, s49_107, s49_108, s49_109, s49_112, s49_113, s49_114, s49_115, s49_118, s49_119, s49_122, s49_125, s49_128, s49_131, s49_134, s49_137, nI_le2, nI_lt2, nI_eq2, nI_lt0, nI_0le, nI_0lt, nI_le0, nI_eq0, nI_clamp, nI_add, bu_nI, bb_0, bb_1, rf_s, rf_n, tl_s, tl_n, am_th_some, if_true, if_false, sI_eq, uI_eq, and_self, true_and, and_true, not_false_eq_true, not_true_eq_false, Nat.reduceEqDiff, Nat.reduceLeDiff, Nat.reduceLT, Nat.reduceAdd, Nat.reduceMul, Nat.reduceSub, Nat.zero_add, n1, k0, k1, g1, g2, ex, ey]
          exact part2
    · by_cases q : j = y
      · subst q
        rcases (show s = 0 ∨ s = 1 ∨ s = 2 ∨ s = 3 by omega) with rfl | rfl | rfl | rfl
        · rw [f4 _ _ _ (by omega), f3 _ _ _ (by omega), f2 _ _ _ (by omega)]; exact y1
        · rw [f4 _ _ _ (by omega), f3 _ _ _ (by omega)]; exact y2
        · rw [f4 _ _ _ (by omega)]; exact y3
        · exact y4
      · rw [f4 _ _ _ (by omega), f3 _ _ _ (by omega), f2 _ _ _ (by omega), f1 _ _ _ (by omega)]
        exact hJ j (by omega) s hs
  -- one row
  have row : ∀ (J : am_I) (r : Nat) (l5 : Value), r < h → (∀ j, j < r * w → ∀ s, s < 4 → J 16 u (j * 4 + s) = sp_B w h j s) → ∃ (K : am_I) (l5' : Value), am_ev (d + 1) 49 29 [.ref (am_mk 6 u), .int (nI w), .int (nI h), .int (nI (r * w)), .int (nI r), l5] [] J R Q = am_ev (d + 1) 49 29 [.ref (am_mk 6 u), .int (nI w), .int (nI h), .int (nI ((r + 1) * w)), .int (nI (r + 1)), l5'] [] K R Q ∧ am_fr (fun a b _ => a = 16 ∧ b = u) J K ∧ (∀ j, j < (r + 1) * w → ∀ s, s < 4 → K 16 u (j * 4 + s) = sp_B w h j s) := by
    intro J r l5 hr' hJ
    have er : (r + 1) * w = r * w + w := by rw [Nat.add_mul, Nat.one_mul]
    have loop : ∃ K, am_ev (d + 1) 49 38 [.ref (am_mk 6 u), .int (nI w), .int (nI h), .int (nI (r * w + 0)), .int (nI r), .int (nI 0)] [] J R Q = am_ev (d + 1) 49 38 [.ref (am_mk 6 u), .int (nI w), .int (nI h), .int (nI (r * w + w)), .int (nI r), .int (nI w)] [] K R Q ∧ am_fr (fun a b _ => a = 16 ∧ b = u) J K ∧ (∀ j, j < r * w + w → ∀ s, s < 4 → K 16 u (j * 4 + s) = sp_B w h j s) := by
      refine loop_inv (f := fun K c => am_ev (d + 1) 49 38 [.ref (am_mk 6 u), .int (nI w), .int (nI h), .int (nI (r * w + c)), .int (nI r), .int (nI c)] [] K R Q) (Inv := fun c K => am_fr (fun a b _ => a = 16 ∧ b = u) J K ∧ (∀ j, j < r * w + c → ∀ s, s < 4 → K 16 u (j * 4 + s) = sp_B w h j s)) (Post := fun z => ∃ K, z = am_ev (d + 1) 49 38 [.ref (am_mk 6 u), .int (nI w), .int (nI h), .int (nI (r * w + w)), .int (nI r), .int (nI w)] [] K R Q ∧ am_fr (fun a b _ => a = 16 ∧ b = u) J K ∧ (∀ j, j < r * w + w → ∀ s, s < 4 → K 16 u (j * 4 + s) = sp_B w h j s)) (n := w) ?_ ?_ (Nat.zero_le _) ⟨fr_rf, fun j hj => hJ j (by omega)⟩
      · intro c K hc ⟨f, g⟩
        left
        obtain ⟨K2, e, f2, g2⟩ := cell K r c hr' hc g
        exact ⟨K2, e, fr_tr f f2, g2⟩
      · intro K ⟨f, g⟩
        exact ⟨K, rfl, f, g⟩
    obtain ⟨K, e, f, g⟩ := loop
    have n1 : ¬ h ≤ r := by omega
    have n2 : w ≤ w := Nat.le_refl _
    refine ⟨K, .int (nI w), ?_, f, by rw [er]; exact g⟩
    rw [Nat.add_zero] at e
    have fin : am_ev (d + 1) 49 38 [.ref (am_mk 6 u), .int (nI w), .int (nI h), .int (nI (r * w + w)), .int (nI r), .int (nI w)] [] K R Q = am_ev (d + 1) 49 29 [.ref (am_mk 6 u), .int (nI w), .int (nI h), .int (nI (r * w + w)), .int (nI (r + 1)), .int (nI w)] [] K R Q := by
      rw [s49_38]
      simp (disch := first | omega | assumption) only [s49_0, s49_1, s49_4, s49_5, s49_6, s49_7, s49_8, s49_11, s49_12, s49_13, s49_14, s49_15, s49_18, s49_19, s49_20, s49_21, s49_24, s49_25, s49_26, s49_27, s49_31, s49_32, s49_35, s49_36, s49_40, s49_41, s49_44, s49_45, s49_46, s49_47, s49_49, s49_52, s49_53, s49_54, s49_55, s49_58, s49_59, s49_62, s49_63, s49_64, s49_65, s49_67, s49_70, s49_71, s49_72, s49_73, s49_76, s49_77, s49_80, s49_81, s49_82, s49_83, s49_85, s49_86, s49_87, s49_88, s49_91, s49_92, s49_93, s49_94, s49_97, s49_98, s49_101, s49_102, s49_103, s49_104, s49_106, s49_107, s49_108, s49_109, s49_112, s49_113, s49_114, s49_115, s49_118, s49_119, s49_122, s49_125, s49_128, s49_131, s49_134, s49_137, nI_le2, nI_lt2, nI_eq2, nI_lt0, nI_0le, nI_0lt, nI_le0, nI_eq0, nI_clamp, nI_add, bu_nI, bb_0, bb_1, rf_s, rf_n, tl_s, tl_n, am_th_some, if_true, if_false, sI_eq, uI_eq, and_self, true_and, and_true, not_false_eq_true, not_true_eq_false, Nat.reduceEqDiff, Nat.reduceLeDiff, Nat.reduceLT, Nat.reduceAdd, Nat.reduceMul, Nat.reduceSub, Nat.zero_add, n2]
    rw [er, s49_29]
    simp (disch := first | omega | assumption) only [s49_0, s49_1, s49_4, s49_5, s49_6, s49_7, s49_8, s49_11, s49_12, s49_13, s49_14, s49_15, s49_18, s49_19, s49_20, s49_21, s49_24, s49_25, s49_26, s49_27, s49_31, s49_32, s49_35, s49_36, s49_40, s49_41, s49_44, s49_45, s49_46, s49_47, s49_49, s49_52, s49_53, s49_54, s49_55, s49_58, s49_59, s49_62, s49_63, s49_64, s49_65, s49_67, s49_70, s49_71, s49_72, s49_73, s49_76, s49_77, s49_80, s49_81, s49_82, s49_83, s49_85, s49_86, s49_87, s49_88, s49_91, s49_92, s49_93, s49_94, s49_97, s49_98, s49_101, s49_102, s49_103, s49_104, s49_106, s49_107, s49_108, s49_109, s49_112, s49_113, s49_114, s49_115, s49_118, s49_119, s49_122, s49_125, s49_128, s49_131, s49_134, s49_137, nI_le2, nI_lt2, nI_eq2, nI_lt0, nI_0le, nI_0lt, nI_le0, nI_eq0, nI_clamp, nI_add, bu_nI, bb_0, bb_1, rf_s, rf_n, tl_s, tl_n, am_th_some, if_true, if_false, sI_eq, uI_eq, and_self, true_and, and_true, not_false_eq_true, not_true_eq_false, Nat.reduceEqDiff, Nat.reduceLeDiff, Nat.reduceLT, Nat.reduceAdd, Nat.reduceMul, Nat.reduceSub, Nat.zero_add, n1]
    exact e.trans fin
  have all : ∃ (K : am_I) (l5 : Value), am_ev (d + 1) 49 29 [.ref (am_mk 6 u), .int (nI w), .int (nI h), .int (nI (0 * w)), .int (nI 0), am_J] [] X0 R Q = am_ev (d + 1) 49 29 [.ref (am_mk 6 u), .int (nI w), .int (nI h), .int (nI (h * w)), .int (nI h), l5] [] K R Q ∧ am_fr (fun a b _ => a = 16 ∧ b = u) X0 K ∧ (∀ j, j < h * w → ∀ s, s < 4 → K 16 u (j * 4 + s) = sp_B w h j s) := by
    refine loop_inv (f := fun (K : am_I × Value) c => am_ev (d + 1) 49 29 [.ref (am_mk 6 u), .int (nI w), .int (nI h), .int (nI (c * w)), .int (nI c), K.2] [] K.1 R Q) (Inv := fun c K => am_fr (fun a b _ => a = 16 ∧ b = u) X0 K.1 ∧ (∀ j, j < c * w → ∀ s, s < 4 → K.1 16 u (j * 4 + s) = sp_B w h j s)) (Post := fun z => ∃ (K : am_I) (l5 : Value), z = am_ev (d + 1) 49 29 [.ref (am_mk 6 u), .int (nI w), .int (nI h), .int (nI (h * w)), .int (nI h), l5] [] K R Q ∧ am_fr (fun a b _ => a = 16 ∧ b = u) X0 K ∧ (∀ j, j < h * w → ∀ s, s < 4 → K 16 u (j * 4 + s) = sp_B w h j s)) (n := h) ?_ ?_ (Nat.zero_le _) (a := (X0, am_J)) ⟨fr_rf, fun j hj => by rw [Nat.zero_mul] at hj; exact absurd hj (Nat.not_lt_zero _)⟩
    · intro c ⟨K, l5⟩ hc ⟨f, g⟩
      left
      obtain ⟨K2, l5', e, f2, g2⟩ := row K c l5 hc g
      exact ⟨(K2, l5'), e, fr_tr f f2, g2⟩
    · intro ⟨K, l5⟩ ⟨f, g⟩
      exact ⟨K, l5, rfl, f, g⟩
  obtain ⟨K, l5, e, f, g⟩ := all
  have n1 : h ≤ h := Nat.le_refl _
  refine ⟨K, ?_, fr_tr (fr_mo f0 fun a b j w => Or.inr w) (fr_mo f fun a b j w => Or.inl w), (f _ _ _ (by omega)).trans y0, fun j hj s hs => g j (by rw [Nat.mul_comm]; exact hj) s hs⟩
  rw [Nat.zero_mul] at e
  rw [s49]
  simp (disch := first | omega | assumption) only [s49_0, s49_1, s49_4, s49_5, s49_6, s49_7, s49_8, s49_11, s49_12, s49_13, s49_14, s49_15, s49_18, s49_19, s49_20, s49_21, s49_24, s49_25, s49_26, s49_27, s49_31, s49_32, s49_35, s49_36, s49_38, s49_40, s49_41, s49_44, s49_45, s49_46, s49_47, s49_49, s49_52, s49_53, s49_54, s49_55, s49_58, s49_59, s49_62, s49_63, s49_64, s49_65, s49_67, s49_70, s49_71, s49_72, s49_73, s49_76, s49_77, s49_80, s49_81, s49_82, s49_83, s49_85, s49_86, s49_87, s49_88, s49_91, s49_92, s49_93, s49_94, s49_97, s49_98, s49_101, s49_102, s49_103, s49_104, s49_106, s49_107, s49_108, s49_109, s49_112, s49_113, s49_114, s49_115, s49_118, s49_119, s49_122, s49_125, s49_128, s49_131, s49_134, s49_137, nI_le2, nI_lt2, nI_eq2, nI_lt0, nI_0le, nI_0lt, nI_le0, nI_eq0, nI_clamp, nI_add, bu_nI, bb_0, bb_1, rf_s, rf_n, tl_s, tl_n, am_th_some, if_true, if_false, sI_eq, uI_eq, and_self, true_and, and_true, not_false_eq_true, not_true_eq_false, Nat.reduceEqDiff, Nat.reduceLeDiff, Nat.reduceLT, Nat.reduceAdd, Nat.reduceMul, Nat.reduceSub, Nat.zero_add, q0, q6, hw, hh, nI_mul, x0]
  rw [e, s49_29]
  simp (disch := first | omega | assumption) only [s49_0, s49_1, s49_4, s49_5, s49_6, s49_7, s49_8, s49_11, s49_12, s49_13, s49_14, s49_15, s49_18, s49_19, s49_20, s49_21, s49_24, s49_25, s49_26, s49_27, s49_31, s49_32, s49_35, s49_36, s49_38, s49_40, s49_41, s49_44, s49_45, s49_46, s49_47, s49_49, s49_52, s49_53, s49_54, s49_55, s49_58, s49_59, s49_62, s49_63, s49_64, s49_65, s49_67, s49_70, s49_71, s49_72, s49_73, s49_76, s49_77, s49_80, s49_81, s49_82, s49_83, s49_85, s49_86, s49_87, s49_88, s49_91, s49_92, s49_93, s49_94, s49_97, s49_98, s49_101, s49_102, s49_103, s49_104, s49_106, s49_107, s49_108, s49_109, s49_112, s49_113, s49_114, s49_115, s49_118, s49_119, s49_122, s49_125, s49_128, s49_131, s49_134, s49_137, nI_le2, nI_lt2, nI_eq2, nI_lt0, nI_0le, nI_0lt, nI_le0, nI_eq0, nI_clamp, nI_add, bu_nI, bb_0, bb_1, rf_s, rf_n, tl_s, tl_n, am_th_some, if_true, if_false, sI_eq, uI_eq, and_self, true_and, and_true, not_false_eq_true, not_true_eq_false, Nat.reduceEqDiff, Nat.reduceLeDiff, Nat.reduceLT, Nat.reduceAdd, Nat.reduceMul, Nat.reduceSub, Nat.zero_add, n1]
end
