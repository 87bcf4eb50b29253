/-! Each instruction of the tables: decode reads it there; its numbers are what the tables' words say. -/
def am_il (i : Instr) : Nat := match i with
  | .bipush _ | .ldc _ | .iload _ | .aload _ | .lload _ | .istore _ | .astore _ | .lstore _ | .newarray _ => 2
  | .sipush _ | .ldc_w _ | .ldc2_w _ | .iinc _ _ | .goto _ | .if_icmp _ _ | .ifCond _ _ | .ifnull _ | .ifnonnull _ | .getfield _ | .putfield _ | .getstatic _ | .new _ | .anewarray _ | .invokevirtual _ | .invokespecial _ | .invokestatic _ => 3
  | .tableswitch _ _ _ _ => 0
  | .lookupswitch _ _ => 0
  | _ => 1
def am_chV (M idx : Nat) (z : Nat × Nat × Int) (kind : Nat) : Bool :=
  z.1 == 2000 || (if z.2.1 = 3 then kind == 2 && am_mn.contains (am_oc M, idx, z.1) && decide (z.1 < 283) else (am_ml2.contains (am_oc M, idx, z.1) && (decide (1000 ≤ z.1) || z.2.1 == kind))) &&
    (decide (283 ≤ z.1) || ((am_isS z.1 == (kind == 1)) && (kind != 0 || (am_mps.getD z.1 (0, 0, 0, 0)).2.2.2 != 99999) && (kind != 2 || ((am_yy z.1).name == "<init>" && decide (am_rt z.1 = none))) && z.1 != am_lst && z.1 != am_spot))
    && (decide (1005 ≤ z.1) || decide (z.1 < 1000) || kind == 1) && (z.1 != 1005 || kind == 1) && (z.1 != 1006 || kind == 2) && (z.1 != 950 || (kind == 1 && M == am_lst)) && (decide (z.1 < 900) || decide (903 ≤ z.1) || kind == 0) && (decide (z.1 < 283) || decide (900 ≤ z.1)) && (decide (z.1 < 903) || z.1 == 950 || decide (1000 ≤ z.1)) && (decide (z.1 ≤ 1006) || z.1 == 2000)
def am_chI (M pc : Nat) (i : Instr) (z : Nat × Nat × Int) : Bool := match i with
  | .iconst n => decide (Int32.ofInt n = Int32.ofInt z.2.2)
  | .bipush n => decide ((Int8.ofInt n).toInt32 = Int32.ofInt z.2.2)
  | .sipush n => decide ((Int16.ofInt n).toInt32 = Int32.ofInt z.2.2)
  | .ldc idx => if z.1 = 1 then decide (z.2.1 < 8) && (am_sr.getD z.2.1 (99, 0, "")).1 == am_oc M && (am_sr.getD z.2.1 (99, 0, "")).2.1 == idx else am_cs.contains (am_oc M, idx, z.2.2)
  | .ldc_w idx => z.1 != 1 && am_cs.contains (am_oc M, idx, z.2.2)
  | .ldc2_w idx => am_cg.contains (am_oc M, idx, z.2.2)
  | .getfield idx => am_fl.contains (am_oc M, idx, z.1, z.2.1) && decide (z.2.1 < am_nf.getD z.1 0) && decide (z.2.2 = (am_ft z.1 z.2.1 : Int))
  | .putfield idx => am_fl.contains (am_oc M, idx, z.1, z.2.1) && decide (z.2.1 < am_nf.getD z.1 0) && decide (z.2.2 = (am_ft z.1 z.2.1 : Int)) && (!(am_TX z.1 z.2.1).2.2.2 || (am_oc M == z.1 && (am_yy M).name == "<init>"))
  | .getstatic idx => am_sl.contains (am_oc M, idx, z.1) && decide (110 ≤ z.1) && decide (z.1 < 115)
  | .new idx => (z.1 == 99 && M == am_spot) || am_cl2.contains (am_oc M, idx, z.1)
  | .newarray t => decide ((z.1 = 0 ∧ t = .int) ∨ (z.1 = 1 ∧ t = .boolean) ∨ (z.1 = 2 ∧ t = .long))
  | .anewarray idx => (z.1 == 3 && am_cl2.contains (am_oc M, idx, 3)) || (z.1 == 4 && am_cl2.contains (am_oc M, idx, 9))
  | .invokevirtual idx => am_chV M idx z 0
  | .invokestatic idx => am_chV M idx z 1
  | .invokespecial idx => am_chV M idx z 2
  | .istore _ | .istore_n _ | .astore _ | .astore_n _ | .lstore _ | .lstore_n _ | .iinc _ _ => decide (z.1 ≤ 1) && ((z.1 == 1) == am_lg M)
  | .ireturn => (z.1 == 0 && decide (am_rt M = some .int)) || (z.1 == 1 && decide (am_rt M = some .boolean))
  | .lreturn => decide (am_rt M = some .long)
  | .areturn => decide (am_rt M = some (.object "ColdMiddle$Plate"))
  | .return_ => decide (am_rt M = none)
  | .if_icmp _ off | .ifCond _ off | .ifnull off | .ifnonnull off => decide (0 ≤ (pc : Int) + off)
  | .lookupswitch _ ps => (ps.toList.zip (ps.toList.drop 1)).all (fun (a, next) => a.1 < next.1)
  | _ => true
def am_chE (M : Nat) (e : am_E) : Bool := decide (decode (am_cc M) e.1 = .ok (e.2.1, e.2.2.1)) && (am_il e.2.1 == 0 || e.2.2.1 == am_il e.2.1) && am_chI M e.1 e.2.1 e.2.2.2
def am_chk (M : Nat) : Bool := (am_TB M).all (am_chE M)
theorem am_all_cut {M : Nat} (a : Nat) (h1 : ((am_TB M).take a).all (am_chE M) = true) (h2 : ((am_TB M).drop a).all (am_chE M) = true) : (am_TB M).all (am_chE M) = true := by
  rw [← List.take_append_drop a (am_TB M), List.all_append, h1, h2]
  rfl
theorem am_all_cut2 {l : List am_E} {f : am_E → Bool} (a : Nat) (h1 : (l.take a).all f = true) (h2 : (l.drop a).all f = true) : l.all f = true := by
  rw [← List.take_append_drop a l, List.all_append, h1, h2]
  rfl
theorem am_chk_0 : ∀ i, i < 10 → am_chk (0 + i) = true := by decide +kernel
theorem am_chk_10 : ∀ i, i < 6 → am_chk (10 + i) = true := by decide +kernel
theorem am_chk_16 : ∀ i, i < 6 → am_chk (16 + i) = true := by decide +kernel
theorem am_chk_22 : ∀ i, i < 10 → am_chk (22 + i) = true := by decide +kernel
theorem am_chk_32 : ∀ i, i < 5 → am_chk (32 + i) = true := by decide +kernel
theorem am_chk_37 : ∀ i, i < 7 → am_chk (37 + i) = true := by decide +kernel
theorem am_chk_44 : ∀ i, i < 10 → am_chk (44 + i) = true := by decide +kernel
theorem am_chk_54 : ∀ i, i < 7 → am_chk (54 + i) = true := by decide +kernel
theorem am_chk_61 : ∀ i, i < 4 → am_chk (61 + i) = true := by decide +kernel
theorem am_chk_65 : ∀ i, i < 8 → am_chk (65 + i) = true := by decide +kernel
theorem am_chk_73 : ∀ i, i < 9 → am_chk (73 + i) = true := by decide +kernel
theorem am_chk_82 : ∀ i, i < 11 → am_chk (82 + i) = true := by decide +kernel
theorem am_chk_93 : ∀ i, i < 8 → am_chk (93 + i) = true := by decide +kernel
theorem am_chk_101 : ∀ i, i < 11 → am_chk (101 + i) = true := by decide +kernel
theorem am_chk_112 : ∀ i, i < 9 → am_chk (112 + i) = true := by decide +kernel
theorem am_chk_121 : ∀ i, i < 14 → am_chk (121 + i) = true := by decide +kernel
theorem am_chk_135 : ∀ i, i < 11 → am_chk (135 + i) = true := by decide +kernel
theorem am_chk_146 : ∀ i, i < 10 → am_chk (146 + i) = true := by decide +kernel
theorem am_chk_156 : ∀ i, i < 7 → am_chk (156 + i) = true := by decide +kernel
theorem am_chk_163 : ∀ i, i < 11 → am_chk (163 + i) = true := by decide +kernel
theorem am_chk_174 : ∀ i, i < 8 → am_chk (174 + i) = true := by decide +kernel
theorem am_chk_182 : ∀ i, i < 7 → am_chk (182 + i) = true := by decide +kernel
theorem am_chk_189 : ∀ i, i < 5 → am_chk (189 + i) = true := by decide +kernel
theorem am_chk_194 : ∀ i, i < 4 → am_chk (194 + i) = true := by decide +kernel
theorem am_chk_198 : ∀ i, i < 6 → am_chk (198 + i) = true := by decide +kernel
theorem am_chk_204 : ∀ i, i < 8 → am_chk (204 + i) = true := by decide +kernel
theorem am_chk_212 : ∀ i, i < 5 → am_chk (212 + i) = true := by decide +kernel
theorem am_chk_217 : ∀ i, i < 7 → am_chk (217 + i) = true := by decide +kernel
theorem am_chk_224 : ∀ i, i < 8 → am_chk (224 + i) = true := by decide +kernel
theorem am_chk_232 : ∀ i, i < 11 → am_chk (232 + i) = true := by decide +kernel
theorem am_chk_243 : ∀ i, i < 7 → am_chk (243 + i) = true := by decide +kernel
theorem am_chk_250 : ∀ i, i < 9 → am_chk (250 + i) = true := by decide +kernel
theorem am_chk_259 : ∀ i, i < 6 → am_chk (259 + i) = true := by decide +kernel
theorem am_chk_265 : ∀ i, i < 6 → am_chk (265 + i) = true := by decide +kernel
theorem am_chk_271 : ∀ i, i < 9 → am_chk (271 + i) = true := by decide +kernel
theorem am_chk_280_0 : (((am_TB 280).drop 0).take 80).all (am_chE 280) = true := by decide +kernel
theorem am_chk_280_80 : (((am_TB 280).drop 80).take 80).all (am_chE 280) = true := by decide +kernel
theorem am_chk_280_160 : (((am_TB 280).drop 160).take 80).all (am_chE 280) = true := by decide +kernel
theorem am_chk_280_240 : (((am_TB 280).drop 240).take 80).all (am_chE 280) = true := by decide +kernel
theorem am_chk_280_320 : (((am_TB 280).drop 320).take 80).all (am_chE 280) = true := by decide +kernel
theorem am_chk_280_400 : (((am_TB 280).drop 400).take 80).all (am_chE 280) = true := by decide +kernel
theorem am_chk_280_480 : (((am_TB 280).drop 480).take 80).all (am_chE 280) = true := by decide +kernel
theorem am_chk_280_560 : (((am_TB 280).drop 560).take 80).all (am_chE 280) = true := by decide +kernel
theorem am_chk_280_640 : (((am_TB 280).drop 640).take 80).all (am_chE 280) = true := by decide +kernel
theorem am_chk_280_720 : (((am_TB 280).drop 720).take 80).all (am_chE 280) = true := by decide +kernel
theorem am_chk_280_800 : (((am_TB 280).drop 800).take 80).all (am_chE 280) = true := by decide +kernel
theorem am_chk_280_880 : (((am_TB 280).drop 880).take 80).all (am_chE 280) = true := by decide +kernel
theorem am_chk_280 : ∀ i, i < 1 → am_chk (280 + i) = true := by
  intro j hj
  obtain rfl : j = 0 := by omega
  show (am_TB 280).all (am_chE 280) = true
  have h : ((am_TB 280).drop 960).all (am_chE 280) = true := by decide +kernel
  have h : ((am_TB 280).drop 880).all (am_chE 280) = true := am_all_cut2 80 am_chk_280_880 (by rw [List.drop_drop]; exact h)
  have h : ((am_TB 280).drop 800).all (am_chE 280) = true := am_all_cut2 80 am_chk_280_800 (by rw [List.drop_drop]; exact h)
  have h : ((am_TB 280).drop 720).all (am_chE 280) = true := am_all_cut2 80 am_chk_280_720 (by rw [List.drop_drop]; exact h)
  have h : ((am_TB 280).drop 640).all (am_chE 280) = true := am_all_cut2 80 am_chk_280_640 (by rw [List.drop_drop]; exact h)
  have h : ((am_TB 280).drop 560).all (am_chE 280) = true := am_all_cut2 80 am_chk_280_560 (by rw [List.drop_drop]; exact h)
  have h : ((am_TB 280).drop 480).all (am_chE 280) = true := am_all_cut2 80 am_chk_280_480 (by rw [List.drop_drop]; exact h)
  have h : ((am_TB 280).drop 400).all (am_chE 280) = true := am_all_cut2 80 am_chk_280_400 (by rw [List.drop_drop]; exact h)
  have h : ((am_TB 280).drop 320).all (am_chE 280) = true := am_all_cut2 80 am_chk_280_320 (by rw [List.drop_drop]; exact h)
  have h : ((am_TB 280).drop 240).all (am_chE 280) = true := am_all_cut2 80 am_chk_280_240 (by rw [List.drop_drop]; exact h)
  have h : ((am_TB 280).drop 160).all (am_chE 280) = true := am_all_cut2 80 am_chk_280_160 (by rw [List.drop_drop]; exact h)
  have h : ((am_TB 280).drop 80).all (am_chE 280) = true := am_all_cut2 80 am_chk_280_80 (by rw [List.drop_drop]; exact h)
  have h : ((am_TB 280).drop 0).all (am_chE 280) = true := am_all_cut2 80 am_chk_280_0 (by rw [List.drop_drop]; exact h)
  exact h
theorem am_chk_281 : ∀ i, i < 2 → am_chk (281 + i) = true := by decide +kernel
theorem am_chk_all (M : Nat) (h : M < 283) : am_chk M = true := by
  rcases Nat.lt_or_ge M 10 with q | q
  · have e := am_chk_0 (M - 0) (by omega)
    rwa [show 0 + (M - 0) = M by omega] at e
  rcases Nat.lt_or_ge M 16 with q | q
  · have e := am_chk_10 (M - 10) (by omega)
    rwa [show 10 + (M - 10) = M by omega] at e
  rcases Nat.lt_or_ge M 22 with q | q
  · have e := am_chk_16 (M - 16) (by omega)
    rwa [show 16 + (M - 16) = M by omega] at e
  rcases Nat.lt_or_ge M 32 with q | q
  · have e := am_chk_22 (M - 22) (by omega)
    rwa [show 22 + (M - 22) = M by omega] at e
  rcases Nat.lt_or_ge M 37 with q | q
  · have e := am_chk_32 (M - 32) (by omega)
    rwa [show 32 + (M - 32) = M by omega] at e
  rcases Nat.lt_or_ge M 44 with q | q
  · have e := am_chk_37 (M - 37) (by omega)
    rwa [show 37 + (M - 37) = M by omega] at e
  rcases Nat.lt_or_ge M 54 with q | q
  · have e := am_chk_44 (M - 44) (by omega)
    rwa [show 44 + (M - 44) = M by omega] at e
  rcases Nat.lt_or_ge M 61 with q | q
  · have e := am_chk_54 (M - 54) (by omega)
    rwa [show 54 + (M - 54) = M by omega] at e
  rcases Nat.lt_or_ge M 65 with q | q
  · have e := am_chk_61 (M - 61) (by omega)
    rwa [show 61 + (M - 61) = M by omega] at e
  rcases Nat.lt_or_ge M 73 with q | q
  · have e := am_chk_65 (M - 65) (by omega)
    rwa [show 65 + (M - 65) = M by omega] at e
  rcases Nat.lt_or_ge M 82 with q | q
  · have e := am_chk_73 (M - 73) (by omega)
    rwa [show 73 + (M - 73) = M by omega] at e
  rcases Nat.lt_or_ge M 93 with q | q
  · have e := am_chk_82 (M - 82) (by omega)
    rwa [show 82 + (M - 82) = M by omega] at e
  rcases Nat.lt_or_ge M 101 with q | q
  · have e := am_chk_93 (M - 93) (by omega)
    rwa [show 93 + (M - 93) = M by omega] at e
  rcases Nat.lt_or_ge M 112 with q | q
  · have e := am_chk_101 (M - 101) (by omega)
    rwa [show 101 + (M - 101) = M by omega] at e
  rcases Nat.lt_or_ge M 121 with q | q
  · have e := am_chk_112 (M - 112) (by omega)
    rwa [show 112 + (M - 112) = M by omega] at e
  rcases Nat.lt_or_ge M 135 with q | q
  · have e := am_chk_121 (M - 121) (by omega)
    rwa [show 121 + (M - 121) = M by omega] at e
  rcases Nat.lt_or_ge M 146 with q | q
  · have e := am_chk_135 (M - 135) (by omega)
    rwa [show 135 + (M - 135) = M by omega] at e
  rcases Nat.lt_or_ge M 156 with q | q
  · have e := am_chk_146 (M - 146) (by omega)
    rwa [show 146 + (M - 146) = M by omega] at e
  rcases Nat.lt_or_ge M 163 with q | q
  · have e := am_chk_156 (M - 156) (by omega)
    rwa [show 156 + (M - 156) = M by omega] at e
  rcases Nat.lt_or_ge M 174 with q | q
  · have e := am_chk_163 (M - 163) (by omega)
    rwa [show 163 + (M - 163) = M by omega] at e
  rcases Nat.lt_or_ge M 182 with q | q
  · have e := am_chk_174 (M - 174) (by omega)
    rwa [show 174 + (M - 174) = M by omega] at e
  rcases Nat.lt_or_ge M 189 with q | q
  · have e := am_chk_182 (M - 182) (by omega)
    rwa [show 182 + (M - 182) = M by omega] at e
  rcases Nat.lt_or_ge M 194 with q | q
  · have e := am_chk_189 (M - 189) (by omega)
    rwa [show 189 + (M - 189) = M by omega] at e
  rcases Nat.lt_or_ge M 198 with q | q
  · have e := am_chk_194 (M - 194) (by omega)
    rwa [show 194 + (M - 194) = M by omega] at e
  rcases Nat.lt_or_ge M 204 with q | q
  · have e := am_chk_198 (M - 198) (by omega)
    rwa [show 198 + (M - 198) = M by omega] at e
  rcases Nat.lt_or_ge M 212 with q | q
  · have e := am_chk_204 (M - 204) (by omega)
    rwa [show 204 + (M - 204) = M by omega] at e
  rcases Nat.lt_or_ge M 217 with q | q
  · have e := am_chk_212 (M - 212) (by omega)
    rwa [show 212 + (M - 212) = M by omega] at e
  rcases Nat.lt_or_ge M 224 with q | q
  · have e := am_chk_217 (M - 217) (by omega)
    rwa [show 217 + (M - 217) = M by omega] at e
  rcases Nat.lt_or_ge M 232 with q | q
  · have e := am_chk_224 (M - 224) (by omega)
    rwa [show 224 + (M - 224) = M by omega] at e
  rcases Nat.lt_or_ge M 243 with q | q
  · have e := am_chk_232 (M - 232) (by omega)
    rwa [show 232 + (M - 232) = M by omega] at e
  rcases Nat.lt_or_ge M 250 with q | q
  · have e := am_chk_243 (M - 243) (by omega)
    rwa [show 243 + (M - 243) = M by omega] at e
  rcases Nat.lt_or_ge M 259 with q | q
  · have e := am_chk_250 (M - 250) (by omega)
    rwa [show 250 + (M - 250) = M by omega] at e
  rcases Nat.lt_or_ge M 265 with q | q
  · have e := am_chk_259 (M - 259) (by omega)
    rwa [show 259 + (M - 259) = M by omega] at e
  rcases Nat.lt_or_ge M 271 with q | q
  · have e := am_chk_265 (M - 265) (by omega)
    rwa [show 265 + (M - 265) = M by omega] at e
  rcases Nat.lt_or_ge M 280 with q | q
  · have e := am_chk_271 (M - 271) (by omega)
    rwa [show 271 + (M - 271) = M by omega] at e
  rcases Nat.lt_or_ge M 281 with q | q
  · have e := am_chk_280 (M - 280) (by omega)
    rwa [show 280 + (M - 280) = M by omega] at e
  rcases Nat.lt_or_ge M 283 with q | q
  · have e := am_chk_281 (M - 281) (by omega)
    rwa [show 281 + (M - 281) = M by omega] at e
  omega
