/-! ColdMiddle.spot, which throws; the law's helper, which catches. -/
abbrev am_cLs : ByteArray := method_3_code
def am_yLs : MethodName := ⟨"ColdMiddleLaw", "spot", "(LColdMiddle;II[J)I"⟩
theorem am_dLs_0 : decode am_cLs 0 = .ok (.aload_n 3, 1) := by decide +kernel
theorem am_dLs_1 : decode am_cLs 1 = .ok (.iconst 0, 1) := by decide +kernel
theorem am_dLs_2 : decode am_cLs 2 = .ok (.aload_n 0, 1) := by decide +kernel
theorem am_dLs_3 : decode am_cLs 3 = .ok (.iload_n 1, 1) := by decide +kernel
theorem am_dLs_4 : decode am_cLs 4 = .ok (.iload_n 2, 1) := by decide +kernel
theorem am_dLs_5 : decode am_cLs 5 = .ok (.invokevirtual 7, 3) := by decide +kernel
theorem am_dLs_8 : decode am_cLs 8 = .ok (.i2l, 1) := by decide +kernel
theorem am_dLs_9 : decode am_cLs 9 = .ok (.lastore, 1) := by decide +kernel
theorem am_dLs_10 : decode am_cLs 10 = .ok (.goto 7, 3) := by decide +kernel
theorem am_dLs_13 : decode am_cLs 13 = .ok (.astore 4, 2) := by decide +kernel
theorem am_dLs_15 : decode am_cLs 15 = .ok (.iconst 1, 1) := by decide +kernel
theorem am_dLs_16 : decode am_cLs 16 = .ok (.ireturn, 1) := by decide +kernel
theorem am_dLs_17 : decode am_cLs 17 = .ok (.iconst 0, 1) := by decide +kernel
theorem am_dLs_18 : decode am_cLs 18 = .ok (.ireturn, 1) := by decide +kernel
abbrev am_nse : String := "java/util/NoSuchElementException"
abbrev am_nsn : List String := ["java/lang/RuntimeException", "java/lang/Exception"]
def am_xw : List Cond := [.classLink "ColdMiddle" 171 am_nse, .initialized am_nse, .codeWith am_yLs am_cLs 5 (some .int) [(0, 10, 13, 13)], .static am_yLs, .methodLink "ColdMiddleLaw" 42 am_yLs, .initialized "ColdMiddleLaw", .classLink "ColdMiddleLaw" 13 am_nse, .methodLink "ColdMiddleLaw" 7 (am_yy am_spot), .instanceMethod (am_yy am_spot), .selects "ColdMiddle" (am_yy am_spot) (am_yy am_spot), .initialized "ColdMiddle"]
theorem am_xw_in : ∀ w ∈ am_xw, w ∈ am_ws := by decide +kernel
theorem am_at0_in : ∀ w ∈ (vx_at0 "ColdMiddle" 173 am_nse am_nsn).filter goodWord, w ∈ am_ws := by decide +kernel
def am_at0B : List Cond := [.castable am_nse am_nse, .declares (Bundle.init0 "java/lang/RuntimeException"), .declares (Bundle.init0 "java/lang/Exception"), .declares (Bundle.init0 Bundle.tN)]
theorem am_at0_no : ∀ w ∈ (vx_at0 "ColdMiddle" 173 am_nse am_nsn).filter (fun w => !goodWord w), w ∈ am_at0B := by decide +kernel
theorem am_at0B_tb : ∀ w ∈ am_at0B, w ∈ lw_tbl := by decide +kernel
theorem am_at0_ot : ∀ w ∈ Cond.classLink "ColdMiddle" 171 am_nse :: Cond.initialized am_nse :: vx_at0 "ColdMiddle" 173 am_nse am_nsn, vx_ot w = true := by decide +kernel
theorem am_xw_good : am_xw.all goodWord = true := by decide +kernel
