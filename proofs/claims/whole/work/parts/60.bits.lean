/-! Bits of ints. -/
theorem nI_or (a b : Nat) : nI a ||| nI b = nI (a ||| b) := by
  apply Int32.toBitVec_inj.mp
  show BitVec.ofNat 32 a ||| BitVec.ofNat 32 b = BitVec.ofNat 32 (a ||| b)
  apply BitVec.eq_of_toNat_eq
  rw [BitVec.toNat_or, BitVec.toNat_ofNat, BitVec.toNat_ofNat, BitVec.toNat_ofNat, Nat.or_mod_two_pow]
theorem nI_and (a b : Nat) : nI a &&& nI b = nI (a &&& b) := by
  apply Int32.toBitVec_inj.mp
  show BitVec.ofNat 32 a &&& BitVec.ofNat 32 b = BitVec.ofNat 32 (a &&& b)
  apply BitVec.eq_of_toNat_eq
  rw [BitVec.toNat_and, BitVec.toNat_ofNat, BitVec.toNat_ofNat, BitVec.toNat_ofNat, Nat.and_mod_two_pow]
theorem smod_c : ∀ c, c < 32 → ((nI c &&& 31 : Int32).toBitVec.smod 32).toNat = c := by decide +kernel
theorem nI_shl (a : Nat) {c : Nat} (hc : c < 32) : nI a <<< (nI c &&& 31) = nI (a * 2 ^ c) := by
  apply Int32.toBitVec_inj.mp
  rw [Int32.toBitVec_shiftLeft, BitVec.shiftLeft_eq', smod_c c hc]
  show BitVec.ofNat 32 a <<< c = BitVec.ofNat 32 (a * 2 ^ c)
  apply BitVec.eq_of_toNat_eq
  rw [BitVec.toNat_shiftLeft, BitVec.toNat_ofNat, BitVec.toNat_ofNat, Nat.shiftLeft_eq, Nat.mod_mul_mod]
theorem nI_shr {a c : Nat} (ha : a < 2 ^ 31) (hc : c < 32) : nI a >>> (nI c &&& 31) = nI (a >>> c) := by
  apply Int32.toBitVec_inj.mp
  rw [Int32.toBitVec_shiftRight]
  show (BitVec.ofNat 32 a).sshiftRight ((nI c &&& 31 : Int32).toBitVec.smod 32).toNat = BitVec.ofNat 32 (a >>> c)
  rw [smod_c c hc]
  have hm : (BitVec.ofNat 32 a).msb = false := by
    rw [BitVec.msb_eq_decide, BitVec.toNat_ofNat]
    exact decide_eq_false (by omega)
  rw [BitVec.sshiftRight_eq_of_msb_false hm]
  apply BitVec.eq_of_toNat_eq
  have h2 : a >>> c ≤ a := by rw [Nat.shiftRight_eq_div_pow]; exact Nat.div_le_self _ _
  rw [BitVec.toNat_ushiftRight, BitVec.toNat_ofNat, BitVec.toNat_ofNat, Nat.mod_eq_of_lt (by omega), Nat.mod_eq_of_lt (by omega)]
theorem nI_bit {c : Nat} (hc : c < 32) : nI 1 <<< (nI c &&& 31) = nI (2 ^ c) := by rw [nI_shl 1 hc, Nat.one_mul]
/-- the class's test of a bit -/
theorem and_two {s c : Nat} : s &&& 2 ^ c = 0 ↔ s.testBit c = false := by
  constructor
  · intro h
    have := congrArg (fun x => x.testBit c) h
    simp only [Nat.testBit_and, Nat.testBit_two_pow_self, Bool.and_true, Nat.zero_testBit] at this
    exact this
  · intro h
    apply Nat.eq_of_testBit_eq
    intro i
    rw [Nat.testBit_and, Nat.testBit_two_pow, Nat.zero_testBit]
    by_cases e : c = i
    · subst e; rw [h]; rfl
    · simp [e]
theorem bit_and {s c : Nat} (hs : s < 2 ^ 31) (hc : c < 31) : (nI s &&& (nI 1 <<< (nI c &&& 31)) = 0) = (s.testBit c = false) := by
  rw [nI_bit (by omega), nI_and, nI_eq0 (Nat.lt_of_le_of_lt Nat.and_le_left hs)]
  exact propext and_two
/-- the model's -/
theorem bit_has {s c : Nat} (hs : s < 2 ^ 31) (hc : c < 31) : ((nI s >>> (nI c &&& 31)) &&& nI 1 = nI 1) = (s.testBit c = true) := by
  rw [nI_shr hs (by omega), nI_and1, nI_eq2 (by omega) (by decide), Nat.testBit_eq_decide_div_mod_eq, Nat.shiftRight_eq_div_pow]
  exact propext ⟨fun q => decide_eq_true q, fun q => of_decide_eq_true q⟩
theorem or_lt {a b k : Nat} (ha : a < 2 ^ k) (hb : b < 2 ^ k) : a ||| b < 2 ^ k := Nat.or_lt_two_pow ha hb
theorem p25 {c : Nat} (hc : c < 25) : 2 ^ c < 2 ^ 25 := Nat.pow_lt_pow_right (by decide) hc
