/-! THE A-MACHINE: a pure interpreter of the claim's bytecode over numbered objects. The machine's own walk follows it (soundness, a later part); all else is said of it. -/
abbrev am_I : Type := Nat → Nat → Nat → Int32
abbrev am_R : Type := Nat → Nat → Nat → Option Nat
abbrev am_Q : Type := Nat → Nat → Nat → Int64
abbrev am_X : Type := Option Value × am_I × am_R × am_Q
abbrev am_N : Type := Nat × List Value × List Value × am_I × am_R × am_Q
abbrev am_O : Type := am_N ⊕ (Option Value ⊕ (Nat × List Value × List Value))
/-- an address: its kind (0 .. 12 objects by class, 13 .. arrays by owner and field, 100 .. what is there from the start), its number -/
def am_mk (a b : Nat) : Nat := a + 128 * b
theorem am_mk_kd {a b : Nat} (h : a < 128) : am_mk a b % 128 = a := by unfold am_mk; omega
theorem am_mk_in {a b : Nat} (h : a < 128) : am_mk a b / 128 = b := by unfold am_mk; omega
def am_sI (I : am_I) (a b : Nat) (f : Nat → Int32) : am_I := fun x y => if x = a ∧ y = b then f else I x y
def am_sR (R : am_R) (a b : Nat) (f : Nat → Option Nat) : am_R := fun x y => if x = a ∧ y = b then f else R x y
def am_sQ (Q : am_Q) (a b : Nat) (f : Nat → Int64) : am_Q := fun x y => if x = a ∧ y = b then f else Q x y
def am_uI (f : Nat → Int32) (k : Nat) (x : Int32) : Nat → Int32 := fun j => if j = k then x else f j
def am_uR (f : Nat → Option Nat) (k : Nat) (x : Option Nat) : Nat → Option Nat := fun j => if j = k then x else f j
def am_uQ (f : Nat → Int64) (k : Nat) (x : Int64) : Nat → Int64 := fun j => if j = k then x else f j
def am_J : Value := .float 0
def am_b01 (x : Int32) : Prop := vp_nar .boolean x = x
/-- the length of an array: the script's (kind 120) stands in kind 121 -/
def am_ll (I : am_I) (kd : Nat) : Nat := if kd = 120 then (I 121 0 0).toNatClampNeg else am_len kd
/-- is a value of a type (0 int, 1 reference, 2 long)? -/
def am_okT (t : Nat) (v : Value) : Bool := match v with
  | .int _ => t == 0
  | .ref _ => t == 1
  | .long _ => t == 2
  | _ => false
def am_okA : List Nat → List Value → Bool
  | [], [] => true
  | t :: ts, v :: vs => am_okT t v && am_okA ts vs
  | _, _ => false
/-- a method's first locals -/
def am_pl : List Value → List Value
  | [] => []
  | .long x :: vs => .long x :: am_J :: am_pl vs
  | v :: vs => v :: am_pl vs
def am_lo (M : Nat) (args : List Value) : List Value := am_pl args ++ List.replicate (am_ml M - (am_pl args).length) am_J
abbrev am_nx (pc : Nat) (ls st : List Value) (I : am_I) (R : am_R) (Q : am_Q) : Option am_O := some (.inl (pc, ls, st, I, R, Q))
def am_tg (pc : Nat) (off : Int) : Nat := ((pc : Int) + off).toNat
def am_go (pc : Nat) (off : Int) (ls st : List Value) (I : am_I) (R : am_R) (Q : am_Q) : Option am_O := if 0 ≤ (pc : Int) + off then am_nx (am_tg pc off) ls st I R Q else none
def am_ldi (k pc : Nat) (ls st : List Value) (I : am_I) (R : am_R) (Q : am_Q) : Option am_O := match ls[k]? with
  | some (.int x) => am_nx pc ls (.int x :: st) I R Q
  | _ => none
def am_lda (k pc : Nat) (ls st : List Value) (I : am_I) (R : am_R) (Q : am_Q) : Option am_O := match ls[k]? with
  | some (.ref x) => am_nx pc ls (.ref x :: st) I R Q
  | some .null => am_nx pc ls (.null :: st) I R Q
  | _ => none
def am_ldl (k pc : Nat) (ls st : List Value) (I : am_I) (R : am_R) (Q : am_Q) : Option am_O := match ls[k]? with
  | some (.long x) => am_nx pc ls (.long x :: st) I R Q
  | _ => none
/-- is a value a long? -/
def am_isL (v : Option Value) : Bool := match v with
  | some (.long _) => true
  | _ => false
/-- may a value of one slot go to place k? (with longs about: no long ends there) -/
def am_may (z : Nat) (k : Nat) (ls : List Value) : Bool := (z == 0 || k == 0 || !am_isL ls[k - 1]?) && decide (k < ls.length)
def am_set1 (ls : List Value) (k : Nat) (v : Value) : List Value := ls.set k v
def am_sti (z k pc : Nat) (ls st : List Value) (I : am_I) (R : am_R) (Q : am_Q) : Option am_O := match st with
  | .int x :: st => if am_may z k ls = true then am_nx pc (ls.set k (.int x)) st I R Q else none
  | _ => none
def am_sta (z k pc : Nat) (ls st : List Value) (I : am_I) (R : am_R) (Q : am_Q) : Option am_O := match st with
  | .ref x :: st => if am_may z k ls = true then am_nx pc (ls.set k (.ref x)) st I R Q else none
  | .null :: st => if am_may z k ls = true then am_nx pc (ls.set k .null) st I R Q else none
  | _ => none
def am_stl (z k pc : Nat) (ls st : List Value) (I : am_I) (R : am_R) (Q : am_Q) : Option am_O := match st with
  | .long x :: st => if am_may z k ls = true ∧ k + 1 < ls.length ∧ z = 1 then am_nx pc ((ls.set k (.long x)).set (k + 1) am_J) st I R Q else none
  | _ => none
def am_inc (z k : Nat) (n : Int) (pc : Nat) (ls st : List Value) (I : am_I) (R : am_R) (Q : am_Q) : Option am_O := match ls[k]? with
  | some (.int x) => if am_may z k ls = true then am_nx pc (ls.set k (.int (x + Int32.ofInt n))) st I R Q else none
  | _ => none
def am_bin (f : Int32 → Int32 → Int32) (pc : Nat) (ls st : List Value) (I : am_I) (R : am_R) (Q : am_Q) : Option am_O := match st with
  | .int y :: .int x :: st => am_nx pc ls (.int (f x y) :: st) I R Q
  | _ => none
def am_binD (f : Int32 → Int32 → Int32) (pc : Nat) (ls st : List Value) (I : am_I) (R : am_R) (Q : am_Q) : Option am_O := match st with
  | .int y :: .int x :: st => if ¬ y = 0 then am_nx pc ls (.int (f x y) :: st) I R Q else none
  | _ => none
def am_lbin (f : Int64 → Int64 → Int64) (pc : Nat) (ls st : List Value) (I : am_I) (R : am_R) (Q : am_Q) : Option am_O := match st with
  | .long y :: .long x :: st => am_nx pc ls (.long (f x y) :: st) I R Q
  | _ => none
def am_lbinD (f : Int64 → Int64 → Int64) (pc : Nat) (ls st : List Value) (I : am_I) (R : am_R) (Q : am_Q) : Option am_O := match st with
  | .long y :: .long x :: st => if ¬ y = 0 then am_nx pc ls (.long (f x y) :: st) I R Q else none
  | _ => none
def am_un (f : Int32 → Value) (pc : Nat) (ls st : List Value) (I : am_I) (R : am_R) (Q : am_Q) : Option am_O := match st with
  | .int x :: st => am_nx pc ls (f x :: st) I R Q
  | _ => none
def am_cond (c : ClassFile.Cond) (x y : Int32) : Prop := match c with
  | .eq => x = y
  | .ne => ¬ x = y
  | .lt => x < y
  | .ge => y ≤ x
  | .gt => y < x
  | .le => x ≤ y
def am_if2 (c : ClassFile.Cond) (off : Int) (pc : Nat) (ls st : List Value) (I : am_I) (R : am_R) (Q : am_Q) : Option am_O := match st with
  | .int y :: .int x :: st => match c with
    | .eq => if x = y then am_go pc off ls st I R Q else am_nx (pc + 3) ls st I R Q
    | .ne => if x = y then am_nx (pc + 3) ls st I R Q else am_go pc off ls st I R Q
    | .lt => if x < y then am_go pc off ls st I R Q else am_nx (pc + 3) ls st I R Q
    | .ge => if y ≤ x then am_go pc off ls st I R Q else am_nx (pc + 3) ls st I R Q
    | .gt => if y < x then am_go pc off ls st I R Q else am_nx (pc + 3) ls st I R Q
    | .le => if x ≤ y then am_go pc off ls st I R Q else am_nx (pc + 3) ls st I R Q
  | _ => none
def am_if1 (c : ClassFile.Cond) (off : Int) (pc : Nat) (ls st : List Value) (I : am_I) (R : am_R) (Q : am_Q) : Option am_O := match st with
  | .int x :: st => am_if2 c off pc ls (.int 0 :: .int x :: st) I R Q
  | _ => none
def am_tsw (pc : Nat) (dflt lo hi : Int) (offs : Array Int) (x : Int32) : Option Nat :=
  if x.toInt < lo ∨ hi < x.toInt then (if 0 ≤ (pc : Int) + dflt then some (am_tg pc dflt) else none) else match offs[(x.toInt - lo).toNat]? with
    | some off => if 0 ≤ (pc : Int) + off then some (am_tg pc off) else none
    | none => none
def am_lsw (pc : Nat) (dflt : Int) (ps : Array (Int × Int)) (x : Int32) : Option Nat :=
  if 0 ≤ (pc : Int) + Op.lookupswitch.offset ps.toList dflt x.toInt then some (am_tg pc (Op.lookupswitch.offset ps.toList dflt x.toInt)) else none
def am_sw (f : Int32 → Option Nat) (ls st : List Value) (I : am_I) (R : am_R) (Q : am_Q) : Option am_O := match st with
  | .int x :: st => match f x with
    | some pc => am_nx pc ls st I R Q
    | none => none
  | _ => none
def am_getf (z : Nat × Nat × Int) (pc : Nat) (ls st : List Value) (I : am_I) (R : am_R) (Q : am_Q) : Option am_O := match st with
  | .ref a :: st => if a % 128 = z.1 ∧ z.1 < 13 then
      (if z.2.2 = 1 then am_nx pc ls (va_rf (R z.1 (a / 128) z.2.1) :: st) I R Q
       else if z.2.2 = 2 then am_nx pc ls (.long (Q z.1 (a / 128) z.2.1) :: st) I R Q
       else am_nx pc ls (.int (I z.1 (a / 128) z.2.1) :: st) I R Q) else none
  | _ => none
def am_putf (z : Nat × Nat × Int) (pc : Nat) (ls st : List Value) (I : am_I) (R : am_R) (Q : am_Q) : Option am_O := match st with
  | v :: .ref a :: st => if a % 128 = z.1 ∧ z.1 < 13 then
      (match v with
       | .int x => if z.2.2 = 0 ∨ (z.2.2 = 3 ∧ vp_nar .boolean x = x) then am_nx pc ls st (am_sI I z.1 (a / 128) (am_uI (I z.1 (a / 128)) z.2.1 x)) R Q else none
       | .ref b => if z.2.2 = 1 then am_nx pc ls st I (am_sR R z.1 (a / 128) (am_uR (R z.1 (a / 128)) z.2.1 (some b))) Q else none
       | .null => if z.2.2 = 1 then am_nx pc ls st I (am_sR R z.1 (a / 128) (am_uR (R z.1 (a / 128)) z.2.1 none)) Q else none
       | .long x => if z.2.2 = 2 then am_nx pc ls st I R (am_sQ Q z.1 (a / 128) (am_uQ (Q z.1 (a / 128)) z.2.1 x)) else none
       | _ => none) else none
  | _ => none
def am_ald (t : Nat) (pc : Nat) (ls st : List Value) (I : am_I) (R : am_R) (Q : am_Q) : Option am_O := match st with
  | .int i :: .ref a :: st => if am_at (a % 128) = t ∧ (0 ≤ i ∧ i.toNatClampNeg < am_ll I (a % 128)) then
      (if t = 2 then am_nx pc ls (.long (Q (a % 128) (a / 128) i.toNatClampNeg) :: st) I R Q else am_nx pc ls (.int (I (a % 128) (a / 128) i.toNatClampNeg) :: st) I R Q) else none
  | _ => none
def am_aald (pc : Nat) (ls st : List Value) (I : am_I) (R : am_R) (Q : am_Q) : Option am_O := match st with
  | .int i :: .ref a :: st => if (am_at (a % 128) = 3 ∨ am_at (a % 128) = 4) ∧ (0 ≤ i ∧ i.toNatClampNeg < am_ll I (a % 128)) then am_nx pc ls (va_rf (R (a % 128) (a / 128) i.toNatClampNeg) :: st) I R Q else none
  | _ => none
def am_ast (t : Nat) (pc : Nat) (ls st : List Value) (I : am_I) (R : am_R) (Q : am_Q) : Option am_O := match st with
  | .int x :: .int i :: .ref a :: st => if am_at (a % 128) = t ∧ (0 ≤ i ∧ i.toNatClampNeg < am_ll I (a % 128)) ∧ a % 128 < 100 ∧ (t = 0 ∨ vp_nar .boolean x = x) then am_nx pc ls st (am_sI I (a % 128) (a / 128) (am_uI (I (a % 128) (a / 128)) i.toNatClampNeg x)) R Q else none
  | _ => none
def am_aast (pc : Nat) (ls st : List Value) (I : am_I) (R : am_R) (Q : am_Q) : Option am_O := match st with
  | .ref v :: .int i :: .ref a :: st => if ((am_at (a % 128) = 3 ∧ v % 128 = 3) ∨ (am_at (a % 128) = 4 ∧ v % 128 = 9)) ∧ (0 ≤ i ∧ i.toNatClampNeg < am_ll I (a % 128)) ∧ a % 128 < 100 then am_nx pc ls st I (am_sR R (a % 128) (a / 128) (am_uR (R (a % 128) (a / 128)) i.toNatClampNeg (some v))) Q else none
  | _ => none
def am_alen (pc : Nat) (ls st : List Value) (I : am_I) (R : am_R) (Q : am_Q) : Option am_O := match st with
  | .ref a :: st => if am_at (a % 128) < 9 then am_nx pc ls (.int (Int32.ofNat (am_ll I (a % 128))) :: st) I R Q else none
  | _ => none
/-- what is new holds zeros and nothing -/
abbrev am_new0 (n : Nat) (a : Nat) (I : am_I) (R : am_R) (Q : am_Q) : Prop := ∀ j : Nat, j < n → I (a % 128) (a / 128) j = 0 ∧ R (a % 128) (a / 128) j = none ∧ Q (a % 128) (a / 128) j = 0
def am_mkO (ci : Nat) (pc : Nat) (ls st : List Value) (I : am_I) (R : am_R) (Q : am_Q) : Option am_O := match R 127 0 0 with
  | some n => if n < 365 ∧ am_ord n % 128 = ci ∧ ci < 13 ∧ am_new0 (am_nf.getD ci 0) (am_ord n) I R Q then am_nx pc ls (.ref (am_ord n) :: st) I (am_sR R 127 0 (fun _ => some (n + 1))) Q else none
  | none => none
def am_mkA (t : Nat) (pc : Nat) (ls st : List Value) (I : am_I) (R : am_R) (Q : am_Q) : Option am_O := match st, R 127 0 0 with
  | .int x :: st, some n => if n < 365 ∧ am_at (am_ord n % 128) = t ∧ x = Int32.ofNat (am_len (am_ord n % 128)) ∧ am_new0 (am_len (am_ord n % 128)) (am_ord n) I R Q then am_nx pc ls (.ref (am_ord n) :: st) I (am_sR R 127 0 (fun _ => some (n + 1))) Q else none
  | _, _ => none
/-- what has a row of its own -/
def am_intr (k : Nat) (pc : Nat) (ls st : List Value) (I : am_I) (R : am_R) (Q : am_Q) : Option am_O :=
  if k = 1005 then match st with
    | .int n :: .int dp :: .ref b :: .int sp :: .ref a :: [] =>
      if am_at (a % 128) = 0 ∧ am_at (b % 128) = 0 ∧ b % 128 < 100 ∧ a % 128 < 100 ∧ 0 ≤ sp ∧ 0 ≤ dp ∧ 0 ≤ n ∧ sp.toNatClampNeg + n.toNatClampNeg ≤ am_len (a % 128) ∧ dp.toNatClampNeg + n.toNatClampNeg ≤ am_len (b % 128) ∧ ¬ a = b then
        am_nx (pc + 3) ls [] (am_sI I (b % 128) (b / 128) (va_cpy (I (a % 128) (a / 128)) (I (b % 128) (b / 128)) sp.toNatClampNeg dp.toNatClampNeg n.toNatClampNeg)) R Q else none
    | _ => none
  else if k = 1006 then match st with
    | .ref _ :: [] => am_nx (pc + 3) ls [] I R Q
    | _ => none
  else if k = 1002 then match st with
    | .int x :: st => if st.length ≤ 4 then am_nx (pc + 3) ls (.int (if 0 ≤ x then x else 0 - x) :: st) I R Q else none
    | _ => none
  else if k = 1000 then match st with
    | .int y :: .int x :: st => if st.length ≤ 4 then am_nx (pc + 3) ls (.int (if x < y then y else x) :: st) I R Q else none
    | _ => none
  else if k = 1001 then match st with
    | .int y :: .int x :: st => if st.length ≤ 4 then am_nx (pc + 3) ls (.int (if y < x then y else x) :: st) I R Q else none
    | _ => none
  else if k = 1003 then match st with
    | .long y :: .long x :: st => if st.length ≤ 4 then am_nx (pc + 3) ls (.long (if y < x then x else y) :: st) I R Q else none
    | _ => none
  else if k = 1004 then match st with
    | .long y :: .long x :: st => if st.length ≤ 4 then am_nx (pc + 3) ls (.long (if y < x then y else x) :: st) I R Q else none
    | _ => none
  else none
/-- the signature of what is called: the machine's methods, those of String, the law's helper -/
def am_sgE (M : Nat) : List Nat := if M < 900 then am_sg M else if M = 900 then [1, 0] else if M = 901 then [1, 0] else if M = 902 then [1] else if M = 950 then [1, 0, 0, 1] else []
/-- the class of the one who is called -/
def am_ocE (M : Nat) : Nat := if M < 900 then am_oc M else 100
def am_isR (v : Option Value) (c : Nat) : Bool := match v with
  | some (.ref a) => a % 128 == c
  | _ => false
def am_inv (z : Nat × Nat × Int) (pc : Nat) (ls st : List Value) (I : am_I) (R : am_R) (Q : am_Q) : Option am_O :=
  if 1000 ≤ z.1 then am_intr z.1 pc ls st I R Q else
    if am_okA (am_sgE z.1) (st.take (am_sgE z.1).length).reverse = true ∧ (st.drop (am_sgE z.1).length).length ≤ 4 ∧ (z.2.1 = 1 ∨ am_isR (st.take (am_sgE z.1).length).reverse[0]? (am_ocE z.1) = true) then
      some (.inr (.inr (z.1, (st.take (am_sgE z.1).length).reverse, st.drop (am_sgE z.1).length))) else none
def am_step (i : Instr) (z : Nat × Nat × Int) (pc : Nat) (ls st : List Value) (I : am_I) (R : am_R) (Q : am_Q) : Option am_O :=
  match i with
  | .iconst _ => am_nx (pc + 1) ls (.int (Int32.ofInt z.2.2) :: st) I R Q
  | .bipush _ => am_nx (pc + 2) ls (.int (Int32.ofInt z.2.2) :: st) I R Q
  | .sipush _ => am_nx (pc + 3) ls (.int (Int32.ofInt z.2.2) :: st) I R Q
  | .lconst n => am_nx (pc + 1) ls (.long (Int64.ofNat (n : Nat)) :: st) I R Q
  | .ldc _ => if z.1 = 1 then am_nx (pc + 2) ls (.ref (am_mk 100 z.2.1) :: st) I R Q else am_nx (pc + 2) ls (.int (Int32.ofInt z.2.2) :: st) I R Q
  | .ldc_w _ => if z.1 = 1 then none else am_nx (pc + 3) ls (.int (Int32.ofInt z.2.2) :: st) I R Q
  | .ldc2_w _ => am_nx (pc + 3) ls (.long (Int64.ofInt z.2.2) :: st) I R Q
  | .aconst_null => am_nx (pc + 1) ls (.null :: st) I R Q
  | .iload k => am_ldi k (pc + 2) ls st I R Q
  | .aload k => am_lda k (pc + 2) ls st I R Q
  | .lload k => am_ldl k (pc + 2) ls st I R Q
  | .iload_n k => am_ldi (k : Nat) (pc + 1) ls st I R Q
  | .aload_n k => am_lda (k : Nat) (pc + 1) ls st I R Q
  | .lload_n k => am_ldl (k : Nat) (pc + 1) ls st I R Q
  | .istore k => am_sti z.1 k (pc + 2) ls st I R Q
  | .istore_n k => am_sti z.1 (k : Nat) (pc + 1) ls st I R Q
  | .astore k => am_sta z.1 k (pc + 2) ls st I R Q
  | .astore_n k => am_sta z.1 (k : Nat) (pc + 1) ls st I R Q
  | .lstore k => am_stl z.1 k (pc + 2) ls st I R Q
  | .lstore_n k => am_stl z.1 (k : Nat) (pc + 1) ls st I R Q
  | .iinc k n => am_inc z.1 k n (pc + 3) ls st I R Q
  | .iadd => am_bin (fun x y => x + y) (pc + 1) ls st I R Q
  | .isub => am_bin (fun x y => x - y) (pc + 1) ls st I R Q
  | .imul => am_bin (fun x y => x * y) (pc + 1) ls st I R Q
  | .iand => am_bin (fun x y => x &&& y) (pc + 1) ls st I R Q
  | .ior => am_bin (fun x y => x ||| y) (pc + 1) ls st I R Q
  | .ixor => am_bin (fun x y => x ^^^ y) (pc + 1) ls st I R Q
  | .ishl => am_bin (fun x y => x <<< (y &&& 31)) (pc + 1) ls st I R Q
  | .ishr => am_bin (fun x y => x >>> (y &&& 31)) (pc + 1) ls st I R Q
  | .iushr => am_bin (fun x y => (x.toUInt32 >>> (y.toUInt32 &&& Int32.toUInt32 31)).toInt32) (pc + 1) ls st I R Q
  | .idiv => am_binD (fun x y => x / y) (pc + 1) ls st I R Q
  | .irem => am_binD (fun x y => x - x / y * y) (pc + 1) ls st I R Q
  | .ineg => am_un (fun x => .int (-x)) (pc + 1) ls st I R Q
  | .i2l => am_un (fun x => .long x.toInt64) (pc + 1) ls st I R Q
  | .i2c => am_un (fun x => .int (x.toUInt32 % 65536).toInt32) (pc + 1) ls st I R Q
  | .ladd => am_lbin (fun x y => x + y) (pc + 1) ls st I R Q
  | .lsub => am_lbin (fun x y => x - y) (pc + 1) ls st I R Q
  | .lmul => am_lbin (fun x y => x * y) (pc + 1) ls st I R Q
  | .land => am_lbin (fun x y => x &&& y) (pc + 1) ls st I R Q
  | .lor => am_lbin (fun x y => x ||| y) (pc + 1) ls st I R Q
  | .ldiv => am_lbinD (fun x y => x / y) (pc + 1) ls st I R Q
  | .lrem => am_lbinD (fun x y => x - x / y * y) (pc + 1) ls st I R Q
  | .lshl => match st with
    | .int y :: .long x :: st => am_nx (pc + 1) ls (.long (x <<< (y.toInt64 &&& 63)) :: st) I R Q
    | _ => none
  | .lushr => match st with
    | .int y :: .long x :: st => am_nx (pc + 1) ls (.long (x.toUInt64 >>> (y.toInt64.toUInt64 &&& Int64.toUInt64 63)).toInt64 :: st) I R Q
    | _ => none
  | .l2i => match st with
    | .long x :: st => am_nx (pc + 1) ls (.int x.toInt32 :: st) I R Q
    | _ => none
  | .lcmp => match st with
    | .long y :: .long x :: st => am_nx (pc + 1) ls (.int (lg_cmp x y) :: st) I R Q
    | _ => none
  | .goto off => am_go pc off ls st I R Q
  | .if_icmp c off => am_if2 c off pc ls st I R Q
  | .ifCond c off => am_if1 c off pc ls st I R Q
  | .ifnull off => match st with
    | .null :: st => am_go pc off ls st I R Q
    | .ref _ :: st => am_nx (pc + 3) ls st I R Q
    | _ => none
  | .ifnonnull off => match st with
    | .null :: st => am_nx (pc + 3) ls st I R Q
    | .ref _ :: st => am_go pc off ls st I R Q
    | _ => none
  | .tableswitch d lo hi offs => am_sw (am_tsw pc d lo hi offs) ls st I R Q
  | .lookupswitch d ps => am_sw (am_lsw pc d ps) ls st I R Q
  | .dup => match st with
    | .int x :: st => am_nx (pc + 1) ls (.int x :: .int x :: st) I R Q
    | .ref x :: st => am_nx (pc + 1) ls (.ref x :: .ref x :: st) I R Q
    | .null :: st => am_nx (pc + 1) ls (.null :: .null :: st) I R Q
    | _ => none
  | .dup2 => match st with
    | .int y :: .ref x :: st => am_nx (pc + 1) ls (.int y :: .ref x :: .int y :: .ref x :: st) I R Q
    | _ => none
  | .pop => match st with
    | .int _ :: st => am_nx (pc + 1) ls st I R Q
    | .ref _ :: st => am_nx (pc + 1) ls st I R Q
    | _ => none
  | .getfield _ => am_getf z (pc + 3) ls st I R Q
  | .putfield _ => am_putf z (pc + 3) ls st I R Q
  | .getstatic _ => am_nx (pc + 3) ls (.ref (am_mk z.1 0) :: st) I R Q
  | .arraylength => am_alen (pc + 1) ls st I R Q
  | .iaload => am_ald 0 (pc + 1) ls st I R Q
  | .baload => am_ald 1 (pc + 1) ls st I R Q
  | .laload => am_ald 2 (pc + 1) ls st I R Q
  | .aaload => am_aald (pc + 1) ls st I R Q
  | .iastore => am_ast 0 (pc + 1) ls st I R Q
  | .bastore => am_ast 1 (pc + 1) ls st I R Q
  | .aastore => am_aast (pc + 1) ls st I R Q
  | .new _ => if z.1 = 99 then (if st.isEmpty = true then some (.inr (.inl none)) else none) else am_mkO z.1 (pc + 3) ls st I R Q
  | .newarray _ => am_mkA z.1 (pc + 2) ls st I R Q
  | .anewarray _ => am_mkA z.1 (pc + 3) ls st I R Q
  | .ireturn => match st with
    | .int x :: [] => if z.1 = 0 ∨ vp_nar .boolean x = x then some (.inr (.inl (some (.int x)))) else none
    | _ => none
  | .lreturn => match st with
    | .long x :: [] => some (.inr (.inl (some (.long x))))
    | _ => none
  | .areturn => match st with
    | .ref x :: [] => some (.inr (.inl (some (.ref x))))
    | _ => none
  | .return_ => match st with
    | [] => some (.inr (.inl none))
    | _ => none
  | .invokevirtual _ => am_inv z pc ls st I R Q
  | .invokespecial _ => am_inv z pc ls st I R Q
  | .invokestatic _ => am_inv z pc ls st I R Q
  | _ => none
/-- the place of a byte in a row of bytes, from i on, of n -/
def am_find (f : Nat → Int32) (c : Int32) : Nat → Nat → Int32
  | 0, _ => -1
  | n + 1, i => if f i = c then Int32.ofNat i else am_find f c n (i + 1)
/-- String's own methods on the class's constants (kind 100; their bytes in kind 101) -/
def am_ext (M : Nat) (args : List Value) (I : am_I) : Option Value := match args with
  | .ref a :: .int x :: [] =>
    if M = 900 ∧ a % 128 = 100 ∧ a / 128 < am_strs.length then some (.int (am_find (I 101 (a / 128)) x (am_strs.getD (a / 128) []).length 0))
    else if M = 901 ∧ a % 128 = 100 ∧ a / 128 < am_strs.length ∧ 0 ≤ x ∧ x.toNatClampNeg < (am_strs.getD (a / 128) []).length then some (.int (I 101 (a / 128) x.toNatClampNeg)) else none
  | .ref a :: [] => if M = 902 ∧ a % 128 = 100 ∧ a / 128 < am_strs.length then some (.int (Int32.ofNat (am_strs.getD (a / 128) []).length)) else none
  | _ => none
/-- how often something was thrown: R 126 -/
def am_gx (R : am_R) : Nat := (R 126 0 0).getD 0
/-- a call: of a method of the machine, of String's, of the law's helper, which calls ColdMiddle.spot (none: it throws) -/
def am_cl (f : Nat → List Value → am_I → am_R → am_Q → Option am_X) (M : Nat) (args : List Value) (I : am_I) (R : am_R) (Q : am_Q) : Option am_X :=
  if M < 900 then f M args I R Q
  else if M = 950 then match args with
    | .ref a :: .int x :: .int y :: .ref b :: [] => if b = am_mk 72 0 ∧ a % 128 = 11 then (match f am_spot [.ref a, .int x, .int y] I R Q with
      | some (some (.int v), I', R', Q') => some (some (.int 0), I', R', am_sQ Q' 72 0 (am_uQ (Q' 72 0) 0 v.toInt64))
      | some (none, I', R', Q') => some (some (.int 1), I', am_sR R' 126 0 (fun _ => some (am_gx R' + 1)), Q')
      | _ => none) else none
    | _ => none
  else (am_ext M args I).map fun v => (some v, I, R, Q)
/-- n steps at most, calls d deep at most -/
def am_run : Nat → Nat → Nat → Nat → List Value → List Value → am_I → am_R → am_Q → Option am_X
  | 0, _, _, _, _, _, _, _, _ => none
  | n + 1, d, M, pc, ls, st, I, R, Q => match am_fetch M pc with
    | none => none
    | some (i, _, z) => match am_step i z pc ls st I R Q with
      | none => none
      | some (.inl (pc', ls', st', I', R', Q')) => am_run n d M pc' ls' st' I' R' Q'
      | some (.inr (.inl r)) => some (r, I, R, Q)
      | some (.inr (.inr (M', args, rest))) => match d with
        | 0 => none
        | d + 1 => match am_cl (fun M'' a I R Q => am_run n d M'' 0 (am_lo M'' a) [] I R Q) M' args I R Q with
          | none => none
          | some (r, I', R', Q') => am_run n (d + 1) M (pc + 3) ls (r.toList ++ rest) I' R' Q'
