/-! ===== sets of floors as numbers ===== -/
theorem ofI (n : Nat) : Int32.ofInt (n : Int) = Int32.ofNat n := by simp [Int32.ofInt_eq_ofNat]
theorem toI {n : Nat} (h : n < 2147483648) : (Int32.ofNat n).toInt = (n : Int) := nI_toInt (by simpa using h)
theorem bx_and (a b : Nat) : Int32.ofNat a &&& Int32.ofNat b = Int32.ofNat (a &&& b) := by
  apply Int32.toBitVec_inj.1
  show BitVec.ofNat 32 a &&& BitVec.ofNat 32 b = BitVec.ofNat 32 (a &&& b)
  apply BitVec.eq_of_getLsbD_eq
  intro i hi
  simp [hi]
theorem bx_or (a b : Nat) : Int32.ofNat a ||| Int32.ofNat b = Int32.ofNat (a ||| b) := by
  apply Int32.toBitVec_inj.1
  show BitVec.ofNat 32 a ||| BitVec.ofNat 32 b = BitVec.ofNat 32 (a ||| b)
  apply BitVec.eq_of_getLsbD_eq
  intro i hi
  simp [hi]
theorem bx_xor (a b : Nat) : Int32.ofNat a ^^^ Int32.ofNat b = Int32.ofNat (a ^^^ b) := by
  apply Int32.toBitVec_inj.1
  show BitVec.ofNat 32 a ^^^ BitVec.ofNat 32 b = BitVec.ofNat 32 (a ^^^ b)
  apply BitVec.eq_of_getLsbD_eq
  intro i hi
  simp [hi]
theorem and_lt {a b n : Nat} (h : a < n) : a &&& b < n := Nat.lt_of_le_of_lt Nat.and_le_left h
theorem iand_n {a b : Nat} (ha : a < 2147483648) : o_iand a b = ((a &&& b : Nat) : Int) := by
  unfold o_iand
  rw [ofI, ofI, bx_and, toI (and_lt ha)]
theorem ior_n {a b k : Nat} (ha : a < 2 ^ k) (hb : b < 2 ^ k) (hk : k ≤ 31) : o_ior a b = ((a ||| b : Nat) : Int) := by
  unfold o_ior
  have h1 := Nat.or_lt_two_pow ha hb
  have h2 : (2 : Nat) ^ k ≤ 2 ^ 31 := Nat.pow_le_pow_right (by decide) hk
  rw [ofI, ofI, bx_or, toI (by have : (2 : Nat) ^ 31 = 2147483648 := by decide
                               omega)]
theorem ixor_n {a b k : Nat} (ha : a < 2 ^ k) (hb : b < 2 ^ k) (hk : k ≤ 31) : o_ixor a b = ((a ^^^ b : Nat) : Int) := by
  unfold o_ixor
  have h1 := Nat.xor_lt_two_pow ha hb
  have h2 : (2 : Nat) ^ k ≤ 2 ^ 31 := Nat.pow_le_pow_right (by decide) hk
  rw [ofI, ofI, bx_xor, toI (by have : (2 : Nat) ^ 31 = 2147483648 := by decide
                                omega)]
/-- a without b -/
def dif (a b : Nat) : Nat := a ^^^ (a &&& b)
theorem dif_bit (a b i : Nat) : (dif a b).testBit i = (a.testBit i && !b.testBit i) := by
  unfold dif
  rw [Nat.testBit_xor, Nat.testBit_and]
  cases a.testBit i <;> cases b.testBit i <;> rfl
theorem dif_le (a b : Nat) : dif a b ≤ a := by
  have h : dif a b = dif a b &&& a := by
    apply Nat.eq_of_testBit_eq
    intro i
    rw [Nat.testBit_and, dif_bit]
    cases a.testBit i <;> simp
  rw [h]
  exact Nat.and_le_right
theorem iandn_n {a b : Nat} (ha : a < 2147483648) : o_iand a (o_ixor b (-1)) = ((dif a b : Nat) : Int) := by
  unfold o_iand o_ixor
  rw [Int32.ofInt_toInt, ofI, ofI]
  have e : Int32.ofNat a &&& (Int32.ofNat b ^^^ Int32.ofInt (-1)) = Int32.ofNat (dif a b) := by
    apply Int32.toBitVec_inj.1
    show BitVec.ofNat 32 a &&& (BitVec.ofNat 32 b ^^^ BitVec.ofInt 32 (-1)) = BitVec.ofNat 32 (dif a b)
    apply BitVec.eq_of_getLsbD_eq
    intro i hi
    have h1 : (BitVec.ofInt 32 (-1)).getLsbD i = true := (by decide +kernel : ∀ i, i < 32 → (BitVec.ofInt 32 (-1)).getLsbD i = true) i hi
    rw [BitVec.getLsbD_and, BitVec.getLsbD_xor, h1, BitVec.getLsbD_ofNat, BitVec.getLsbD_ofNat, BitVec.getLsbD_ofNat, dif_bit]
    simp [hi]
  rw [e, toI (by have := dif_le a b; omega)]
theorem ishl_1 : ∀ k : Nat, k < 31 → o_ishl 1 k = ((2 ^ k : Nat) : Int) := by decide +kernel
theorem two_lt {f n : Nat} (h : f < n) : 2 ^ f < 2 ^ n := Nat.pow_lt_pow_right (by decide) h
theorem by64 {P : Nat → Prop} (h : ∀ a, a < 64 → ∀ b, b < 64 → P (64 * a + b)) : ∀ s, s < 4096 → P s := by
  intro s hs
  have := h (s / 64) (by omega) (s % 64) (by omega)
  rw [Nat.div_add_mod] at this
  exact this
theorem isin_n : ∀ s : Nat, s < 4096 → ∀ k : Nat, k < 12 → o_land (o_lshr s k) 1 = if s.testBit k then 1 else 0 := by64 (P := fun s => ∀ k : Nat, k < 12 → o_land (o_lshr s k) 1 = if s.testBit k then 1 else 0) (by decide +kernel)
theorem ishr_n : ∀ s : Nat, s < 4096 → ∀ k : Nat, k < 12 → o_iand (o_ishr s k) 1 = if s.testBit k then 1 else 0 := by64 (P := fun s => ∀ k : Nat, k < 12 → o_iand (o_ishr s k) 1 = if s.testBit k then 1 else 0) (by decide +kernel)
/-- how many of the first n floors are in s -/
def popN (s : Nat) : Nat → Nat
  | 0 => 0
  | n + 1 => popN s n + (if s.testBit n then 1 else 0)
def pop (s : Nat) : Nat := popN s 12
theorem popN_le (s n : Nat) : popN s n ≤ n := by
  induction n with
  | zero => exact Nat.le_refl 0
  | succ n ih =>
    unfold popN
    split <;> omega
theorem pop_le (s : Nat) : pop s ≤ 12 := popN_le s 12
/-- the formula of bitCount -/
def bitC (x : Int) : Int :=
  let a := w32 (x - o_iand (o_iushr x 1) 1431655765)
  let b := w32 (o_iand a 858993459 + o_iand (o_iushr a 2) 858993459)
  let c := o_iand (w32 (b + o_iushr b 4)) 252645135
  let d := w32 (c + o_iushr c 8)
  let e := w32 (d + o_iushr d 16)
  o_iand e 63
theorem bitC_n : ∀ s : Nat, s < 4096 → bitC s = (pop s : Int) := by64 (P := fun s => bitC s = (pop s : Int)) (by decide +kernel)
