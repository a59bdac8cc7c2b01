/-! ===== bytes ===== -/
theorem b255 : ∀ i, i < 32 → (255#32).getLsbD i = decide (i < 8) := by decide +kernel
theorem byteA (u : BitVec 32) {s : Nat} (hs : s ≤ 24) : u.sshiftRight s &&& 255#32 = BitVec.setWidth 32 (BitVec.setWidth 8 (u >>> s)) := by
  apply BitVec.eq_of_getLsbD_eq
  intro i hi
  rw [BitVec.getLsbD_and, b255 i hi, BitVec.getLsbD_sshiftRight, BitVec.getLsbD_setWidth, BitVec.getLsbD_setWidth, BitVec.getLsbD_ushiftRight]
  by_cases h : i < 8
  · rw [if_pos (by omega)]
    simp [h, hi]
  · simp [h]
theorem byteN (w : BitVec 8) : (BitVec.setWidth 32 w).toInt = (w.toNat : Int) := by
  have h : w.toNat < 256 := w.isLt
  rw [BitVec.toInt_eq_toNat_cond, BitVec.toNat_setWidth, Nat.mod_eq_of_lt (by omega), if_pos (by omega)]
theorem byteI (w : BitVec 8) : w.toInt = if w.toNat < 128 then (w.toNat : Int) else (w.toNat : Int) - 256 := by
  rw [BitVec.toInt_eq_toNat_cond]
  by_cases h : w.toNat < 128
  · rw [if_pos (by omega), if_pos h]
  · rw [if_neg (by omega), if_neg h]
    rfl
theorem sh4 : ∀ k : Nat, k < 4 → ((Int32.ofInt ((24 - 8 * k : Nat) : Int)) &&& 31 = Int32.ofNat (24 - 8 * k)) ∧ (Int32.ofInt ((24 - 8 * k : Nat) : Int)).toUInt32 &&& Int32.toUInt32 31 = UInt32.ofNat (24 - 8 * k) := by decide +kernel
/-- the byte of v that is written, as a number -/
def byV8 (v : Int) (k : Nat) : BitVec 8 := BitVec.setWidth 8 ((Int32.ofInt v).toBitVec >>> (24 - 8 * k))
theorem sh4b : ∀ k : Nat, k < 4 → ((Int32.ofNat (24 - 8 * k)).toBitVec.smod 32#32) = BitVec.ofNat 32 (24 - 8 * k) ∧ (UInt32.ofNat (24 - 8 * k)).toBitVec % 32#32 = BitVec.ofNat 32 (24 - 8 * k) := by decide +kernel
theorem feA (v : Int) {k : Nat} (hk : k < 4) : o_iand (o_ishr v ((24 - 8 * k : Nat) : Int)) 255 = ((byV8 v k).toNat : Int) := by
  unfold o_iand o_ishr
  rw [Int32.ofInt_toInt, (sh4 k hk).1]
  have e : (Int32.ofInt v >>> Int32.ofNat (24 - 8 * k)).toBitVec = (Int32.ofInt v).toBitVec.sshiftRight (24 - 8 * k) := by
    show BitVec.sshiftRight' (Int32.ofInt v).toBitVec ((Int32.ofNat (24 - 8 * k)).toBitVec.smod 32#32) = _
    rw [(sh4b k hk).1]
    unfold BitVec.sshiftRight'
    rw [BitVec.toNat_ofNat, Nat.mod_eq_of_lt (by omega)]
  show ((Int32.ofInt v >>> Int32.ofNat (24 - 8 * k)).toBitVec &&& 255#32).toInt = _
  rw [e, byteA _ (by omega), byteN]
  rfl
theorem feB (v : Int) {k : Nat} (hk : k < 4) : i8 (o_iushr v ((24 - 8 * k : Nat) : Int)) = (byV8 v k).toInt := by
  unfold i8 o_iushr
  rw [Int32.ofInt_toInt, (sh4 k hk).2, Int8.toInt_toInt32]
  show (BitVec.signExtend 8 ((Int32.ofInt v).toBitVec >>> ((UInt32.ofNat (24 - 8 * k)).toBitVec % 32#32))).toInt = _
  rw [(sh4b k hk).2, BitVec.signExtend_eq_setWidth_of_le _ (by decide)]
  unfold byV8
  congr 2
  show (Int32.ofInt v).toBitVec >>> (BitVec.ofNat 32 (24 - 8 * k)).toNat = _
  rw [BitVec.toNat_ofNat, Nat.mod_eq_of_lt (by omega)]
theorem i8_8 (v : Int) {k : Nat} (hk : k < 4) : i8 (i8 (o_iushr v ((24 - 8 * k : Nat) : Int))) = (byV8 v k).toInt := by
  rw [show i8 (i8 (o_iushr v ((24 - 8 * k : Nat) : Int))) = i8 (o_iushr v ((24 - 8 * k : Nat) : Int)) from ?_, feB v hk]
  unfold i8
  rw [Int32.ofInt_toInt, Int8.toInt8_toInt32]
def sFe (a k : Nat) : Bool := (a == 0 && k == 1) || a == 1
def sFm (a k : Nat) : Bool := (a == 211 && (k == 0 || k == 5)) || a == 214
def argV (a b c e f : Int) (j : Nat) : Int := if j < 4 then a else if j < 8 then b else if j < 12 then c else if j < 16 then e else f
