theorem o32_nat {m : Nat} (h : m < 2147483648) : (Int32.ofInt (m : Int)).toBitVec.toNat = m := by
  have e : Int32.ofInt (m : Int) = nI m := Int32.ofInt_eq_ofNat
  rw [e]
  exact pk_tn (by omega)
theorem toInt_of_nat {x : Int32} {m : Nat} (h : x.toBitVec.toNat = m) (hm : m < 2147483648) : x.toInt = (m : Int) := by
  show x.toBitVec.toInt = _
  rw [BitVec.toInt_eq_toNat_of_lt (by rw [h]; omega), h]
theorem and_lt {a b n : Nat} (h : a < n) : a &&& b < n := Nat.lt_of_le_of_lt Nat.and_le_left h
theorem sand_nat {a b : Nat} (ha : a < 2147483648) (hb : b < 2147483648) : sand (a : Int) (b : Int) = ((a &&& b : Nat) : Int) := by
  unfold sand
  refine toInt_of_nat ?_ (and_lt ha)
  show (_ &&& _ : BitVec 32).toNat = _
  rw [BitVec.toNat_and, o32_nat ha, o32_nat hb]
theorem sor_nat {a b : Nat} (ha : a < 2147483648) (hb : b < 2147483648) : sor (a : Int) (b : Int) = ((a ||| b : Nat) : Int) := by
  unfold sor
  refine toInt_of_nat ?_ (Nat.or_lt_two_pow (n := 31) ha hb)
  show (_ ||| _ : BitVec 32).toNat = _
  rw [BitVec.toNat_or, o32_nat ha, o32_nat hb]
theorem shAmt : ∀ r : Nat, r < 32 → ((Int32.ofInt (r : Int) &&& 31).toBitVec.smod 32).toNat = r := by decide +kernel
theorem sshr_nat {m r : Nat} (hm : m < 2147483648) (hr : r < 32) : sshr (m : Int) (r : Int) = ((m >>> r : Nat) : Int) := by
  unfold sshr
  rw [pk_shr _ _ r (shAmt r hr), Int32.toInt_ofInt_of_le (by omega) (by omega)]
  rfl
theorem sshl_one : ∀ r : Nat, r < 31 → sshl 1 (r : Int) = ((2 ^ r : Nat) : Int) := by decide +kernel
theorem bit_tst {m r : Nat} (hm : m < 2147483648) (hr : r < 32) : sand (sshr (m : Int) (r : Int)) 1 = if m.testBit r then 1 else 0 := by
  have h2 : m >>> r < 2147483648 := Nat.lt_of_le_of_lt (Nat.shiftRight_le m r) hm
  rw [sshr_nat hm hr, show (1 : Int) = ((1 : Nat) : Int) from rfl, sand_nat h2 (by omega)]
  unfold Nat.testBit
  rw [Nat.and_comm 1]
  rw [Nat.and_one_is_mod]
  have : (m >>> r) % 2 = 0 ∨ (m >>> r) % 2 = 1 := by omega
  rcases this with h | h <;> simp [h]
theorem sand1 {m : Nat} (hm : m < 2147483648) : sand (m : Int) 1 = ((m % 2 : Nat) : Int) := by
  rw [show (1 : Int) = ((1 : Nat) : Int) from rfl, sand_nat hm (by omega), Nat.and_one_is_mod]
theorem snot_nat {a b : Nat} (ha : a < 2147483648) (hb : b < 2147483648) : sand (a : Int) (sxor (b : Int) (-1)) = ((a ^^^ (a &&& b) : Nat) : Int) := by
  unfold sand sxor
  rw [Int32.ofInt_toInt]
  refine toInt_of_nat ?_ (Nat.xor_lt_two_pow (n := 31) ha (and_lt ha))
  show (_ &&& (_ ^^^ _) : BitVec 32).toNat = _
  have e : (Int32.ofInt (-1)).toBitVec = BitVec.allOnes 32 := by decide
  rw [e, BitVec.xor_allOnes]
  have e2 : (Int32.ofInt (a : Int)).toBitVec &&& ~~~(Int32.ofInt (b : Int)).toBitVec = (Int32.ofInt (a : Int)).toBitVec ^^^ ((Int32.ofInt (a : Int)).toBitVec &&& (Int32.ofInt (b : Int)).toBitVec) := by
    generalize (Int32.ofInt (a : Int)).toBitVec = x
    generalize (Int32.ofInt (b : Int)).toBitVec = y
    ext i hi
    rw [BitVec.getElem_and, BitVec.getElem_not, BitVec.getElem_xor, BitVec.getElem_and]
    cases x[i] <;> cases y[i] <;> rfl
  rw [e2, BitVec.toNat_xor, BitVec.toNat_and, o32_nat ha, o32_nat hb]
theorem or_bit {m r i : Nat} : (m ||| 2 ^ r).testBit i = (m.testBit i || decide (r = i)) := by
  rw [Nat.testBit_or, Nat.testBit_two_pow]
theorem dif_bit {a b i : Nat} : (a ^^^ (a &&& b)).testBit i = (a.testBit i && !b.testBit i) := by
  rw [Nat.testBit_xor, Nat.testBit_and]
  cases a.testBit i <;> cases b.testBit i <;> rfl
theorem or_lt {m r n : Nat} (hm : m < 2 ^ n) (hr : r < n) : m ||| 2 ^ r < 2 ^ n := Nat.or_lt_two_pow hm (Nat.pow_lt_pow_right (by omega) hr)
