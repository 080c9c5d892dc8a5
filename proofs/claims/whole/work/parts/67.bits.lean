/-! ===== sets of bits ===== -/
theorem i32_nat (U : Nat) : Int32.ofInt (U : Int) = Int32.ofNat U := by
  rfl
theorem or32 {U V : Nat} (hU : U < 2147483648) (hV : V < 2147483648) : (Int32.ofInt (U : Int)) ||| (Int32.ofInt (V : Int)) = Int32.ofInt ((U ||| V : Nat) : Int) := by
  have h : U ||| V < 2 ^ 31 := Nat.or_lt_two_pow (by omega) (by omega)
  apply Int32.toBitVec_inj.mp
  apply BitVec.eq_of_toNat_eq
  rw [Int32.toBitVec_or, BitVec.toNat_or]
  have e : ∀ n : Nat, n < 2147483648 → (Int32.ofInt (n : Int)).toBitVec.toNat = n := fun n hn => by
    show (BitVec.ofInt 32 (n : Int)).toNat = n
    rw [BitVec.ofInt_natCast, BitVec.toNat_ofNat]
    omega
  rw [e U hU, e V hV, e _ (by omega)]
theorem and1 {V : Nat} (hV : V < 2147483648) : (Int32.ofInt (V : Int)) &&& (Int32.ofInt 1) = Int32.ofInt ((V % 2 : Nat) : Int) := by
  apply Int32.toBitVec_inj.mp
  apply BitVec.eq_of_toNat_eq
  rw [Int32.toBitVec_and, BitVec.toNat_and]
  have e : ∀ n : Nat, n < 2147483648 → (Int32.ofInt (n : Int)).toBitVec.toNat = n := fun n hn => by
    show (BitVec.ofInt 32 (n : Int)).toNat = n
    rw [BitVec.ofInt_natCast, BitVec.toNat_ofNat]
    omega
  rw [e V hV, e _ (by omega), show (Int32.ofInt 1).toBitVec.toNat = 1 from by decide, Nat.and_one_is_mod]
theorem shl1 {k : Nat} (h : k < 20) : (Int32.ofInt 1) <<< ((Int32.ofInt (k : Int)) &&& 31) = Int32.ofInt ((2 ^ k : Nat) : Int) := by
  have : ∀ k : Fin 20, (Int32.ofInt 1) <<< ((Int32.ofInt ((k : Nat) : Int)) &&& 31) = Int32.ofInt ((2 ^ (k : Nat) : Nat) : Int) := by decide +kernel
  exact this ⟨k, h⟩
theorem shl1b {k : Nat} (h : k ≤ 20) : (Int32.ofInt 1) <<< ((Int32.ofInt (k : Int)) &&& 31) = Int32.ofInt ((2 ^ k : Nat) : Int) := by
  have : ∀ k : Fin 21, (Int32.ofInt 1) <<< ((Int32.ofInt ((k : Nat) : Int)) &&& 31) = Int32.ofInt ((2 ^ (k : Nat) : Nat) : Int) := by decide +kernel
  exact this ⟨k, by omega⟩
theorem shrN {U k : Nat} (hU : U < 2147483648) (h : k < 20) : (Int32.ofInt (U : Int)) >>> ((Int32.ofInt (k : Int)) &&& 31) = Int32.ofInt ((U / 2 ^ k : Nat) : Int) := by
  have hm : ∀ k : Fin 20, ((Int32.ofInt ((k : Nat) : Int)) &&& 31).toBitVec.smod 32 = BitVec.ofNat 32 k := by decide +kernel
  have hm := hm ⟨k, h⟩
  have hle : U / 2 ^ k ≤ U := Nat.div_le_self _ _
  have hk : (BitVec.ofNat 32 k).toNat = k := by rw [BitVec.toNat_ofNat]; omega
  apply Int32.toBitVec_inj.mp
  apply BitVec.eq_of_toInt_eq
  rw [Int32.toBitVec_shiftRight, hm, BitVec.sshiftRight_eq', BitVec.toInt_sshiftRight, hk]
  have e : ∀ n : Nat, n < 2147483648 → (Int32.ofInt (n : Int)).toBitVec.toInt = n := fun n hn => Int32.toInt_ofInt_of_le (by omega) (by omega)
  rw [e U hU, e _ (by omega), Int.shiftRight_eq_div_pow]
  rfl
theorem tb_div (U k : Nat) : U.testBit k = true ↔ U / 2 ^ k % 2 = 1 := by
  rw [Nat.testBit_eq_decide_div_mod_eq]
  exact decide_eq_true_iff
