/-! draw -/
def sp_lk (k : Nat) : Nat := (k * 1103515245 + 12345) % 2147483648
theorem lk_lt (k : Nat) : sp_lk k < 2147483648 := Nat.mod_lt _ (by decide)
theorem lk_val {k : Nat} (hk : k < 2147483648) : ((nI k).toInt64 * 1103515245 + 12345).toBitVec.toNat = k * 1103515245 + 12345 := by
  have h1 : (nI k).toInt64.toBitVec = BitVec.ofNat 64 k := by
    apply BitVec.eq_of_toInt_eq
    show (nI k).toInt64.toInt = _
    rw [l_of, nn_toInt hk, BitVec.toInt_eq_toNat_cond, BitVec.toNat_ofNat, Nat.mod_eq_of_lt (by omega), if_pos (by omega)]
  rw [Int64.toBitVec_add, Int64.toBitVec_mul, h1, BitVec.toNat_add, BitVec.toNat_mul, BitVec.toNat_ofNat]
  show (k % 18446744073709551616 * 1103515245 % 18446744073709551616 + 12345) % 18446744073709551616 = _
  omega
theorem lk_and {k : Nat} (hk : k < 2147483648) : Int64.toInt32 (((nI k).toInt64 * 1103515245 + 12345) &&& 2147483647) = nI (sp_lk k) := by
  have e : (2147483647 : Int64).toBitVec.toNat = 2 ^ 31 - 1 := by decide
  have e2 : (2 : Nat) ^ 31 = 2147483648 := by decide
  have hl := lk_lt k
  have hn : (((nI k).toInt64 * 1103515245 + 12345) &&& 2147483647).toBitVec.toNat = sp_lk k := by
    rw [Int64.toBitVec_and, BitVec.toNat_and, lk_val hk, e, Nat.and_two_pow_sub_one_eq_mod, e2, sp_lk]
  have hi : (((nI k).toInt64 * 1103515245 + 12345) &&& 2147483647).toInt = (sp_lk k : Int) := by
    generalize ((nI k).toInt64 * 1103515245 + 12345) &&& 2147483647 = x at hn
    show x.toBitVec.toInt = _
    rw [BitVec.toInt_eq_toNat_cond, hn, if_pos (by omega)]
  apply Int32.toInt_inj.mp
  rw [Int64.toInt_toInt32, hi, nn_toInt hl]
  exact Int.bmod_eq_of_le (by omega) (by omega)
theorem lk_rem {k : Nat} (hk : k < 2147483648) : Int64.toInt32 (jo_lrem ((nI k).toInt64 * 1103515245 + 12345) 2147483648) = nI (sp_lk k) := by
  have hv := lk_val hk
  have hi : ((nI k).toInt64 * 1103515245 + 12345).toInt = (k * 1103515245 + 12345 : Nat) := by
    show (((nI k).toInt64 * 1103515245 + 12345).toBitVec).toInt = _
    rw [BitVec.toInt_eq_toNat_cond, hv, if_pos (by omega)]
  generalize hA : k * 1103515245 + 12345 = A at hi
  have hA2 : A < 4611686018427387904 := by omega
  generalize (nI k).toInt64 * 1103515245 + 12345 = a at hi
  have hb : (2147483648 : Int64).toInt = 2147483648 := by decide
  have hlk : sp_lk k = A % 2147483648 := by unfold sp_lk; rw [hA]
  have hd : (a / 2147483648).toInt = ((A / 2147483648 : Nat) : Int) := by
    rw [Int64.toInt_div, hi, hb]
    rw [show ((A : Int).tdiv 2147483648) = ((A / 2147483648 : Nat) : Int) from (Int.ofNat_tdiv A 2147483648).symm]
    exact Int.bmod_eq_of_le (by omega) (by omega)
  apply Int32.toInt_inj.mp
  rw [nn_toInt (lk_lt k), hlk]
  unfold jo_lrem
  rw [Int64.toInt_toInt32, Int64.toInt_sub, Int64.toInt_mul, hd, hi, hb]
  rw [Int.bmod_eq_of_le (n := ((A / 2147483648 : Nat) : Int) * 2147483648) (by omega) (by omega), Int.bmod_eq_of_le (m := 2 ^ 64) (by omega) (by omega), Int.bmod_eq_of_le (by omega) (by omega)]
  omega
