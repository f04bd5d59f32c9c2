/-! THE NUMBERS that are drawn -/
def rnd (k : Nat) : Nat := (k * 1103515245 + 12345) % 2147483648
theorem rndI (k : Nat) : ((nI k * 1103515245 + 12345) &&& 2147483647 : Int32) = nI (rnd k) := by
  rw [show (1103515245 : Int32) = nI 1103515245 from rfl, show (12345 : Int32) = nI 12345 from rfl, pk_mul, nI_add, pk_and _ 31 (by decide)]
  refine congrArg nI ?_
  unfold rnd
  generalize k * 1103515245 + 12345 = M
  have e : (nI M).toBitVec.toNat = M % 2 ^ 32 := BitVec.toNat_ofNat _ _
  rw [e]
  exact Nat.mod_mod_of_dvd M (by decide)
theorem rndL (k : Nat) : ((lN k * 1103515245 + 12345) &&& 2147483647 : Int64) = lN (rnd k) := by
  rw [show (1103515245 : Int64) = lN 1103515245 from rfl, show (12345 : Int64) = lN 12345 from rfl, lN_mul, lN_add]
  apply Int64.toBitVec_inj.mp
  apply BitVec.eq_of_toNat_eq
  rw [Int64.toBitVec_and, BitVec.toNat_and]
  have e1 : (lN (k * 1103515245 + 12345)).toBitVec.toNat = (k * 1103515245 + 12345) % 2 ^ 64 := BitVec.toNat_ofNat _ _
  have e2 : (2147483647 : Int64).toBitVec.toNat = 2 ^ 31 - 1 := by decide
  have e3 : (lN (rnd k)).toBitVec.toNat = rnd k % 2 ^ 64 := BitVec.toNat_ofNat _ _
  rw [e1, e2, e3, Nat.and_two_pow_sub_one_eq_mod]
  unfold rnd
  generalize k * 1103515245 + 12345 = M
  rw [Nat.mod_mod_of_dvd M (by decide), Nat.mod_eq_of_lt (a := M % 2147483648) (Nat.lt_of_lt_of_le (Nat.mod_lt _ (by omega)) (by decide))]
theorem rnd_lt (k : Nat) : rnd k < 2147483648 := Nat.mod_lt _ (by omega)
/-- the number drawn: the class's number and the reference's go on alike, below 100 -/
theorem nextNumber_eq (σ : St) (o k : Nat) (hk : gI σ o 13 = nI k) : fX4_nextNumber σ o = some (nI (rnd k / 65536), sI σ o 13 (nI (rnd k))) := by
  have h := rnd_lt k
  unfold fX4_nextNumber
  simp only [lt_eq, hk, rndI, gI_sI, and_self, if_true]
  rw [show (65536 : Int32) = nI 65536 from rfl, pk_div (by omega) (by omega) (by omega)]
theorem number1_eq (σ : St) (k : Nat) (hk : gJ σ 0 60 = lN k) : fX10_number1 σ 100 = some (nI (rnd k / 65536 % 100), sJ σ 0 60 (lN (rnd k))) := by
  have h := rnd_lt k
  unfold fX10_number1
  simp only [lt_eq, hk, rndL, gJ_sJ, and_self, if_true]
  rw [gd_pos (by decide), show Int32.toInt64 100 = lN 100 from by decide, show (65536 : Int64) = lN 65536 from rfl, pk_lDiv (by omega) (by omega) (by omega), pk_lRem (by omega) (by omega) (by omega), lN_i]
theorem rem100 (k : Nat) : nI (rnd k / 65536) - nI (rnd k / 65536) / 100 * 100 = nI (rnd k / 65536 % 100) := by
  have h := rnd_lt k
  rw [show (100 : Int32) = nI 100 from rfl, pk_rem (by omega) (by omega) (by omega)]
