/-! PURE: the tiles that are done, as bits -/
section ZBT
theorem bt_k : ∀ k : Fin 64, ((nI k.val).toInt64 &&& 63) = oL k.val := by decide +kernel
theorem bt_s : ∀ k : Fin 64, ((oL k.val).toBitVec.smod 64).toNat = k.val := by decide +kernel
theorem bt_1 {k : Nat} (hk : k < 63) : (1 : Int64) <<< ((nI k).toInt64 &&& 63) = oL (2 ^ k) := by
  rw [bt_k ⟨k, by omega⟩, i64_shl (bt_s ⟨k, by omega⟩)]
  show oL 1 * oL (2 ^ k) = oL (2 ^ k)
  rw [oL_m, Nat.one_mul]
theorem bt_sr {N k : Nat} (hN : N < 9223372036854775808) (hk : k < 63) : oL N >>> ((nI k).toInt64 &&& 63) = oL (N / 2 ^ k) := by
  have hd : N / 2 ^ k ≤ N := Nat.div_le_self _ _
  rw [bt_k ⟨k, by omega⟩]
  apply i64_ext
  rw [oL_i (by omega)]
  show ((oL N).toBitVec.sshiftRight' ((oL k).toBitVec.smod 64)).toInt = _
  rw [BitVec.toInt_sshiftRight', bt_s ⟨k, by omega⟩, Int.shiftRight_eq_div_pow]
  show (oL N).toInt / _ = _
  rw [oL_i hN]
  norm_cast
theorem oL_bv {N : Nat} (hN : N < 18446744073709551616) : (oL N).toBitVec.toNat = N := by
  show (BitVec.ofNat 64 N).toNat = N
  rw [BitVec.toNat_ofNat]
  exact Nat.mod_eq_of_lt (by omega)
theorem bt_a {M : Nat} (hM : M < 9223372036854775808) : oL M &&& 1 = oL (M % 2) := by
  apply Int64.toBitVec_inj.mp
  apply BitVec.eq_of_toNat_eq
  rw [Int64.toBitVec_and, BitVec.toNat_and, oL_bv (by omega), oL_bv (by omega)]
  exact Nat.and_one_is_mod M
theorem bt_t {N k : Nat} (hN : N < 9223372036854775808) (hk : k < 63) : (oL N >>> ((nI k).toInt64 &&& 63)) &&& 1 = oL (if N.testBit k then 1 else 0) := by
  have hd : N / 2 ^ k ≤ N := Nat.div_le_self _ _
  rw [bt_sr hN hk, bt_a (by omega), Nat.testBit_eq_decide_div_mod_eq]
  by_cases c : N / 2 ^ k % 2 = 1
  · rw [decide_eq_true c, c]
    rfl
  · rw [decide_eq_false c, show N / 2 ^ k % 2 = 0 by omega]
    rfl
theorem bt_0 {N k : Nat} (hN : N < 9223372036854775808) (hk : k < 63) : (lg_cmp ((oL N >>> ((nI k).toInt64 &&& 63)) &&& 1) 0 = 0) ↔ N.testBit k = false := by
  rw [bt_t hN hk, lgc_eq]
  cases N.testBit k <;> decide
theorem bt_11 {N k : Nat} (hN : N < 9223372036854775808) (hk : k < 63) : (lg_cmp ((oL N >>> ((nI k).toInt64 &&& 63)) &&& 1) 1 = 0) ↔ N.testBit k = true := by
  rw [bt_t hN hk, lgc_eq]
  cases N.testBit k <;> decide
theorem bt_o {N M : Nat} (hN : N < 9223372036854775808) (hM : M < 9223372036854775808) : oL N ||| oL M = oL (N ||| M) := by
  have hlt : N ||| M < 2 ^ 63 := Nat.or_lt_two_pow (by omega) (by omega)
  apply Int64.toBitVec_inj.mp
  apply BitVec.eq_of_toNat_eq
  rw [Int64.toBitVec_or, BitVec.toNat_or, oL_bv (by omega), oL_bv (by omega), oL_bv (by omega)]
/-- one bit more -/
theorem bt_w {N T k : Nat} (hN : N < 2 ^ T) (hT : T ≤ 36) (hk : k < T) : oL N ||| ((1 : Int64) <<< ((nI k).toInt64 &&& 63)) = oL (N ||| 2 ^ k) ∧ (N ||| 2 ^ k) < 2 ^ T ∧ ∀ j, (N ||| 2 ^ k).testBit j = (N.testBit j || decide (k = j)) := by
  have h36 : 2 ^ T ≤ 2 ^ 36 := Nat.pow_le_pow_right (by decide) hT
  have hk2 : 2 ^ k < 2 ^ T := Nat.pow_lt_pow_right (by decide) hk
  refine ⟨?_, Nat.or_lt_two_pow hN hk2, fun j => ?_⟩
  · rw [bt_1 (by omega), bt_o (by omega) (by omega)]
  · rw [Nat.testBit_or, Nat.testBit_two_pow]
/-- all bits -/
theorem bt_all {N T : Nat} (hN : N < 2 ^ T) (hT : T ≤ 36) : (lg_cmp (oL N) ((1 : Int64) <<< ((nI T).toInt64 &&& 63) - 1) = 0) ↔ ∀ k, k < T → N.testBit k = true := by
  have h36 : 2 ^ T ≤ 2 ^ 36 := Nat.pow_le_pow_right (by decide) hT
  have p0 : 0 < 2 ^ T := Nat.two_pow_pos T
  rw [bt_1 (by omega), show (1 : Int64) = oL 1 from rfl, oL_s (by omega) (by omega), lgc_eq, oL_i (by omega), oL_i (by omega)]
  constructor
  · intro e k hk
    have : N = 2 ^ T - 1 := by omega
    rw [this, Nat.testBit_two_pow_sub_one]
    exact decide_eq_true hk
  · intro h
    have : N = 2 ^ T - 1 := by
      apply Nat.eq_of_testBit_eq
      intro j
      rw [Nat.testBit_two_pow_sub_one]
      by_cases c : j < T
      · rw [h j c, decide_eq_true c]
      · rw [decide_eq_false c]
        exact Nat.testBit_lt_two_pow (Nat.lt_of_lt_of_le hN (Nat.pow_le_pow_right (by decide) (by omega)))
    rw [this]
end ZBT
