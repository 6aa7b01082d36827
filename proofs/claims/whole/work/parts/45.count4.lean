theorem bc_bit : ∀ r, r < 64 → f_Lo_bitCount ((1 : Int64) <<< ((nI r).toInt64 &&& 63)) = 1 ∧ f_M_isOneBit ((1 : Int64) <<< ((nI r).toInt64 &&& 63)) = true := by decide +kernel
theorem onebit_iff (v : Int64) : f_M_isOneBit v = true ↔ ∃ r, r < 64 ∧ un v = 2 ^ r := by
  constructor
  · unfold f_M_isOneBit f_M_isOneBit_20
    by_cases h0 : v = 0
    · rw [if_pos h0]; intro z; cases z
    rw [if_neg h0]
    by_cases h1 : v &&& (v - 1) = 0
    · intro _
      obtain ⟨r, hr, h2, h3⟩ := low_bit h0
      refine ⟨r, hr, ?_⟩
      have : v = (1 : Int64) <<< ((nI r).toInt64 &&& 63) := tb_ext (fun i hi => by
        rw [tb_bit r hr i hi]
        have h4 := tb_eq0.mp h1 i hi
        rw [tb_and, tb_sub1 hr h2 h3 hi] at h4
        by_cases a : i < r
        · rw [h3 i a]; exact (decide_eq_false (by omega)).symm
        · rw [if_neg a] at h4
          by_cases b : i = r
          · rw [b, h2]; simp
          · rw [if_neg b, Bool.and_self] at h4
            rw [h4]; exact (decide_eq_false b).symm)
      rw [this, un_bit r hr]
    · rw [if_neg h1]; intro z; cases z
  · rintro ⟨r, hr, h⟩
    have : v = (1 : Int64) <<< ((nI r).toInt64 &&& 63) := un_inj (by rw [h, un_bit r hr])
    rw [this]
    exact (bc_bit r hr).2
theorem lowest_bits : ∀ n, n < 64 → f_N_lowest (nI n) = (1 : Int64) <<< ((nI n).toInt64 &&& 63) - 1 := by decide +kernel
theorem un_lowest : ∀ n, n ≤ 64 → un (f_N_lowest (nI n)) = 2 ^ n - 1 ∧ f_Lo_bitCount (f_N_lowest (nI n)) = nI n := by decide +kernel
theorem tb_lowest {n : Nat} (hn : n ≤ 64) (i : Nat) : tb (f_N_lowest (nI n)) i = decide (i < n) := by
  rw [tb_un, (un_lowest n hn).1, Nat.testBit_two_pow_sub_one]
theorem zerosAtEnd_iff (v : Int64) : ∃ n, n ≤ 64 ∧ f_N_zerosAtEnd v = nI n ∧ (∀ i, i < n → tb v i = false) ∧ (n < 64 → tb v n = true) := by
  unfold f_N_zerosAtEnd
  by_cases h0 : v = 0
  · refine ⟨64, by omega, ?_, fun i _ => by rw [h0]; exact tb_0 i, fun w => by omega⟩
    rw [h0]; decide +kernel
  · obtain ⟨r, hr, h2, h3⟩ := low_bit h0
    refine ⟨r, by omega, ?_, h3, fun _ => h2⟩
    have : (v ^^^ (-1 : Int64)) &&& (v - 1) = f_N_lowest (nI r) := tb_ext (fun i hi => by
      rw [tb_lowest (by omega), tb_and, tb_not _ hi, tb_sub1 hr h2 h3 hi]
      by_cases a : i < r
      · rw [if_pos a, h3 i a]; simp [a]
      · rw [if_neg a]
        by_cases b : i = r
        · rw [if_pos b]; simp [b]
        · rw [if_neg b]; simp [a])
    rw [this]
    exact (un_lowest r (by omega)).2
