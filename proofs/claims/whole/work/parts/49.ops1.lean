/-! the operations: class and reference make the same -/
def allV : VV := (0, -1, 0, -1, -9223372036854775808, 9223372036854775807, false)
theorem up_ne {α : Type} (f : Nat → α) {k j : Nat} (v : α) (h : ¬ j = k) : va_up f k v j = f j := by simp [va_up, h]
theorem up18_16 (r : Nat → VV) (z : VV) : va_up r 18 z 16 = r 16 := rfl
theorem up18_17 (r : Nat → VV) (z : VV) : va_up r 18 z 17 = r 17 := rfl
theorem u7_up (r : Nat → VV) (p : Nat) (z : VV) (x : Bool) : u7 (va_up r p z) p x = va_up r p (z.1, z.2.1, z.2.2.1, z.2.2.2.1, z.2.2.2.2.1, z.2.2.2.2.2.1, x) := by unfold u7; rw [up_up, up_at]
theorem i10 : ((1 : Int32) = 0) = False := by decide
theorem i01 : ((0 : Int32) = 1) = False := by decide
theorem bTF : (true = false) = False := by decide
theorem bFT : (false = true) = False := by decide
theorem sayAll_eq (z : VV) : f_V_sayAll z = allV := rfl
theorem nothingSaid_eq (r : Nat → VV) (p : Nat) : f_M_nothingSaid r p = va_up r p allV := by
  unfold f_M_nothingSaid f_M_nothingSaid_6u f_M_nothingSaid_15u f_M_nothingSaid_22u f_M_nothingSaid_31u f_M_nothingSaid_40u f_M_nothingSaid_49u f_M_nothingSaid_56u
  have : u1 r p 0 = va_up r p (0, (r p).2) := rfl
  rw [this, u2_up, u3_up, u4_up, u5_up, u6_up, u7_up]
  rfl
theorem copy_eq (r : Nat → VV) {p q : Nat} (h : ¬ p = q) : f_M_copy r p q = va_up r q (r p) := by
  unfold f_M_copy f_M_copy_11u f_M_copy_23u f_M_copy_35u f_M_copy_47u f_M_copy_59u f_M_copy_71u f_M_copy_83u
  have : u1 r q (r p).1 = va_up r q ((r p).1, (r q).2) := rfl
  rw [this]
  simp only [u2_up, u3_up, u4_up, u5_up, u6_up, u7_up, up_ne _ _ h]
theorem m_add_eq (r : Nat → VV) (z : VV) (hX : apart (r 16).1 (r 16).2.1) (hY : apart (r 17).1 (r 17).2.1) : f_M_add (va_up r 18 z) = va_up r 18 (f_O_addition z (r 16) (r 17)) := by
  obtain ⟨z1, z2, z3, z4, z5, z6, z7⟩ := z
  have h := m_sumBits_add (va_up r 18 (z1, z2, z3, z4, z5, z6, z7)) hX hY
  unfold f_M_add
  rw [h, up_up]
  simp only [up18_16, up18_17, up_at, u1_up, u2_up, u3_up, u4_up, u5_up, u6_up]
  unfold f_M_add_2g f_M_add_30v f_M_add_56v f_M_add_83u f_M_add_105u f_M_add_106 f_M_add_167u f_M_add_189u
  simp only [up18_16, up18_17, up_at, u1_up, u2_up, u3_up, u4_up, u5_up, u6_up, m_below, m_sumIsLong, bI_eq]
  unfold f_O_addition f_O_addition_9v f_O_addition_21v f_O_addition_39g f_O_addition_51v f_O_addition_62v f_O_addition_90g f_O_addition_93 f_O_addition_140g f_V_sayBits f_V_sayBits_16r f_V_sayUnsigned f_V_saySigned
  simp only [n_below, n_sumFits]
  rcases Classical.propComplete (un ((r 16).2.2.1 + (r 17).2.2.1) < un (r 16).2.2.1) with a | a <;> rcases Classical.propComplete (un ((r 16).2.2.2.1 + (r 17).2.2.2.1) < un (r 16).2.2.2.1) with b | b <;> rcases Classical.propComplete (-2 ^ 63 ≤ (r 16).2.2.2.2.1.toInt + (r 17).2.2.2.2.1.toInt ∧ (r 16).2.2.2.2.1.toInt + (r 17).2.2.2.2.1.toInt < 2 ^ 63) with c | c <;> rcases Classical.propComplete (-2 ^ 63 ≤ (r 16).2.2.2.2.2.1.toInt + (r 17).2.2.2.2.2.1.toInt ∧ (r 16).2.2.2.2.2.1.toInt + (r 17).2.2.2.2.2.1.toInt < 2 ^ 63) with d | d <;> simp only [a, b, c, d, decide_true, decide_false, if_true, if_false, i10, i01, bTF, bFT]
theorem m_subtract_eq (r : Nat → VV) (z : VV) (hX : apart (r 16).1 (r 16).2.1) (hY : apart (r 17).1 (r 17).2.1) : f_M_subtract (va_up r 18 z) = va_up r 18 (f_O_subtraction z (r 16) (r 17)) := by
  obtain ⟨z1, z2, z3, z4, z5, z6, z7⟩ := z
  have h := m_sumBits_sub (va_up r 18 (z1, z2, z3, z4, z5, z6, z7)) hX hY
  unfold f_M_subtract
  rw [h, up_up]
  simp only [up18_16, up18_17, up_at, u1_up, u2_up, u3_up, u4_up, u5_up, u6_up]
  unfold f_M_subtract_2g f_M_subtract_22v f_M_subtract_40v f_M_subtract_67u f_M_subtract_89u f_M_subtract_90 f_M_subtract_151u f_M_subtract_173u
  simp only [up18_16, up18_17, up_at, u1_up, u2_up, u3_up, u4_up, u5_up, u6_up, m_below, m_differenceIsLong, bI_eq]
  unfold f_O_subtraction f_O_subtraction_9v f_O_subtraction_23v f_O_subtraction_39g f_O_subtraction_86g f_O_subtraction_89 f_O_subtraction_136g f_V_sayBits f_V_sayBits_16r f_V_sayUnsigned f_V_saySigned
  simp only [n_below, n_differenceFits]
  rcases Classical.propComplete (un (r 16).2.2.1 < un (r 17).2.2.2.1) with a | a <;> rcases Classical.propComplete (un (r 16).2.2.2.1 < un (r 17).2.2.1) with b | b <;> rcases Classical.propComplete (-2 ^ 63 ≤ (r 16).2.2.2.2.1.toInt - (r 17).2.2.2.2.2.1.toInt ∧ (r 16).2.2.2.2.1.toInt - (r 17).2.2.2.2.2.1.toInt < 2 ^ 63) with c | c <;> rcases Classical.propComplete (-2 ^ 63 ≤ (r 16).2.2.2.2.2.1.toInt - (r 17).2.2.2.2.1.toInt ∧ (r 16).2.2.2.2.2.1.toInt - (r 17).2.2.2.2.1.toInt < 2 ^ 63) with d | d <;> simp only [a, b, c, d, decide_true, decide_false, if_true, if_false, i10, i01, bTF, bFT]
theorem m_knowLowest (r : Nat → VV) (z : VV) (n : Int32) (v : Int64) : f_M_knowLowest (va_up r 18 z) n v = va_up r 18 (f_V_sayBits z v (f_N_lowest n ^^^ (-1 : Int64))) := by
  obtain ⟨z1, z2, z3, z4, z5, z6, z7⟩ := z
  unfold f_M_knowLowest f_M_knowLowest_17 f_M_knowLowest_29u f_M_knowLowest_42u f_N_lowest f_V_sayBits f_V_sayBits_16r
  by_cases h : n < 64
  · rw [if_pos h, if_pos h]; simp only [up18_16, up18_17, up_at, u1_up, u2_up, u3_up, u4_up, u5_up, u6_up, not_not9]
  · rw [if_neg h, if_neg h]; simp only [up18_16, up18_17, up_at, u1_up, u2_up, u3_up, u4_up, u5_up, u6_up, not_not9]
theorem jmin_lt (x y : Int64) : (if x < y then x else y) = jmmin x y := by
  unfold jmmin
  by_cases h : x < y
  · rw [if_pos h]
    by_cases h' : y < x
    · exact absurd (Int64.lt_trans h h') (Int64.lt_irrefl)
    · rw [if_neg h']
  · rw [if_neg h]
    by_cases h' : y < x
    · rw [if_pos h']
    · rw [if_neg h']; exact Int64.le_antisymm (Int64.not_lt.mp h) (Int64.not_lt.mp h')
theorem jmax_lt (x y : Int64) : (if x < y then y else x) = jmmax x y := by
  unfold jmmax
  by_cases h : x < y
  · rw [if_pos h]
    by_cases h' : y < x
    · exact absurd (Int64.lt_trans h h') (Int64.lt_irrefl)
    · rw [if_neg h']
  · rw [if_neg h]
    by_cases h' : y < x
    · rw [if_pos h']
    · rw [if_neg h']; exact Int64.le_antisymm (Int64.not_lt.mp h') (Int64.not_lt.mp h)
theorem m_mul_tail (r R : Nat → VV) (d c b a : Int64) : f_M_multiply_270v r d c b a R = u6 (u5 R 18 (jmmin (jmmin a b) (jmmin c d))) 18 (jmmax (jmmax a b) (jmmax c d)) := by
  unfold f_M_multiply_270v f_M_multiply_285 f_M_multiply_302 f_M_multiply_325 f_M_multiply_325u f_M_multiply_339 f_M_multiply_356 f_M_multiply_379 f_M_multiply_379u
  simp only [← jmin_lt, ← jmax_lt]
  rcases Classical.propComplete (a < b) with p | p <;> rcases Classical.propComplete (c < d) with q | q <;> simp only [p, q, if_true, if_false] <;> (try split) <;> (try split) <;> rfl
theorem jnmin_le (x y : Int32) : jnmin x y = if y ≤ x then y else x := by
  unfold jnmin
  by_cases h : y < x
  · rw [if_pos h, if_pos (Int32.le_of_lt h)]
  · rw [if_neg h]
    by_cases h' : y ≤ x
    · rw [if_pos h']; exact Int32.le_antisymm (Int32.not_lt.mp h) h'
    · rw [if_neg h']
theorem m_multiply_eq (r : Nat → VV) (z : VV) : f_M_multiply (va_up r 18 z) = va_up r 18 (f_O_multiplication z (r 16) (r 17)) := by
  obtain ⟨z1, z2, z3, z4, z5, z6, z7⟩ := z
  unfold f_M_multiply f_M_multiply_15v f_M_multiply_31v f_M_multiply_43
  simp only [m_lowest_eq, up18_16, up18_17, up_at, u1_up, u2_up, u3_up, u4_up, u5_up, u6_up, if_true, if_false, bFT]
  have e : ∀ n, f_M_multiply_58g (va_up r 18 (z1, z2, z3, z4, z5, z6, z7)) (f_M_knowLowest (va_up r 18 (z1, z2, z3, z4, z5, z6, z7)) n ((r 16).1 * (r 17).1)) = va_up r 18 (f_O_multiplication_44g (z1, z2, z3, z4, z5, z6, z7) (r 16) (r 17) (f_V_sayBits (z1, z2, z3, z4, z5, z6, z7) ((r 16).1 * (r 17).1) (f_N_lowest n ^^^ (-1 : Int64)))) := by
    intro n
    rw [m_knowLowest]
    unfold f_M_multiply_58g f_M_multiply_102u f_M_multiply_124u f_M_multiply_125 f_M_multiply_220v f_M_multiply_236v f_M_multiply_253v
    simp only [m_mul_tail, up18_16, up18_17, up_at, u1_up, u2_up, u3_up, u4_up, u5_up, u6_up, fits_iff, m_isLong]
    unfold f_O_multiplication_44g f_O_multiplication_80g f_O_multiplication_83 f_O_multiplication_148v f_O_multiplication_159v f_O_multiplication_170v f_O_multiplication_181v f_O_multiplication_218g f_V_sayBits f_V_sayBits_16r f_V_sayUnsigned f_V_saySigned
    simp only [n_ufits, n_productFits]
    rcases Classical.propComplete (un (r 16).2.2.2.1 * un (r 17).2.2.2.1 < 2 ^ 64) with a | a <;> rcases Classical.propComplete (-2 ^ 63 ≤ (r 16).2.2.2.2.1.toInt * (r 17).2.2.2.2.1.toInt ∧ (r 16).2.2.2.2.1.toInt * (r 17).2.2.2.2.1.toInt < 2 ^ 63) with b | b <;> rcases Classical.propComplete (-2 ^ 63 ≤ (r 16).2.2.2.2.1.toInt * (r 17).2.2.2.2.2.1.toInt ∧ (r 16).2.2.2.2.1.toInt * (r 17).2.2.2.2.2.1.toInt < 2 ^ 63) with c | c <;> rcases Classical.propComplete (-2 ^ 63 ≤ (r 16).2.2.2.2.2.1.toInt * (r 17).2.2.2.2.1.toInt ∧ (r 16).2.2.2.2.2.1.toInt * (r 17).2.2.2.2.1.toInt < 2 ^ 63) with d | d <;> rcases Classical.propComplete (-2 ^ 63 ≤ (r 16).2.2.2.2.2.1.toInt * (r 17).2.2.2.2.2.1.toInt ∧ (r 16).2.2.2.2.2.1.toInt * (r 17).2.2.2.2.2.1.toInt < 2 ^ 63) with e | e <;> simp only [a, b, c, d, e, decide_true, decide_false, if_true, if_false, i10, i01, bTF, bFT]
  simp only [e]
  unfold f_O_multiplication f_O_multiplication_9v f_O_multiplication_19v f_O_knownBelow f_O_zerosBelow
  rw [jnmin_le]
  split <;> rfl
theorem m_divide_eq (r : Nat → VV) (z : VV) : f_M_divide (va_up r 18 z) = va_up r 18 (f_O_division z (r 16) (r 17)) := by
  obtain ⟨z1, z2, z3, z4, z5, z6, z7⟩ := z
  unfold f_M_divide f_M_divide_39 f_M_divide_39u f_M_divide_85 f_M_divide_85u f_O_division f_O_division_15g f_O_division_44g f_V_sayUnsigned
  simp only [up18_16, up18_17, up_at, u1_up, u2_up, u3_up, u4_up, u5_up, u6_up, quo_eq]
  by_cases h : (r 17).2.2.1 = 0
  · simp only [if_pos h]
  · simp only [if_neg h]
theorem less_eq (x y : Int64) : f_M_lesser x y = f_N_less x y := by rw [m_lesser, n_less]
theorem more_eq (x y : Int64) : f_M_larger x y = f_N_more x y := by rw [m_larger, n_more]
theorem m_remain_eq (r : Nat → VV) (z : VV) : f_M_remain (va_up r 18 z) = va_up r 18 (f_O_remainder z (r 16) (r 17)) := by
  obtain ⟨z1, z2, z3, z4, z5, z6, z7⟩ := z
  unfold f_M_remain f_M_remain_25g f_M_remain_38u f_M_remain_86 f_M_remain_86u f_O_remainder f_O_remainder_16g f_O_remainder_37g f_O_remainder_58g f_V_take f_V_sayUnsigned
  simp only [up18_16, up18_17, up_at, u1_up, u2_up, u3_up, u4_up, u5_up, u6_up, copy_eq _ (show ¬ (16 : Nat) = 18 by decide), up_up, m_below, n_below, less_eq]
  rcases Classical.propComplete (un (r 16).2.2.2.1 < un (r 17).2.2.1) with a | a <;> rcases Classical.propComplete ((r 17).2.2.1 = 0) with b | b <;> simp only [a, b, decide_true, decide_false, if_true, if_false, i10, i01, bTF, bFT]
