/-! sums, differences and products that are longs -/
theorem ti_lo (x : Int64) : -2 ^ 63 ≤ x.toInt := by
  have := un_lt x; rw [ti_un]; omega
theorem ti_hi (x : Int64) : x.toInt < 2 ^ 63 := by
  have := un_lt x; rw [ti_un]; omega
theorem ti_inj {x y : Int64} (h : x.toInt = y.toInt) : x = y := Int64.toInt_inj.mp h
theorem n_sumFits (p q : Int64) : f_N_sumFits p q = if -2 ^ 63 ≤ p.toInt + q.toInt ∧ p.toInt + q.toInt < 2 ^ 63 then 1 else 0 := by
  unfold f_N_sumFits f_N_sumFits_3v
  have h1 := un_lt p
  have h2 := un_lt q
  have e : ((p ^^^ (p + q)) &&& (q ^^^ (p + q))) < 0 ↔ ¬ (-2 ^ 63 ≤ p.toInt + q.toInt ∧ p.toInt + q.toInt < 2 ^ 63) := by
    rw [neg_tb, tb_and, tb_xor, tb_xor, tb63, tb63, tb63, un_add, ti_un p, ti_un q]
    by_cases a : 2 ^ 63 ≤ un p <;> by_cases b : 2 ^ 63 ≤ un q <;> by_cases c : 2 ^ 63 ≤ (un p + un q) % 2 ^ 64 <;> simp only [a, b, c, decide_true, decide_false, Bool.xor_true, Bool.xor_false, Bool.not_true, Bool.not_false, Bool.and_true, Bool.and_false, Bool.true_eq_false, Bool.false_eq_true, true_iff, false_iff] <;> omega
  by_cases h : -2 ^ 63 ≤ p.toInt + q.toInt ∧ p.toInt + q.toInt < 2 ^ 63
  · rw [if_neg (fun z => e.mp z h), if_pos h]
  · rw [if_pos (e.mpr h), if_neg h]
theorem n_differenceFits (p q : Int64) : f_N_differenceFits p q = if -2 ^ 63 ≤ p.toInt - q.toInt ∧ p.toInt - q.toInt < 2 ^ 63 then 1 else 0 := by
  unfold f_N_differenceFits f_N_differenceFits_3v
  have h1 := un_lt p
  have h2 := un_lt q
  have e : ((p ^^^ q) &&& (p ^^^ (p - q))) < 0 ↔ ¬ (-2 ^ 63 ≤ p.toInt - q.toInt ∧ p.toInt - q.toInt < 2 ^ 63) := by
    rw [neg_tb, tb_and, tb_xor, tb_xor, tb63, tb63, tb63, un_sub, ti_un p, ti_un q]
    by_cases a : 2 ^ 63 ≤ un p <;> by_cases b : 2 ^ 63 ≤ un q <;> by_cases c : 2 ^ 63 ≤ (2 ^ 64 - un q + un p) % 2 ^ 64 <;> simp only [a, b, c, decide_true, decide_false, Bool.xor_true, Bool.xor_false, Bool.not_true, Bool.not_false, Bool.and_true, Bool.and_false, Bool.true_eq_false, Bool.false_eq_true, true_iff, false_iff] <;> omega
  by_cases h : -2 ^ 63 ≤ p.toInt - q.toInt ∧ p.toInt - q.toInt < 2 ^ 63
  · rw [if_neg (fun z => e.mp z h), if_pos h]
  · rw [if_pos (e.mpr h), if_neg h]
theorem m_sumIsLong (p q : Int64) : f_M_sumIsLong p q = decide (-2 ^ 63 ≤ p.toInt + q.toInt ∧ p.toInt + q.toInt < 2 ^ 63) := by
  have h1 := un_lt p
  have h2 := un_lt q
  have ep := neg_un p
  have eq := neg_un q
  have es := neg_un (p + q)
  rw [un_add] at es
  rw [ti_un p, ti_un q]
  unfold f_M_sumIsLong f_M_sumIsLong_3v f_M_sumIsLong_16 f_M_sumIsLong_27 f_M_sumIsLong_42 f_M_sumIsLong_53 f_M_sumIsLong_56
  by_cases a : p < 0 <;> by_cases b : q < 0 <;> by_cases c : p + q < 0 <;> simp only [a, b, c, if_true, if_false, bI_eq, Bool.true_eq_false, Bool.false_eq_true] <;> simp only [a, b, c, true_iff, false_iff] at ep eq es <;> symm <;>
    first
    | exact decide_eq_true (by omega)
    | exact decide_eq_false (by omega)
theorem m_differenceIsLong (p q : Int64) : f_M_differenceIsLong p q = decide (-2 ^ 63 ≤ p.toInt - q.toInt ∧ p.toInt - q.toInt < 2 ^ 63) := by
  have h1 := un_lt p
  have h2 := un_lt q
  have ep := neg_un p
  have eq := neg_un q
  have es := neg_un (p - q)
  rw [un_sub] at es
  rw [ti_un p, ti_un q]
  unfold f_M_differenceIsLong f_M_differenceIsLong_3v f_M_differenceIsLong_16 f_M_differenceIsLong_27 f_M_differenceIsLong_42 f_M_differenceIsLong_53 f_M_differenceIsLong_56
  by_cases a : p < 0 <;> by_cases b : q < 0 <;> by_cases c : p - q < 0 <;> simp only [a, b, c, if_true, if_false, bI_eq, Bool.true_eq_false, Bool.false_eq_true] <;> simp only [a, b, c, true_iff, false_iff] at ep eq es <;> symm <;>
    first
    | exact decide_eq_true (by omega)
    | exact decide_eq_false (by omega)
theorem ti_mod (x : Int64) {a : Int} (h1 : -2 ^ 63 ≤ a) (h2 : a < 2 ^ 63) {k : Int} (h : x.toInt = a + 2 ^ 64 * k) : x.toInt = a := by
  have := ti_lo x
  have := ti_hi x
  omega
theorem ti_mul (x y : Int64) : ∃ k : Int, (x * y).toInt = x.toInt * y.toInt + 2 ^ 64 * k := by
  have h := Int64.toInt_mul x y
  rw [h]
  refine ⟨-((x.toInt * y.toInt - (x.toInt * y.toInt).bmod (2 ^ 64)) / 2 ^ 64), ?_⟩
  have := Int.dvd_self_sub_bmod (m := 2 ^ 64) (x := x.toInt * y.toInt)
  omega
theorem ti_mul_in {x y : Int64} (h : -2 ^ 63 ≤ x.toInt * y.toInt ∧ x.toInt * y.toInt < 2 ^ 63) : (x * y).toInt = x.toInt * y.toInt := by
  obtain ⟨k, hk⟩ := ti_mul x y
  exact ti_mod _ h.1 h.2 hk
theorem ti_div {x y : Int64} (h : ¬ y = -1) : (x / y).toInt = x.toInt.tdiv y.toInt := by
  rw [Int64.toInt_div]
  have h1 := ti_lo x
  have h2 := ti_hi x
  apply Int.bmod_eq_of_le
  · have := Int.natAbs_tdiv_le_natAbs x.toInt y.toInt
    omega
  · have h3 := Int.natAbs_tdiv_le_natAbs x.toInt y.toInt
    by_cases hx : x.toInt = -2 ^ 63
    · have hy1 : ¬ y.toInt = -1 := fun z => h (ti_inj z)
      rw [hx]
      by_cases h0 : y.toInt = 0
      · rw [h0]; decide
      by_cases h1 : y.toInt < 0
      · have e : (-2 ^ 63 : Int).tdiv y.toInt = (2 ^ 63 : Int).tdiv (- y.toInt) := by rw [Int.tdiv_neg, Int.neg_tdiv]
        rw [e]
        have : (2 ^ 63 : Int).tdiv (-y.toInt) = 2 ^ 63 / (-y.toInt) := Int.tdiv_eq_ediv_of_nonneg (by decide)
        rw [this]
        have : (2 ^ 63 : Int) / (-y.toInt) < 2 ^ 63 := Int.ediv_lt_of_lt_mul (by omega) (by omega)
        exact this
      · have : (-2 ^ 63 : Int).tdiv y.toInt = - (2 ^ 63 / y.toInt) := by rw [Int.neg_tdiv, Int.tdiv_eq_ediv_of_nonneg (by decide)]
        rw [this]
        have : 0 ≤ (2 ^ 63 : Int) / y.toInt := Int.ediv_nonneg (by decide) (by omega)
        omega
    · omega
theorem n_productFits (p q : Int64) : f_N_productFits p q = if -2 ^ 63 ≤ p.toInt * q.toInt ∧ p.toInt * q.toInt < 2 ^ 63 then 1 else 0 := by
  unfold f_N_productFits
  have h1 := ti_lo q
  have h2 := ti_hi q
  by_cases h0 : p = 0
  · rw [if_pos h0, if_pos]
    rw [h0]
    have : (0 : Int64).toInt = 0 := by decide
    rw [this, Int.zero_mul]; decide
  rw [if_neg h0]
  by_cases hm : p = -1
  · rw [if_pos hm, hm]
    have e : (-1 : Int64).toInt = -1 := by decide
    rw [e]
    by_cases h3 : q = -9223372036854775808
    · rw [if_pos h3, h3]; rfl
    · rw [if_neg h3, if_pos]
      have : ¬ q.toInt = -2 ^ 63 := fun z => h3 (ti_inj z)
      omega
  rw [if_neg hm]
  have hp0 : ¬ p.toInt = 0 := fun z => h0 (ti_inj z)
  by_cases h : -2 ^ 63 ≤ p.toInt * q.toInt ∧ p.toInt * q.toInt < 2 ^ 63
  · rw [if_pos h, if_pos]
    apply ti_inj
    rw [ti_div hm, ti_mul_in h, Int.mul_tdiv_cancel_left _ hp0]
  · rw [if_neg h, if_neg]
    intro z
    apply h
    have z1 := ti_div (x := p * q) hm
    rw [z] at z1
    have z2 := Int.mul_tdiv_add_tmod (p * q).toInt p.toInt
    rw [← z1] at z2
    obtain ⟨k, hk⟩ := ti_mul p q
    have z3 : ((p * q).toInt.tmod p.toInt).natAbs < p.toInt.natAbs := by
      rw [Int.natAbs_tmod]; exact Nat.mod_lt _ (by omega)
    have := ti_lo p
    have := ti_hi p
    have := ti_lo (p * q)
    have := ti_hi (p * q)
    generalize p.toInt * q.toInt = m at *
    omega
theorem un_0sub (p : Int64) : un (0 - p) = (2 ^ 64 - un p) % 2 ^ 64 := by rw [un_sub, un_0, Nat.add_zero]
theorem m_isLong (p q : Int64) : f_M_isLong p q = decide (-2 ^ 63 ≤ p.toInt * q.toInt ∧ p.toInt * q.toInt < 2 ^ 63) := by
  have key : ∀ (x y : Int64) (s : Bool), p.toInt * q.toInt = (if s then -(((un x * un y : Nat)) : Int) else ((un x * un y : Nat) : Int)) → (f_M_isLong_28 p q x y = if un x * un y < 2 ^ 64 then f_M_isLong_79 p q (x * y) s else false) → f_M_isLong_28 p q x y = decide (-2 ^ 63 ≤ p.toInt * q.toInt ∧ p.toInt * q.toInt < 2 ^ 63) := by
    intro x y s h1 h2
    rw [h2, h1]
    by_cases h3 : un x * un y < 2 ^ 64
    · rw [if_pos h3]
      unfold f_M_isLong_79 f_M_isLong_102 f_M_isLong_106
      have e := neg_un (x * y)
      have e2 : x * y = -9223372036854775808 ↔ un x * un y = 2 ^ 63 := by
        rw [eq_un, un_min, un_mul, Nat.mod_eq_of_lt h3]
      rw [un_mul, Nat.mod_eq_of_lt h3] at e
      generalize un x * un y = m at *
      generalize x * y = v at *
      by_cases a : v < 0
      · rw [if_pos a]
        have a2 := e.mp a
        cases s
        · rw [if_neg (by decide)]
          exact (decide_eq_false (by rw [if_neg (by decide)]; omega)).symm
        · rw [if_pos rfl]
          by_cases b : v = -9223372036854775808
          · have b2 := e2.mp b
            rw [if_pos b]
            exact (decide_eq_true (by rw [if_pos rfl]; omega)).symm
          · have b2 := mt e2.mpr b
            rw [if_neg b]
            exact (decide_eq_false (by rw [if_pos rfl]; omega)).symm
      · rw [if_neg a]
        have a2 := mt e.mpr a
        cases s
        · exact (decide_eq_true (by rw [if_neg (by decide)]; omega)).symm
        · exact (decide_eq_true (by rw [if_pos rfl]; omega)).symm
    · rw [if_neg h3]
      generalize un x * un y = m at *
      cases s <;> simp only [if_true, if_false, Bool.false_eq_true] <;> symm <;> exact decide_eq_false (by omega)
  have hp := un_lt p
  have hq := un_lt q
  have ep := neg_un p
  have eq := neg_un q
  unfold f_M_isLong f_M_isLong_13
  have w : ∀ x y : Int64, f_M_isLong_28 p q x y = if un x * un y < 2 ^ 64 then f_M_isLong_47v p q (x * y) else false := fun x y => by
    unfold f_M_isLong_28
    rw [fits_iff]
    by_cases h : un x * un y < 2 ^ 64
    · rw [if_pos h, if_pos (decide_eq_true h)]
    · rw [if_neg h, if_neg (by rw [decide_eq_false h]; decide)]
  by_cases a : p < 0 <;> by_cases b : q < 0 <;> simp only [a, b, if_true, if_false]
  · refine key _ _ false ?_ ?_
    · have := ep.mp a
      have := eq.mp b
      have e1 : p.toInt = -((un (0 - p) : Nat) : Int) := by rw [ti_un, un_0sub]; omega
      have e2 : q.toInt = -((un (0 - q) : Nat) : Int) := by rw [ti_un, un_0sub]; omega
      rw [e1, e2, Int.neg_mul_neg]; simp
    · rw [w]; unfold f_M_isLong_47v f_M_isLong_60 f_M_isLong_71; simp only [a, b, if_true, if_false, bI_eq]
  · refine key _ _ true ?_ ?_
    · have := ep.mp a
      have := mt eq.mpr b
      have e1 : p.toInt = -((un (0 - p) : Nat) : Int) := by rw [ti_un, un_0sub]; omega
      have e2 : q.toInt = ((un q : Nat) : Int) := by rw [ti_un]; omega
      rw [e1, e2, Int.neg_mul]; simp
    · rw [w]; unfold f_M_isLong_47v f_M_isLong_60 f_M_isLong_71; simp only [a, b, if_true, if_false, bI_eq, Bool.true_eq_false]
  · refine key _ _ true ?_ ?_
    · have := mt ep.mpr a
      have := eq.mp b
      have e1 : p.toInt = ((un p : Nat) : Int) := by rw [ti_un]; omega
      have e2 : q.toInt = -((un (0 - q) : Nat) : Int) := by rw [ti_un, un_0sub]; omega
      rw [e1, e2, Int.mul_neg]; simp
    · rw [w]; unfold f_M_isLong_47v f_M_isLong_60 f_M_isLong_71; simp only [a, b, if_true, if_false, bI_eq, Bool.false_eq_true]
  · refine key _ _ false ?_ ?_
    · have := mt ep.mpr a
      have := mt eq.mpr b
      have e1 : p.toInt = ((un p : Nat) : Int) := by rw [ti_un]; omega
      have e2 : q.toInt = ((un q : Nat) : Int) := by rw [ti_un]; omega
      rw [e1, e2]; simp
    · rw [w]; unfold f_M_isLong_47v f_M_isLong_60 f_M_isLong_71; simp only [a, b, if_true, if_false, bI_eq]
