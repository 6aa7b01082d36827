/-! quotients -/
theorem un_ushr (x : Int64) (s : UInt64) : un (x.toUInt64 >>> s).toInt64 = un x / 2 ^ (s.toNat % 64) := by
  show (x.toUInt64 >>> s).toNat = x.toUInt64.toNat / _
  rw [UInt64.toNat_shiftRight, Nat.shiftRight_eq_div_pow]
theorem un_and (x y : Int64) : un (x &&& y) = un x &&& un y := by
  show (x &&& y).toBitVec.toNat = _
  rw [Int64.toBitVec_and, BitVec.toNat_and]; rfl
theorem un_or (x y : Int64) : un (x ||| y) = un x ||| un y := by
  show (x ||| y).toBitVec.toNat = _
  rw [Int64.toBitVec_or, BitVec.toNat_or]; rfl
theorem un_xor (x y : Int64) : un (x ^^^ y) = un x ^^^ un y := by
  show (x ^^^ y).toBitVec.toNat = _
  rw [Int64.toBitVec_xor, BitVec.toNat_xor]; rfl
theorem un_1 : un 1 = 1 := by decide
theorem un_2 : un 2 = 2 := by decide
theorem sh_nI : ∀ K, K < 64 → ((nI K).toInt64.toUInt64 &&& Int64.toUInt64 63).toNat % 64 = K := by decide +kernel
theorem un_bit : ∀ K, K < 64 → un ((1 : Int64) <<< ((nI K).toInt64 &&& 63)) = 2 ^ K := by decide +kernel
theorem un_div {x y : Int64} (hx : un x < 2 ^ 63) (hy : un y < 2 ^ 63) : un (x / y) = un x / un y := by
  show (x / y).toBitVec.toNat = _
  rw [Int64.toBitVec_div, BitVec.sdiv_eq]
  have h1 : x.toBitVec.msb = false := by
    rw [BitVec.msb_eq_decide]; exact decide_eq_false (by show ¬ _ ≤ un x; omega)
  have h2 : y.toBitVec.msb = false := by
    rw [BitVec.msb_eq_decide]; exact decide_eq_false (by show ¬ _ ≤ un y; omega)
  rw [h1, h2]
  exact BitVec.toNat_udiv
theorem un_shl1 (x : Int64) : un (x <<< ((1 : Int32).toInt64 &&& 63)) = 2 * un x % 2 ^ 64 := by
  have e : ((1 : Int32).toInt64 &&& 63) = 1 := by decide
  rw [e]
  show (x <<< (1 : Int64)).toBitVec.toNat = _
  rw [Int64.toBitVec_shiftLeft]
  have e2 : (1 : Int64).toBitVec.smod 64 = 1#64 := by decide
  rw [e2, BitVec.shiftLeft_eq', BitVec.toNat_shiftLeft, Nat.shiftLeft_eq]
  show un x * 2 ^ 1 % _ = _
  omega
theorem div_of {P Q k : Nat} (h1 : Q * k ≤ P) (h2 : P < Q * k + Q) : P / Q = k := by
  apply Nat.div_eq_of_lt_le
  · rw [Nat.mul_comm]; exact h1
  · rw [Nat.add_mul, Nat.one_mul, Nat.mul_comm]; exact h2
theorem n_quo (p q : Int64) : un (f_N_quotient p q) = un p / un q := by
  have hp := un_lt p
  have hq := un_lt q
  unfold f_N_quotient
  by_cases h0 : q = 0
  · rw [if_pos h0, h0, un_0, Nat.div_zero]
  rw [if_neg h0]
  have hq0 : 0 < un q := by
    rcases Nat.eq_zero_or_pos (un q) with h | h
    · exact absurd (un_inj (h.trans un_0.symm)) h0
    · exact h
  by_cases h1 : q < 0
  · rw [if_pos h1]
    have h2 := (neg_un q).mp h1
    by_cases h3 : un p < un q
    · rw [if_neg (fun z => (n_below0 p q).mp z h3), un_0, Nat.div_eq_of_lt h3]
    · rw [if_pos ((n_below0 p q).mpr h3), un_1]
      exact (div_of (by omega) (by omega)).symm
  rw [if_neg h1]
  have h2 : un q < 2 ^ 63 := by
    have := mt (neg_un q).mpr h1
    omega
  have e1 : un (p.toUInt64 >>> ((1 : Int32).toInt64.toUInt64 &&& Int64.toUInt64 63)).toInt64 = un p / 2 := by
    rw [un_ushr]; rfl
  have e2 := un_div (x := (p.toUInt64 >>> ((1 : Int32).toInt64.toUInt64 &&& Int64.toUInt64 63)).toInt64) (y := q) (by rw [e1]; omega) h2
  rw [e1] at e2
  have e3 := un_shl1 ((p.toUInt64 >>> ((1 : Int32).toInt64.toUInt64 &&& Int64.toUInt64 63)).toInt64 / q)
  rw [e2] at e3
  generalize ((p.toUInt64 >>> ((1 : Int32).toInt64.toUInt64 &&& Int64.toUInt64 63)).toInt64 / q) <<< ((1 : Int32).toInt64 &&& 63) = v at e3 ⊢
  have hk := Nat.div_add_mod (un p / 2) (un q)
  have hm := Nat.mod_lt (un p / 2) hq0
  have hle : un p / 2 / un q ≤ un p / 2 := Nat.div_le_self _ _
  have e4 : 2 * (un p / 2 / un q) % 2 ^ 64 = 2 * (un p / 2 / un q) := Nat.mod_eq_of_lt (by omega)
  rw [e4] at e3
  generalize un p / 2 / un q = k at e3 hk hle
  have e5 : un (p - v * q) = un p - 2 * (un q * k) := by
    rw [un_sub, un_mul, e3]
    have : 2 * k * un q = 2 * (un q * k) := by rw [Nat.mul_assoc, Nat.mul_comm k]
    rw [this]
    generalize un q * k = m at hk
    omega
  unfold f_N_quotient_35v
  have e6 : un q * (2 * k) = 2 * (un q * k) := by rw [Nat.mul_left_comm]
  have e7 : un q * (2 * k + 1) = 2 * (un q * k) + un q := by rw [Nat.mul_add, e6, Nat.mul_one]
  by_cases h3 : un (p - v * q) < un q
  · rw [if_neg (fun z => (n_below0 _ _).mp z h3), e3]
    refine (div_of ?_ ?_).symm
    · rw [e6]; generalize un q * k = m at *; omega
    · rw [e6]; rw [e5] at h3; generalize un q * k = m at *; omega
  · rw [if_pos ((n_below0 _ _).mpr h3), un_add, e3, un_1]
    rw [Nat.mod_eq_of_lt (by omega)]
    refine (div_of ?_ ?_).symm
    · rw [e7]; rw [e5] at h3; generalize un q * k = m at *; omega
    · rw [e7]; rw [e5] at h3; generalize un q * k = m at *; omega
theorem m_quo_step (a b : Int64) (n : Nat) (k : Int32) (r q : Int64) (hk : ¬ k < 0) : f_M_quotient_18 a b (n + 1) k r q = if r < 0 ∨ ¬ f_M_below ((2 : Int64) * r + ((a.toUInt64 >>> (k.toInt64.toUInt64 &&& Int64.toUInt64 63)).toInt64 &&& (1 : Int64))) b = true then f_M_quotient_18 a b n (k + (-1)) ((2 : Int64) * r + ((a.toUInt64 >>> (k.toInt64.toUInt64 &&& Int64.toUInt64 63)).toInt64 &&& (1 : Int64)) - b) (q ||| ((1 : Int64) <<< (k.toInt64 &&& 63))) else f_M_quotient_18 a b n (k + (-1)) ((2 : Int64) * r + ((a.toUInt64 >>> (k.toInt64.toUInt64 &&& Int64.toUInt64 63)).toInt64 &&& (1 : Int64))) q := by
  rw [f_M_quotient_18, if_neg hk]
  unfold f_M_quotient_35 f_M_quotient_50v f_M_quotient_66 f_M_quotient_70v f_M_quotient_79v f_M_quotient_81
  by_cases h1 : r < 0
  · rw [if_pos h1, if_pos (Or.inl h1), if_pos rfl]
  · rw [if_neg h1, if_neg (by decide)]
    by_cases h2 : f_M_below ((2 : Int64) * r + ((a.toUInt64 >>> (k.toInt64.toUInt64 &&& Int64.toUInt64 63)).toInt64 &&& (1 : Int64))) b = true
    · rw [if_pos h2, if_neg (fun z => z.elim h1 (fun w => w h2))]
    · rw [if_neg h2, if_pos (Or.inr h2)]
theorem m_quo_end (a b : Int64) (n : Nat) (k : Int32) (r q : Int64) (hk : k < 0) : f_M_quotient_18 a b (n + 1) k r q = q := by
  rw [f_M_quotient_18, if_pos hk]
theorem m_quo_loop (a b : Int64) (hb : 0 < un b) : ∀ (K : Nat), K ≤ 64 → ∀ (n : Nat) (r q : Int64), K < n → un r = un a / 2 ^ K % un b → un q = 2 ^ K * (un a / 2 ^ K / un b) → un (f_M_quotient_18 a b n (dn K) r q) = un a / un b
  | 0, _, 0, _, _, hn, _, _ => by omega
  | 0, _, n + 1, r, q, _, hr, hq => by
    rw [m_quo_end _ _ _ _ _ _ dn_neg, hq, Nat.pow_zero, Nat.one_mul, Nat.div_one]
  | K + 1, hK, 0, _, _, hn, _, _ => by omega
  | K + 1, hK, n + 1, r, q, hn, hr, hq => by
    rw [m_quo_step _ _ _ _ _ _ (dn_pos (by omega)), dn_next]
    have ha := un_lt a
    have hbl := un_lt b
    have hrl := un_lt r
    have e1 : un ((a.toUInt64 >>> ((dn (K + 1)).toInt64.toUInt64 &&& Int64.toUInt64 63)).toInt64 &&& (1 : Int64)) = un a / 2 ^ K % 2 := by
      rw [un_and, un_1, Nat.and_one_is_mod, un_ushr]
      show un a / 2 ^ (((nI K).toInt64.toUInt64 &&& Int64.toUInt64 63).toNat % 64) % 2 = _
      rw [sh_nI K (by omega)]
    generalize (a.toUInt64 >>> ((dn (K + 1)).toInt64.toUInt64 &&& Int64.toUInt64 63)).toInt64 &&& (1 : Int64) = bt at e1
    have e2 : un a / 2 ^ (K + 1) = un a / 2 ^ K / 2 := by rw [Nat.pow_succ, Nat.div_div_eq_div_mul]
    have hbit : un ((1 : Int64) <<< ((dn (K + 1)).toInt64 &&& 63)) = 2 ^ K := un_bit K (by omega)
    generalize (1 : Int64) <<< ((dn (K + 1)).toInt64 &&& 63) = bit at hbit
    have hB : un a / 2 ^ K < 2 ^ 64 := Nat.lt_of_le_of_lt (Nat.div_le_self _ _) ha
    have ih := m_quo_loop a b hb K (by omega) n
    rw [e2] at hr hq
    have hps : 2 ^ (K + 1) = 2 ^ K * 2 := Nat.pow_succ 2 K
    rw [hps] at hq
    have hpow : 2 ^ K ≤ 2 ^ 63 := Nat.pow_le_pow_right (by omega) (by omega)
    generalize hBB : un a / 2 ^ K = B at *
    have hdm := Nat.div_add_mod (B / 2) (un b)
    rw [← hr] at hdm
    have hrb : un r < un b := by rw [hr]; exact Nat.mod_lt _ hb
    have hk2 : un b * (2 * (B / 2 / un b)) = 2 * (un b * (B / 2 / un b)) := by rw [Nat.mul_left_comm]
    have hk3 : un b * (2 * (B / 2 / un b) + 1) = 2 * (un b * (B / 2 / un b)) + un b := by rw [Nat.mul_add, hk2, Nat.mul_one]
    have e3 : un (2 * r + bt) = (2 * un r + B % 2) % 2 ^ 64 := by
      rw [un_add, un_mul, un_2, e1]; omega
    by_cases hc : un b ≤ 2 * un r + B % 2
    · have hcond : r < 0 ∨ ¬ f_M_below (2 * r + bt) b = true := by
        by_cases h5 : r < 0
        · exact Or.inl h5
        · refine Or.inr (fun z => ?_)
          have z := (m_below1 _ _).mp z
          have h6 := mt (neg_un r).mpr h5
          rw [e3] at z
          omega
      rw [if_pos hcond]
      have hquo : B / un b = 2 * (B / 2 / un b) + 1 := div_of (by rw [hk3]; generalize un b * (B / 2 / un b) = m at *; omega) (by rw [hk3]; generalize un b * (B / 2 / un b) = m at *; omega)
      have hmod := Nat.div_add_mod B (un b)
      rw [hquo, hk3] at hmod
      refine ih _ _ (by omega) ?_ ?_
      · rw [un_sub, e3]
        generalize un b * (B / 2 / un b) = m at *
        omega
      · rw [un_or, hq, hbit, hquo]
        have h7 : 2 ^ K * 2 * (B / 2 / un b) = 2 ^ (K + 1) * (B / 2 / un b) := by rw [hps]
        rw [h7, ← Nat.two_pow_add_eq_or_of_lt (by rw [hps]; have := Nat.two_pow_pos K; omega), hps, Nat.mul_add, Nat.mul_one, Nat.mul_assoc]
    · have hcond : ¬ (r < 0 ∨ ¬ f_M_below (2 * r + bt) b = true) := by
        rintro (h5 | h5)
        · have h6 := (neg_un r).mp h5
          omega
        · refine h5 ((m_below1 _ _).mpr ?_)
          rw [e3]; omega
      rw [if_neg hcond]
      have hquo : B / un b = 2 * (B / 2 / un b) := div_of (by rw [hk2]; generalize un b * (B / 2 / un b) = m at *; omega) (by rw [hk2]; generalize un b * (B / 2 / un b) = m at *; omega)
      have hmod := Nat.div_add_mod B (un b)
      rw [hquo, hk2] at hmod
      refine ih _ _ (by omega) ?_ ?_
      · rw [e3]
        generalize un b * (B / 2 / un b) = m at *
        omega
      · rw [hq, hquo, Nat.mul_assoc]
theorem m_quo (a b : Int64) : un (f_M_quotient a b) = un a / un b := by
  unfold f_M_quotient
  by_cases h0 : b = 0
  · rw [if_pos h0, h0, un_0, Nat.div_zero]
  rw [if_neg h0]
  have hq0 : 0 < un b := by
    rcases Nat.eq_zero_or_pos (un b) with h | h
    · exact absurd (un_inj (h.trans un_0.symm)) h0
    · exact h
  have e : un a / 2 ^ 64 = 0 := Nat.div_eq_of_lt (un_lt a)
  refine m_quo_loop a b hq0 64 (by omega) 65 0 0 (by omega) ?_ ?_
  · rw [e, Nat.zero_mod]; rfl
  · rw [e, Nat.zero_div]; rfl
theorem quo_eq (a b : Int64) : f_M_quotient a b = f_N_quotient a b := un_inj (by rw [m_quo, n_quo])
theorem fits_iff (a b : Int64) : f_M_fits a b = decide (un a * un b < 2 ^ 64) := by
  unfold f_M_fits f_M_fits_20
  have ha := un_lt a
  have hb := un_lt b
  by_cases h0 : a = 0
  · rw [if_pos h0, h0, un_0, Nat.zero_mul]; rfl
  rw [if_neg h0]
  have hq0 : 0 < un a := by
    rcases Nat.eq_zero_or_pos (un a) with h | h
    · exact absurd (un_inj (h.trans un_0.symm)) h0
    · exact h
  have e : un (f_M_quotient (-1) a) < un b ↔ ¬ un a * un b < 2 ^ 64 := by
    rw [m_quo, un_m1, Nat.div_lt_iff_lt_mul hq0, Nat.mul_comm]
    omega
  by_cases h1 : f_M_below (f_M_quotient (-1) a) b = true
  · rw [if_pos h1]
    exact (decide_eq_false (e.mp ((m_below1 _ _).mp h1))).symm
  · rw [if_neg h1]
    have h2 : ¬ un (f_M_quotient (-1) a) < un b := fun z => h1 ((m_below1 _ _).mpr z)
    exact (decide_eq_true (Classical.byContradiction (fun z => h2 (e.mpr z)))).symm
theorem n_ufits (a b : Int64) : f_N_unsignedProductFits a b = if un a * un b < 2 ^ 64 then 1 else 0 := by
  have h := fits_iff a b
  unfold f_M_fits f_M_fits_20 at h
  unfold f_N_unsignedProductFits f_N_unsignedProductFits_20
  rw [← quo_eq]
  have hn := n_below0 (f_M_quotient (-1) a) b
  have hm := m_below1 (f_M_quotient (-1) a) b
  by_cases h0 : a = 0
  · rw [if_pos h0, if_pos (by rw [h0, un_0]; omega)]
  rw [if_neg h0] at h ⊢
  by_cases h1 : f_M_below (f_M_quotient (-1) a) b = true
  · rw [if_pos h1] at h
    rw [if_neg (of_decide_eq_false h.symm), if_neg (fun z => hn.mp z (hm.mp h1))]
  · rw [if_neg h1] at h
    rw [if_pos (of_decide_eq_true h.symm), if_pos (hn.mpr (fun z => h1 (hm.mpr z)))]
