/-! shifts, lowest bits, turned bytes -/
theorem sm_nI : ∀ S, S < 64 → ((nI S).toInt64 &&& 63).toBitVec.smod 64 = BitVec.ofNat 64 S := by decide +kernel
theorem un_shl (x : Int64) {S : Nat} (hS : S < 64) : un (x <<< ((nI S).toInt64 &&& 63)) = un x * 2 ^ S % 2 ^ 64 := by
  show (x <<< ((nI S).toInt64 &&& 63)).toBitVec.toNat = _
  rw [Int64.toBitVec_shiftLeft, sm_nI S hS, BitVec.shiftLeft_eq', BitVec.toNat_shiftLeft, Nat.shiftLeft_eq, BitVec.toNat_ofNat, Nat.mod_eq_of_lt (a := S) (by omega)]
  rfl
theorem tb_shl (x : Int64) {S : Nat} (hS : S < 64) {i : Nat} (hi : i < 64) : tb (x <<< ((nI S).toInt64 &&& 63)) i = (decide (S ≤ i) && tb x (i - S)) := by
  show (x <<< ((nI S).toInt64 &&& 63)).toBitVec.getLsbD i = _
  rw [Int64.toBitVec_shiftLeft, sm_nI S hS, BitVec.shiftLeft_eq', BitVec.toNat_ofNat, Nat.mod_eq_of_lt (by omega), BitVec.getLsbD_shiftLeft]
  by_cases h : i < S
  · have h2 : ¬ S ≤ i := by omega
    simp [h, hi, h2]
  · have : S ≤ i := by omega
    simp [h, hi, this]; rfl
theorem ti_sshr (x : Int64) {S : Nat} (hS : S < 64) : (x >>> ((nI S).toInt64 &&& 63)).toInt = x.toInt / 2 ^ S := by
  show (x >>> ((nI S).toInt64 &&& 63)).toBitVec.toInt = _
  rw [Int64.toBitVec_shiftRight, sm_nI S hS, BitVec.sshiftRight_eq', BitVec.toInt_sshiftRight, BitVec.toNat_ofNat, Nat.mod_eq_of_lt (by omega), Int.shiftRight_eq_div_pow]
  rfl
theorem tb_sshr (x : Int64) {S : Nat} (hS : S < 64) {i : Nat} (hi : i < 64) : tb (x >>> ((nI S).toInt64 &&& 63)) i = if S + i < 64 then tb x (S + i) else tb x 63 := by
  show (x >>> ((nI S).toInt64 &&& 63)).toBitVec.getLsbD i = _
  rw [Int64.toBitVec_shiftRight, sm_nI S hS, BitVec.sshiftRight_eq', BitVec.getLsbD_sshiftRight, BitVec.toNat_ofNat, Nat.mod_eq_of_lt (by omega)]
  have h1 : ¬ 64 ≤ i := by omega
  have e : x.toBitVec.msb = tb x 63 := by rw [BitVec.msb_eq_getLsbD_last]; rfl
  rw [e]
  simp only [h1, decide_false, Bool.not_false, Bool.true_and]
  rfl
theorem un_ushr' (x : Int64) {S : Nat} (hS : S < 64) : un (x.toUInt64 >>> ((nI S).toInt64.toUInt64 &&& Int64.toUInt64 63)).toInt64 = un x / 2 ^ S := by
  rw [un_ushr, sh_nI S hS]
theorem tb_ushr' (x : Int64) {S : Nat} (hS : S < 64) (i : Nat) : tb (x.toUInt64 >>> ((nI S).toInt64.toUInt64 &&& Int64.toUInt64 63)).toInt64 i = tb x (S + i) := by
  rw [tb_ushr, sh_nI S hS]
theorem bit_at (x : Int64) {n : Nat} (hn : n < 64) : ((x.toUInt64 >>> ((nI n).toInt64.toUInt64 &&& Int64.toUInt64 63)).toInt64 &&& (1 : Int64)) = 0 ↔ tb x n = false := by
  rw [eq_un, un_and, un_1, un_0, Nat.and_one_is_mod, un_ushr' x hn, tb_un, Nat.testBit_eq_decide_div_mod_eq]
  constructor
  · intro h; exact decide_eq_false (by omega)
  · intro h; have := of_decide_eq_false h; omega
theorem m_lowest_loop (r : Nat → VV) (p : Nat) (z : Bool) : ∀ (m n : Nat), n ≤ 64 → 64 - n < m → (∀ i, i < n → tb (r p).2.1 i = false ∧ (z = true → tb (r p).1 i = false)) → ∃ N, N ≤ 64 ∧ f_M_lowest_2 r p z m (nI n) = nI N ∧ (∀ i, i < N → tb (r p).2.1 i = false ∧ (z = true → tb (r p).1 i = false)) ∧ (N < 64 → tb (r p).2.1 N = true ∨ (z = true ∧ tb (r p).1 N = true))
  | 0, n, _, h, _ => by omega
  | m + 1, n, hn, hm, hl => by
    rw [f_M_lowest_2]
    unfold f_M_lowest_48 f_M_lowest_42
    by_cases h64 : n = 64
    · rw [if_pos (by rw [h64]; decide)]
      exact ⟨n, hn, rfl, hl, fun w => by omega⟩
    have hn' : n < 64 := by omega
    have hle : ¬ (64 : Int32) ≤ nI n := nI_ge (b := 64) hn' (by decide)
    rw [if_neg hle]
    have b1 := bit_at (r p).2.1 hn'
    have b2 := bit_at (r p).1 hn'
    have ih : (tb (r p).2.1 n = false ∧ (z = true → tb (r p).1 n = false)) → ∃ N, N ≤ 64 ∧ f_M_lowest_2 r p z m (nI n + 1) = nI N ∧ (∀ i, i < N → tb (r p).2.1 i = false ∧ (z = true → tb (r p).1 i = false)) ∧ (N < 64 → tb (r p).2.1 N = true ∨ (z = true ∧ tb (r p).1 N = true)) := fun hh => by
      rw [nI_1]
      refine m_lowest_loop r p z m (n + 1) (by omega) (by omega) (fun i hi => ?_)
      by_cases e : i = n
      · rw [e]; exact hh
      · exact hl i (by omega)
    by_cases h1 : tb (r p).2.1 n = false
    · rw [if_pos (b1.mpr h1)]
      by_cases hz : z = true
      · rw [if_pos hz]
        by_cases h2 : tb (r p).1 n = false
        · rw [if_pos (b2.mpr h2)]; exact ih ⟨h1, fun _ => h2⟩
        · rw [if_neg (fun w => h2 (b2.mp w))]
          exact ⟨n, hn, rfl, hl, fun _ => Or.inr ⟨hz, by cases h : tb (r p).1 n <;> simp [h] at h2 ⊢⟩⟩
      · rw [if_neg hz]; exact ih ⟨h1, fun w => absurd w hz⟩
    · rw [if_neg (fun w => h1 (b1.mp w))]
      exact ⟨n, hn, rfl, hl, fun _ => Or.inl (by cases h : tb (r p).2.1 n <;> simp [h] at h1 ⊢)⟩
theorem m_lowest_eq (r : Nat → VV) (p : Nat) (z : Bool) : f_M_lowest r p z = f_N_zerosAtEnd (if z = true then (r p).1 ||| (r p).2.1 else (r p).2.1) := by
  obtain ⟨N, hN, e, h1, h2⟩ := m_lowest_loop r p z 65 0 (by omega) (by omega) (fun i hi => by omega)
  obtain ⟨n, hn, e', h1', h2'⟩ := zerosAtEnd_iff (if z = true then (r p).1 ||| (r p).2.1 else (r p).2.1)
  unfold f_M_lowest
  have e0 : f_M_lowest_2 r p z 65 0 = nI N := e
  rw [e0, e']
  congr 1
  have tv : ∀ i, tb (if z = true then (r p).1 ||| (r p).2.1 else (r p).2.1) i = (tb (r p).2.1 i || (z && tb (r p).1 i)) := fun i => by
    cases z
    · simp
    · rw [if_pos rfl, tb_or, Bool.or_comm]; simp
  rcases Nat.lt_trichotomy N n with h | h | h
  · have a := h1' N h
    rw [tv] at a
    rcases h2 (by omega) with b | ⟨b, c⟩
    · rw [b] at a; simp at a
    · rw [b, c] at a; simp at a
  · exact h
  · have a := h2' (by omega)
    rw [tv, (h1 n h).1] at a
    cases z
    · simp at a
    · rw [(h1 n h).2 rfl] at a; simp at a
theorem swapped_loop (v : Int64) (q : Int32) (hq : q ≤ 64) : ∀ (m : Nat) (k : Int32) (x : Int64), f_M_swapped_5 v q m k x = f_N_turned_5 v q m k x
  | 0, _, _ => rfl
  | m + 1, k, x => by
    rw [f_M_swapped_5, f_N_turned_5]
    unfold f_N_turned_38 f_M_swapped_24v f_N_turned_31v
    by_cases h : q ≤ k
    · rw [if_pos h, if_pos h]
    · rw [if_neg h, if_neg h, if_neg (fun w => h (Int32.le_trans hq w))]
      exact swapped_loop v q hq m _ _
theorem swapped_eq (v : Int64) (q : Int32) (hq : q ≤ 64) : f_M_swapped v q = f_N_turned v q := swapped_loop v q hq 65 0 0
theorem tb_255 : ∀ i, i < 64 → tb 255 i = decide (i < 8) := by decide +kernel
theorem turned_loop (v : Int64) (J : Nat) (hJ : J ≤ 8) : ∀ (m j : Nat) (x : Int64), j ≤ J → J - j < m → (∀ i, i < 64 → tb x i = (decide (i < 8 * j) && tb v (8 * (j - 1 - i / 8) + i % 8))) → ∀ i, i < 64 → tb (f_N_turned_5 v (nI (8 * J)) m (nI (8 * j)) x) i = (decide (i < 8 * J) && tb v (8 * (J - 1 - i / 8) + i % 8))
  | 0, j, x, _, h, _ => by omega
  | m + 1, j, x, hj, hm, hx => by
    rw [f_N_turned_5]
    unfold f_N_turned_38 f_N_turned_31v
    by_cases h : j = J
    · rw [if_pos (by rw [h]; exact Int32.le_refl _), ← h]; exact hx
    have hle : ¬ nI (8 * J) ≤ nI (8 * j) := nI_ge (by omega) (by omega)
    have h64 : ¬ (64 : Int32) ≤ nI (8 * j) := nI_ge (b := 64) (by omega) (by decide)
    rw [if_neg hle, if_neg h64]
    have e8 : nI (8 * j) + 8 = nI (8 * (j + 1)) := by
      rw [Nat.mul_add]; exact nI_add (8 * j) 8
    rw [e8]
    refine turned_loop v J hJ m (j + 1) _ (by omega) (by omega) (fun i hi => ?_)
    have s8 := tb_shl x (S := 8) (by omega) hi
    have s8' : tb (x <<< ((8 : Int32).toInt64 &&& 63)) i = (decide (8 ≤ i) && tb x (i - 8)) := s8
    rw [tb_or, s8', tb_and, tb_ushr' v (by omega), tb_255 i hi]
    by_cases h8 : i < 8
    · have a1 : ¬ 8 ≤ i := by omega
      have a2 : i < 8 * (j + 1) := by omega
      have a3 : i / 8 = 0 := by omega
      have a4 : i % 8 = i := by omega
      simp only [h8, a1, a2, a3, a4, decide_true, decide_false, Bool.false_and, Bool.false_or, Bool.and_true, Bool.true_and]
      congr 1
    · have a1 : 8 ≤ i := by omega
      rw [hx (i - 8) (by omega)]
      have a3 : (i - 8) / 8 = i / 8 - 1 := by omega
      have a4 : (i - 8) % 8 = i % 8 := by omega
      have a5 : j - 1 - (i / 8 - 1) = j + 1 - 1 - i / 8 := by omega
      have a6 : (i - 8 < 8 * j) ↔ i < 8 * (j + 1) := by omega
      simp only [h8, a1, decide_true, decide_false, Bool.and_false, Bool.or_false, Bool.true_and, a3, a4, a5, a6]
theorem tb_turned (v : Int64) {J : Nat} (hJ : J ≤ 8) {i : Nat} (hi : i < 64) : tb (f_N_turned v (nI (8 * J))) i = (decide (i < 8 * J) && tb v (8 * (J - 1 - i / 8) + i % 8)) :=
  turned_loop v J hJ 65 0 0 (by omega) (by omega) (fun i _ => by rw [tb_0]; simp) i hi
theorem mask_eq : f_M_mask 8 = f_N_lowest 8 ∧ f_M_mask 16 = f_N_lowest 16 ∧ f_M_mask 32 = f_N_lowest 32 ∧ f_M_mask 64 = f_N_lowest 64 := by decide +kernel
theorem tb_extended (v : Int64) {n : Nat} (h0 : 0 < n) (hn : n ≤ 64) {i : Nat} (hi : i < 64) : tb (f_N_extended v (nI n)) i = if i < n then tb v i else tb v (n - 1) := by
  have key : f_N_extended v (nI n) = f_N_extended_14 v (nI n) (nI (64 - n)) := by
    unfold f_N_extended
    by_cases h : n = 64
    · rw [h, if_neg (by decide)]; rfl
    · have e : nI n < 64 := nI_lt (b := 64) (by omega) (by decide)
      rw [if_pos e]
      congr 1
      have h64 : ∀ n, n < 64 → (64 : Int32) - nI n = nI (64 - n) := by decide +kernel
      exact h64 n (by omega)
  rw [key]
  unfold f_N_extended_14
  rw [tb_sshr _ (by omega) hi]
  by_cases h : i < n
  · rw [if_pos (by omega), if_pos h, tb_shl _ (by omega) (by omega)]
    have e1 : 64 - n ≤ 64 - n + i := by omega
    have e2 : 64 - n + i - (64 - n) = i := by omega
    simp [e1, e2]
  · rw [if_neg (by omega), if_neg h, tb_shl _ (by omega) (by omega)]
    have e1 : 64 - n ≤ 63 := by omega
    have e2 : 63 - (64 - n) = n - 1 := by omega
    simp [e1, e2]
