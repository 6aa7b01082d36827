/-! the reference's upFrom and downFrom -/
/-- the counter of a loop that goes down, with K steps to go -/
def dn : Nat → Int32
  | 0 => -1
  | K + 1 => nI K
theorem dn_neg : dn 0 < 0 := by decide
theorem dn_pos {K : Nat} (h : K < 64) : ¬ dn (K + 1) < 0 := nI_pos (by omega)
theorem dn_next {K : Nat} : dn (K + 1) + (-1) = dn K := by
  cases K with
  | zero => decide
  | succ K => exact pk_m1 K
/-- 1 << k -/
theorem tb_bit : ∀ K, K < 64 → ∀ i, i < 64 → tb ((1 : Int64) <<< ((nI K).toInt64 &&& 63)) i = decide (i = K) := by decide +kernel
theorem m_up_step (v u b : Int64) (n : Nat) (k : Int32) (left cur : Int64) (hk : ¬ k < 0) : f_M_upFrom_10 v u b (n + 1) k left cur = if left &&& ((1 : Int64) <<< (k.toInt64 &&& 63)) = 0 then f_M_upFrom_10 v u b n (k + (-1)) left cur else if f_M_below (cur ||| (left &&& (((1 : Int64) <<< (k.toInt64 &&& 63)) ^^^ (-1 : Int64)))) b = true then f_M_upFrom_10 v u b n (k + (-1)) (left &&& (((1 : Int64) <<< (k.toInt64 &&& 63)) ^^^ (-1 : Int64))) (cur ||| ((1 : Int64) <<< (k.toInt64 &&& 63))) else f_M_upFrom_10 v u b n (k + (-1)) (left &&& (((1 : Int64) <<< (k.toInt64 &&& 63)) ^^^ (-1 : Int64))) cur := by
  rw [f_M_upFrom_10, if_neg hk]
  rfl
theorem m_up_end (v u b : Int64) (n : Nat) (k : Int32) (left cur : Int64) (hk : k < 0) : f_M_upFrom_10 v u b (n + 1) k left cur = cur := by
  rw [f_M_upFrom_10, if_pos hk]
set_option maxHeartbeats 1000000 in
theorem m_up_loop (v u b : Int64) : ∀ (K : Nat), K ≤ 64 → ∀ (n : Nat) (left cur : Int64), K < n → (∀ i, i < 64 → tb left i = (tb u i && decide (i < K))) → mat v u cur → (∀ i, i < K → i < 64 → tb u i = true → tb cur i = false) →
    mat v u (f_M_upFrom_10 v u b n (dn K) left cur) ∧ (∀ i, K ≤ i → i < 64 → tb (f_M_upFrom_10 v u b n (dn K) left cur) i = tb cur i) ∧ ∀ m, mat v u m → (∀ i, K ≤ i → i < 64 → tb m i = tb cur i) → un b ≤ un m → un b ≤ un (f_M_upFrom_10 v u b n (dn K) left cur) ∧ un (f_M_upFrom_10 v u b n (dn K) left cur) ≤ un m
  | 0, _, 0, _, _, hn, _, _, _ => by omega
  | 0, _, n + 1, left, cur, _, hl, hc, hz => by
    rw [m_up_end _ _ _ _ _ _ _ dn_neg]
    refine ⟨hc, fun i _ _ => rfl, fun m hm ha hb => ?_⟩
    have : m = cur := tb_ext (fun i hi => ha i (by omega) hi)
    rw [this] at hb ⊢
    exact ⟨hb, Nat.le_refl _⟩
  | K + 1, hK, 0, _, _, hn, _, _, _ => by omega
  | K + 1, hK, n + 1, left, cur, hn, hl, hc, hz => by
    have hK64 : K < 64 := by omega
    rw [m_up_step _ _ _ _ _ _ _ (dn_pos hK64), dn_next]
    have tbit : ∀ i, i < 64 → tb ((1 : Int64) <<< ((dn (K + 1)).toInt64 &&& 63)) i = decide (i = K) := fun i hi => tb_bit K hK64 i hi
    generalize (1 : Int64) <<< ((dn (K + 1)).toInt64 &&& 63) = bit at tbit
    have ih := m_up_loop v u b K (by omega)
    by_cases hu : tb u K = true
    · have h1 : ¬ left &&& bit = 0 := fun q => by
        have := tb_eq0.mp q K hK64
        rw [tb_and, hl K hK64, hu, tbit K hK64] at this
        simp at this
      rw [if_neg h1]
      have tl' : ∀ i, i < 64 → tb (left &&& (bit ^^^ (-1 : Int64))) i = (tb u i && decide (i < K)) := fun i hi => by
        rw [tb_and, hl i hi, tb_not _ hi, tbit i hi]
        by_cases q : i = K
        · subst q; simp
        · by_cases q2 : i < K
          · have : i < K + 1 := by omega
            simp [q, q2, this]
          · have : ¬ i < K + 1 := by omega
            simp [q, q2, this]
      generalize left &&& (bit ^^^ (-1 : Int64)) = left' at tl'
      have hcK : tb cur K = false := hz K (by omega) hK64 hu
      have tor : ∀ i, i < 64 → tb (cur ||| left') i = (tb cur i || (tb u i && decide (i < K))) := fun i hi => by rw [tb_or, tl' i hi]
      have mor : mat v u (cur ||| left') := fun i hi ho => by rw [tor i hi, ho]; simp; exact hc i hi ho
      have upper : ∀ m, mat v u m → (∀ i, K ≤ i → i < 64 → tb m i = tb cur i) → un m ≤ un (cur ||| left') := fun m hm ha => by
        apply Nat.le_of_not_lt
        intro q
        obtain ⟨e, he, h2, h3, -⟩ := un_lt_iff.mp q
        rw [tor e he, Bool.or_eq_false_iff] at h2
        by_cases q1 : K ≤ e
        · rw [ha e q1 he, h2.1] at h3; cases h3
        · cases ho : tb u e
          · rw [hm e he ho, ← hc e he ho, h2.1] at h3; cases h3
          · have h4 := h2.2
            have q2 : e < K := by omega
            rw [ho] at h4
            simp [q2] at h4
      by_cases hb : f_M_below (cur ||| left') b = true
      · rw [if_pos hb]
        have hb' := (m_below1 _ _).mp hb
        have tc' : ∀ i, i < 64 → tb (cur ||| bit) i = (tb cur i || decide (i = K)) := fun i hi => by rw [tb_or, tbit i hi]
        obtain ⟨r1, r2, r3⟩ := ih n left' (cur ||| bit) (by omega) tl' (fun i hi ho => by
          rw [tc' i hi]
          have : ¬ i = K := fun q => by rw [q, hu] at ho; cases ho
          simp [this]; exact hc i hi ho) (fun i hi hi2 ho => by
          rw [tc' i hi2, hz i (by omega) hi2 ho]
          have : ¬ i = K := by omega
          simp [this])
        refine ⟨r1, fun i hi hi2 => ?_, fun m hm ha hbm => ?_⟩
        · rw [r2 i (by omega) hi2, tc' i hi2]
          have : ¬ i = K := by omega
          simp [this]
        · have hmK : tb m K = true := by
            cases h : tb m K
            · have := upper m hm (fun i hi hi2 => by
                by_cases q : i = K
                · rw [q, h, hcK]
                · exact ha i (by omega) hi2)
              omega
            · rfl
          exact r3 m hm (fun i hi hi2 => by
            rw [tc' i hi2]
            by_cases q : i = K
            · rw [q, hmK]; simp
            · rw [ha i (by omega) hi2]; simp [q]) hbm
      · rw [if_neg hb]
        have hb' : ¬ un (cur ||| left') < un b := fun q => hb ((m_below1 _ _).mpr q)
        obtain ⟨r1, r2, r3⟩ := ih n left' cur (by omega) tl' hc (fun i hi hi2 ho => hz i (by omega) hi2 ho)
        refine ⟨r1, fun i hi hi2 => r2 i (by omega) hi2, fun m hm ha hbm => ?_⟩
        cases hmK : tb m K
        · exact r3 m hm (fun i hi hi2 => by
            by_cases q : i = K
            · rw [q, hmK, hcK]
            · exact ha i (by omega) hi2) hbm
        · have w := r3 (cur ||| left') mor (fun i hi hi2 => by
            rw [tor i hi2]
            have : ¬ i < K := by omega
            simp [this]) (by omega)
          refine ⟨w.1, Nat.le_of_lt (un_lt_of (i := K) (by rw [r2 K (by omega) hK64]; exact hcK) hmK (fun j h2 h3 => by rw [r2 j (by omega) h3, ha j (by omega) h3]))⟩
    · have hu' : tb u K = false := by cases h : tb u K <;> simp [h] at hu ⊢
      have h1 : left &&& bit = 0 := tb_eq0.mpr (fun i hi => by
        rw [tb_and, hl i hi, tbit i hi]
        by_cases q : i = K
        · rw [q, hu']; simp
        · simp [q])
      rw [if_pos h1]
      obtain ⟨r1, r2, r3⟩ := ih n left cur (by omega) (fun i hi => by
        rw [hl i hi]
        by_cases q : i = K
        · rw [q, hu']; simp
        · have : i < K + 1 ↔ i < K := by omega
          simp [this]) hc (fun i hi hi2 ho => hz i (by omega) hi2 ho)
      refine ⟨r1, fun i hi hi2 => r2 i (by omega) hi2, fun m hm ha hbm => r3 m hm (fun i hi hi2 => ?_) hbm⟩
      by_cases q : i = K
      · rw [q, hm K hK64 hu', hc K hK64 hu']
      · exact ha i (by omega) hi2
theorem m_up (v u b : Int64) (hd : apart v u) : mat v u (f_M_upFrom v u b) ∧ ∀ n, mat v u n → un b ≤ un n → un b ≤ un (f_M_upFrom v u b) ∧ un (f_M_upFrom v u b) ≤ un n := by
  obtain ⟨r1, -, r3⟩ := m_up_loop v u b 64 (by omega) 65 u v (by omega) (fun i hi => by simp [hi]) (fun i hi ho => rfl) (fun i hi hi2 ho => hd i hi2 ho)
  exact ⟨r1, fun n hn hb => r3 n hn (fun i h1 h2 => by omega) hb⟩
