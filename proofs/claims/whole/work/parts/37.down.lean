/-! the reference's downFrom -/
theorem m_down_step (v u b : Int64) (n : Nat) (k : Int32) (left cur : Int64) (hk : ¬ k < 0) : f_M_downFrom_12 v u b (n + 1) k left cur = if left &&& ((1 : Int64) <<< (k.toInt64 &&& 63)) = 0 then f_M_downFrom_12 v u b n (k + (-1)) left cur else if f_M_below b (cur &&& ((left &&& (((1 : Int64) <<< (k.toInt64 &&& 63)) ^^^ (-1 : Int64))) ^^^ (-1 : Int64))) = true then f_M_downFrom_12 v u b n (k + (-1)) (left &&& (((1 : Int64) <<< (k.toInt64 &&& 63)) ^^^ (-1 : Int64))) (cur &&& (((1 : Int64) <<< (k.toInt64 &&& 63)) ^^^ (-1 : Int64))) else f_M_downFrom_12 v u b n (k + (-1)) (left &&& (((1 : Int64) <<< (k.toInt64 &&& 63)) ^^^ (-1 : Int64))) cur := by
  rw [f_M_downFrom_12, if_neg hk]
  rfl
theorem m_down_end (v u b : Int64) (n : Nat) (k : Int32) (left cur : Int64) (hk : k < 0) : f_M_downFrom_12 v u b (n + 1) k left cur = cur := by
  rw [f_M_downFrom_12, if_pos hk]
set_option maxHeartbeats 1000000 in
theorem m_down_loop (v u b : Int64) : ∀ (K : Nat), K ≤ 64 → ∀ (n : Nat) (left cur : Int64), K < n → (∀ i, i < 64 → tb left i = (tb u i && decide (i < K))) → mat v u cur → (∀ i, i < K → i < 64 → tb u i = true → tb cur i = true) →
    mat v u (f_M_downFrom_12 v u b n (dn K) left cur) ∧ (∀ i, K ≤ i → i < 64 → tb (f_M_downFrom_12 v u b n (dn K) left cur) i = tb cur i) ∧ ∀ m, mat v u m → (∀ i, K ≤ i → i < 64 → tb m i = tb cur i) → un m ≤ un b → un m ≤ un (f_M_downFrom_12 v u b n (dn K) left cur) ∧ un (f_M_downFrom_12 v u b n (dn K) left cur) ≤ un b
  | 0, _, 0, _, _, hn, _, _, _ => by omega
  | 0, _, n + 1, left, cur, _, hl, hc, hz => by
    rw [m_down_end _ _ _ _ _ _ _ dn_neg]
    refine ⟨hc, fun i _ _ => rfl, fun m hm ha hb => ?_⟩
    have : m = cur := tb_ext (fun i hi => ha i (by omega) hi)
    rw [this] at hb ⊢
    exact ⟨Nat.le_refl _, hb⟩
  | K + 1, hK, 0, _, _, hn, _, _, _ => by omega
  | K + 1, hK, n + 1, left, cur, hn, hl, hc, hz => by
    have hK64 : K < 64 := by omega
    rw [m_down_step _ _ _ _ _ _ _ (dn_pos hK64), dn_next]
    have tbit : ∀ i, i < 64 → tb ((1 : Int64) <<< ((dn (K + 1)).toInt64 &&& 63)) i = decide (i = K) := fun i hi => tb_bit K hK64 i hi
    generalize (1 : Int64) <<< ((dn (K + 1)).toInt64 &&& 63) = bit at tbit
    have ih := m_down_loop v u b K (by omega)
    by_cases hu : tb u K = true
    · have h1 : ¬ left &&& bit = 0 := fun q => by
        have := tb_eq0.mp q K hK64
        rw [tb_and, hl K hK64, hu, tbit K hK64] at this
        simp at this
      rw [if_neg h1]
      have tl' : ∀ i, i < 64 → tb (left &&& (bit ^^^ (-1 : Int64))) i = (tb u i && decide (i < K)) := fun i hi => by
        rw [tb_and, hl i hi, tb_not _ hi, tbit i hi]
        by_cases q : i = K
        · subst q; simp
        · by_cases q2 : i < K
          · have : i < K + 1 := by omega
            simp [q, q2, this]
          · have : ¬ i < K + 1 := by omega
            simp [q, q2, this]
      generalize left &&& (bit ^^^ (-1 : Int64)) = left' at tl'
      have hcK : tb cur K = true := hz K (by omega) hK64 hu
      have tor : ∀ i, i < 64 → tb (cur &&& (left' ^^^ (-1 : Int64))) i = (tb cur i && !(tb u i && decide (i < K))) := fun i hi => by rw [tb_and, tb_not _ hi, tl' i hi]
      have mor : mat v u (cur &&& (left' ^^^ (-1 : Int64))) := fun i hi ho => by rw [tor i hi, ho]; simp; exact hc i hi ho
      have lower : ∀ m, mat v u m → (∀ i, K ≤ i → i < 64 → tb m i = tb cur i) → un (cur &&& (left' ^^^ (-1 : Int64))) ≤ un m := fun m hm ha => by
        apply Nat.le_of_not_lt
        intro q
        obtain ⟨e, he, h2, h3, -⟩ := un_lt_iff.mp q
        rw [tor e he, Bool.and_eq_true] at h3
        by_cases q1 : K ≤ e
        · rw [ha e q1 he, h3.1] at h2; cases h2
        · cases ho : tb u e
          · rw [hm e he ho, ← hc e he ho, h3.1] at h2; cases h2
          · have h4 := h3.2
            have q2 : e < K := by omega
            rw [ho] at h4
            simp [q2] at h4
      by_cases hb : f_M_below b (cur &&& (left' ^^^ (-1 : Int64))) = true
      · rw [if_pos hb]
        have hb' := (m_below1 _ _).mp hb
        have tc' : ∀ i, i < 64 → tb (cur &&& (bit ^^^ (-1 : Int64))) i = (tb cur i && !decide (i = K)) := fun i hi => by rw [tb_and, tb_not _ hi, tbit i hi]
        obtain ⟨r1, r2, r3⟩ := ih n left' (cur &&& (bit ^^^ (-1 : Int64))) (by omega) tl' (fun i hi ho => by
          rw [tc' i hi]
          have : ¬ i = K := fun q => by rw [q, hu] at ho; cases ho
          simp [this]; exact hc i hi ho) (fun i hi hi2 ho => by
          rw [tc' i hi2, hz i (by omega) hi2 ho]
          have : ¬ i = K := by omega
          simp [this])
        refine ⟨r1, fun i hi hi2 => ?_, fun m hm ha hbm => ?_⟩
        · rw [r2 i (by omega) hi2, tc' i hi2]
          have : ¬ i = K := by omega
          simp [this]
        · have hmK : tb m K = false := by
            cases h : tb m K
            · rfl
            · have := lower m hm (fun i hi hi2 => by
                by_cases q : i = K
                · rw [q, h, hcK]
                · exact ha i (by omega) hi2)
              omega
          exact r3 m hm (fun i hi hi2 => by
            rw [tc' i hi2]
            by_cases q : i = K
            · rw [q, hmK]; simp
            · rw [ha i (by omega) hi2]; simp [q]) hbm
      · rw [if_neg hb]
        have hb' : ¬ un b < un (cur &&& (left' ^^^ (-1 : Int64))) := fun q => hb ((m_below1 _ _).mpr q)
        obtain ⟨r1, r2, r3⟩ := ih n left' cur (by omega) tl' hc (fun i hi hi2 ho => hz i (by omega) hi2 ho)
        refine ⟨r1, fun i hi hi2 => r2 i (by omega) hi2, fun m hm ha hbm => ?_⟩
        cases hmK : tb m K
        · have w := r3 (cur &&& (left' ^^^ (-1 : Int64))) mor (fun i hi hi2 => by
            rw [tor i hi2]
            have : ¬ i < K := by omega
            simp [this]) (by omega)
          refine ⟨Nat.le_of_lt (un_lt_of (i := K) hmK (by rw [r2 K (by omega) hK64]; exact hcK) (fun j h2 h3 => by rw [r2 j (by omega) h3, ha j (by omega) h3])), w.2⟩
        · exact r3 m hm (fun i hi hi2 => by
            by_cases q : i = K
            · rw [q, hmK, hcK]
            · exact ha i (by omega) hi2) hbm
    · have hu' : tb u K = false := by cases h : tb u K <;> simp [h] at hu ⊢
      have h1 : left &&& bit = 0 := tb_eq0.mpr (fun i hi => by
        rw [tb_and, hl i hi, tbit i hi]
        by_cases q : i = K
        · rw [q, hu']; simp
        · simp [q])
      rw [if_pos h1]
      obtain ⟨r1, r2, r3⟩ := ih n left cur (by omega) (fun i hi => by
        rw [hl i hi]
        by_cases q : i = K
        · rw [q, hu']; simp
        · have : i < K + 1 ↔ i < K := by omega
          simp [this]) hc (fun i hi hi2 ho => hz i (by omega) hi2 ho)
      refine ⟨r1, fun i hi hi2 => r2 i (by omega) hi2, fun m hm ha hbm => r3 m hm (fun i hi hi2 => ?_) hbm⟩
      by_cases q : i = K
      · rw [q, hm K hK64 hu', hc K hK64 hu']
      · exact ha i (by omega) hi2
theorem m_down (v u b : Int64) : mat v u (f_M_downFrom v u b) ∧ ∀ n, mat v u n → un n ≤ un b → un n ≤ un (f_M_downFrom v u b) ∧ un (f_M_downFrom v u b) ≤ un b := by
  obtain ⟨r1, -, r3⟩ := m_down_loop v u b 64 (by omega) 65 u (v ||| u) (by omega) (fun i hi => by simp [hi]) (fun i hi ho => by rw [tb_or, ho]; simp) (fun i hi hi2 ho => by rw [tb_or, ho]; simp)
  exact ⟨r1, fun n hn hb => r3 n hn (fun i h1 h2 => by omega) hb⟩
/-! a half's ends by the reference -/
theorem bI_eq (a b : Bool) : bI a = bI b ↔ a = b := by cases a <;> cases b <;> decide
/-- from where, and to where, a half goes -/
def mFrom (z : VV) (s : Bool) : Int64 := f_M_larger (f_M_larger z.2.2.1 (sg s)) (if s = decide (z.2.2.2.2.1 < 0) then z.2.2.2.2.1 else sg s)
def mTo (z : VV) (s : Bool) : Int64 := f_M_lesser (f_M_lesser z.2.2.2.1 (if s then -1 else 9223372036854775807)) (if s = decide (z.2.2.2.2.2.1 < 0) then z.2.2.2.2.2.1 else if s then -1 else 9223372036854775807)
theorem m_end (r : Nat → VV) (p : Nat) (v u : Int64) (s t : Bool) : f_M_end_ r p v u s t = if t = true then f_M_upFrom ((v &&& (9223372036854775807 : Int64)) ||| sg s) (u &&& (9223372036854775807 : Int64)) (mFrom (r p) s) else f_M_downFrom ((v &&& (9223372036854775807 : Int64)) ||| sg s) (u &&& (9223372036854775807 : Int64)) (mTo (r p) s) := by
  unfold f_M_end_ f_M_end__12 f_M_end__43 f_M_end__57 f_M_end__60v f_M_end__82 f_M_end__103 f_M_end__129 f_M_end__132v mFrom mTo
  cases s <;> by_cases h1 : (r p).2.2.2.2.1 < 0 <;> by_cases h2 : (r p).2.2.2.2.2.1 < 0 <;> simp [h1, h2, bI, sg]
