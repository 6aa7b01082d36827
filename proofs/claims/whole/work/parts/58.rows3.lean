/-! extending and turning, as the reference does it -/
theorem one_bit_and {a H : Int64} {k : Nat} (hk : k < 64) (hH : ∀ i, i < 64 → tb H i = decide (i = k)) : a &&& H = 0 ↔ tb a k = false := by
  constructor
  · intro h
    have := tb_eq0.mp h k hk
    rw [tb_and, hH k hk] at this
    simpa using this
  · intro h
    rw [tb_eq0]
    intro i hi
    rw [tb_and, hH i hi]
    by_cases q : i = k
    · rw [q, h]; rfl
    · simp [q]
theorem half_tb : ∀ n, n < 64 → 0 < n → ∀ i, i < 64 → tb ((1 : Int64) <<< ((nI n - (1 : Int32)).toInt64 &&& 63)) i = decide (i = n - 1) := by decide +kernel
/-- bits with nothing above n, extended -/
theorem ext_bits {a : Int64} {n : Nat} (h0 : 0 < n) (hn : n < 64) (h : ∀ i, n ≤ i → i < 64 → tb a i = false) : f_N_extended a (nI n) = if a &&& ((1 : Int64) <<< ((nI n - (1 : Int32)).toInt64 &&& 63)) = 0 then a else a ||| (f_N_lowest (nI n) ^^^ (-1 : Int64)) := by
  have q := one_bit_and (a := a) (by omega : n - 1 < 64) (half_tb n hn h0)
  by_cases c : a &&& ((1 : Int64) <<< ((nI n - (1 : Int32)).toInt64 &&& 63)) = 0
  · rw [if_pos c]
    have c' := q.mp c
    apply tb_ext
    intro i hi
    rw [tb_extended _ h0 (by omega) hi]
    split
    · rfl
    · rw [c', h i (by omega) hi]
  · rw [if_neg c]
    have c' : tb a (n - 1) = true := by
      cases w : tb a (n - 1)
      · exact absurd (q.mpr w) c
      · rfl
    apply tb_ext
    intro i hi
    rw [tb_extended _ h0 (by omega) hi, tb_or, tb_not _ hi, tb_lowest (by omega)]
    split
    · rename_i hlt; rw [decide_eq_true hlt]; simp
    · rename_i hlt; rw [decide_eq_false hlt, c']; simp
theorem sub_half : ∀ n, n < 64 → 0 < n → (2 : Int64) * ((1 : Int64) <<< ((nI n - (1 : Int32)).toInt64 &&& 63)) = f_N_lowest (nI n) + 1 := by decide +kernel
theorem sub_two {a m H : Int64} (h : (2 : Int64) * H = m + 1) : a - (2 : Int64) * H = a - m - 1 := by
  rw [h]
  apply un_inj
  have h1 := un_lt a
  have h2 := un_lt m
  simp only [un_sub, un_add, un_1]
  omega
/-- the pieces of the reference's row -/
theorem ext_row (r : Nat → VV) (R : Nat → VV) {p q : Nat} (n : Int32) (a b c d : Int64) : f_M_extendRow_162 r p q n a b c d = fun (s : Int64) (R : Nat → VV) => f_M_tighten (u6 (u5 (u2 R q s) q (if a < c then b else if b < c then (0 : Int64) - c else b - d - (1 : Int64))) q (if a < c then a else if b < c then c - (1 : Int64) else a - d - (1 : Int64))) q := by
  funext s R
  unfold f_M_extendRow_162 f_M_extendRow_162u f_M_extendRow_203 f_M_extendRow_203u f_M_extendRow_244 f_M_extendRow_244u f_M_extendRow_247g
  by_cases h : a < c
  · simp only [if_pos h]
  · simp only [if_neg h]
    by_cases h' : b < c
    · simp only [if_pos h']
    · simp only [if_neg h']
theorem ext_eq (r : Nat → VV) {p q : Nat} (hp : ¬ p = 19) (hq : ¬ q = 20) {v : Int64} (h : good (r p)) (hv : kn (r p) v) {n : Nat} (h0 : 0 < n) (hn : n ≤ 32) : f_M_extendRow r p q (nI n) = va_up (va_up (va_up r 19 (r p)) 20 (f_V_trim (r p) (nI n))) q (f_V_signExtend (r p) (nI n)) := by
  have hq' : ¬ (20 : Nat) = q := fun w => hq w.symm
  obtain ⟨-, -, ha⟩ := ext_good h hv h0 hn
  rw [ext_pre, ← tight_up _ _ ha]
  clear ha
  obtain ⟨t1, t2, t3⟩ := trim_above h hv (n := n) (by omega)
  have gA := good_apart (trim_good h hv (n := n) (by omega)).1
  unfold f_M_extendRow f_M_extendRow_5g
  rw [cut_eq r hp (by decide) h hv (by omega), mask_nI n (by omega)]
  have hx : ∀ R : Nat → VV, R 20 = f_V_trim (r p) (nI n) → f_M_extendRow_12v r p q (nI n) (f_N_lowest (nI n)) R = f_M_tighten (va_up R q (extP (f_V_trim (r p) (nI n)) (nI n))) q := by
    intro R hR
    generalize f_V_trim (r p) (nI n) = g at t1 t2 t3 gA hR ⊢
    have b1 := ext_bits (a := g.1) h0 (by omega) (fun i h1 h2 => (t1 i h1 h2).1)
    have b2 := ext_bits (a := g.2.1) h0 (by omega) (fun i h1 h2 => (t1 i h1 h2).2)
    have sh := sub_half n (by omega) h0
    have aB : apart (f_N_extended g.1 (nI n)) (f_N_extended g.2.1 (nI n)) := by
      intro i hi ho
      rw [tb_extended _ h0 (by omega) hi] at ho ⊢
      split at ho
      · rename_i w; rw [if_pos w]; exact gA i hi ho
      · rename_i w; rw [if_neg w]; exact gA _ (by omega) ho
    have hb := half_tb n (by omega) h0
    have nb : ¬ g.2.1 &&& ((1 : Int64) <<< ((nI n - (1 : Int32)).toInt64 &&& 63)) = 0 → g.1 &&& ((1 : Int64) <<< ((nI n - (1 : Int32)).toInt64 &&& 63)) = 0 := fun w => by
      have q1 := one_bit_and (a := g.2.1) (by omega : n - 1 < 64) hb
      have q2 := one_bit_and (a := g.1) (by omega : n - 1 < 64) hb
      refine q2.mpr (gA (n - 1) (by omega) ?_)
      cases z : tb g.2.1 (n - 1)
      · exact absurd (q1.mpr z) w
      · rfl
    unfold f_M_extendRow_12v f_M_extendRow_19v f_M_extendRow_28v f_M_extendRow_37v f_M_extendRow_41g f_M_extendRow_64 f_M_extendRow_86 f_M_extendRow_120 f_M_extendRow_127 f_M_extendRow_127u extP
    simp only [ext_row r R, nothingSaid_eq, hR, up_ne _ _ hq', u1_up, u2_up, u5_up, u6_up, up_at, if_true, if_false, bFT, bTF, sayB, sayS, apart_not9 aB]
    simp only [b1, b2]
    generalize (1 : Int64) <<< ((nI n - (1 : Int32)).toInt64 &&& 63) = H at sh nb ⊢
    generalize f_N_lowest (nI n) = m at sh ⊢
    simp only [sub_two sh, Int64.zero_sub]
    by_cases c1 : g.2.1 &&& H = 0
    · by_cases c2 : g.1 &&& H = 0 <;> by_cases c3 : g.2.2.2.1 < H <;> by_cases c4 : g.2.2.1 < H <;> simp only [c1, c2, c3, c4, if_true, if_false]
    · have c2 := nb c1
      by_cases c3 : g.2.2.2.1 < H <;> by_cases c4 : g.2.2.1 < H <;> simp only [c1, c2, c3, c4, if_true, if_false]
  exact hx _ (up_at _ _ _)
/-! bytes turned round -/
theorem turn_pre (z : VV) (n : Int32) : f_V_turnBytes z n = f_V_tighten (f_V_sayBits allV (f_N_turned (f_V_trim z n).1 n) (f_N_turned (f_V_trim z n).2.1 n)) := by
  unfold f_V_turnBytes f_V_turnBytes_2g f_V_turnBytes_13v f_V_turnBytes_22v f_V_turnBytes_25g f_V_turnBytes_32g f_V_turnBytes_36g
  rw [sayAll_eq]
theorem turn_hld {g : VV} {u : Int64} (h : hld g u) {J : Nat} (hJ : J ≤ 8) : hld (f_V_sayBits allV (f_N_turned g.1 (nI (8 * J))) (f_N_turned g.2.1 (nI (8 * J)))) (f_N_turned u (nI (8 * J))) := by
  refine hld_B (hld_all _) (fun i hi ho => ?_)
  rw [tb_turned _ hJ hi] at ho ⊢
  rw [tb_turned _ hJ hi]
  by_cases q : i < 8 * J
  · rw [decide_eq_true q] at ho ⊢
    rw [Bool.true_and, Bool.true_and]
    exact h.2.2.1 _ (by omega) (by simpa using ho)
  · rw [decide_eq_false q]; rfl
theorem turn_apart {a b : Int64} (h : apart a b) {J : Nat} (hJ : J ≤ 8) : apart (f_N_turned a (nI (8 * J))) (f_N_turned b (nI (8 * J))) := fun i hi ho => by
  rw [tb_turned _ hJ hi] at ho ⊢
  by_cases q : i < 8 * J
  · rw [decide_eq_true q] at ho ⊢
    rw [h _ (by omega) (by simpa using ho)]; rfl
  · rw [decide_eq_false q]; rfl
theorem turn_low (v : Int64) {J : Nat} (hJ : J ≤ 8) : f_N_turned (v &&& f_N_lowest (nI (8 * J))) (nI (8 * J)) = f_N_turned v (nI (8 * J)) := tb_ext (fun i hi => by
  rw [tb_turned _ hJ hi, tb_turned _ hJ hi]
  by_cases q : i < 8 * J
  · rw [tb_and, tb_lowest (by omega), decide_eq_true (show 8 * (J - 1 - i / 8) + i % 8 < 8 * J by omega)]; simp
  · rw [decide_eq_false q]; rfl)
theorem turn_good {z : VV} {v : Int64} (h : good z) (hv : kn z v) {J : Nat} (hJ : J ≤ 8) : good (f_V_turnBytes z (nI (8 * J))) ∧ kn (f_V_turnBytes z (nI (8 * J))) (f_N_turned v (nI (8 * J))) := by
  obtain ⟨g1, g2⟩ := trim_good h hv (n := 8 * J) (by omega)
  have q := turn_hld (hld_good g1 g2) hJ
  rw [turn_low v hJ] at q
  rw [turn_pre]
  exact hld_tighten q
theorem swap_eq (r : Nat → VV) {p q : Nat} (hp : ¬ p = 19) (hq : ¬ q = 20) {v : Int64} (h : good (r p)) (hv : kn (r p) v) {J : Nat} (hJ : J ≤ 8) : f_M_swapRow r p q (nI (8 * J)) = va_up (va_up (va_up r 19 (r p)) 20 (f_V_trim (r p) (nI (8 * J)))) q (f_V_turnBytes (r p) (nI (8 * J))) := by
  have hq' : ¬ (20 : Nat) = q := fun w => hq w.symm
  have h64 : nI (8 * J) ≤ 64 := (nI_leI (b := 64) (by omega) (by decide)).mpr (by omega)
  have gA := good_apart (trim_good h hv (n := 8 * J) (by omega)).1
  rw [turn_pre]
  unfold f_M_swapRow f_M_swapRow_5g
  rw [cut_eq r hp (by decide) h hv (by omega)]
  generalize f_V_trim (r p) (nI (8 * J)) = g at gA ⊢
  rw [← tight_up _ _ (apart_say _ _)]
  unfold f_M_swapRow_10g f_M_swapRow_29u f_M_swapRow_46u f_M_swapRow_49g
  simp only [nothingSaid_eq, up_ne _ _ hq', up_at, u1_up, u2_up, swapped_eq _ _ h64, sayB, apart_not9 (turn_apart gA hJ)]
