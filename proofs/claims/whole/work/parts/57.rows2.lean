/-! extending, turning bytes, joining, single numbers -/
def extP (g : VV) (n : Int32) : VV :=
  if g.2.2.2.1 < (1 : Int64) <<< ((n - (1 : Int32)).toInt64 &&& 63) then f_V_saySigned (f_V_sayBits allV (f_N_extended g.1 n) (f_N_extended g.2.1 n)) g.2.2.1 g.2.2.2.1
  else if g.2.2.1 < (1 : Int64) <<< ((n - (1 : Int32)).toInt64 &&& 63) then f_V_saySigned (f_V_sayBits allV (f_N_extended g.1 n) (f_N_extended g.2.1 n)) (-((1 : Int64) <<< ((n - (1 : Int32)).toInt64 &&& 63))) ((1 : Int64) <<< ((n - (1 : Int32)).toInt64 &&& 63) - (1 : Int64))
  else f_V_saySigned (f_V_sayBits allV (f_N_extended g.1 n) (f_N_extended g.2.1 n)) (g.2.2.1 - (2 : Int64) * ((1 : Int64) <<< ((n - (1 : Int32)).toInt64 &&& 63))) (g.2.2.2.1 - (2 : Int64) * ((1 : Int64) <<< ((n - (1 : Int32)).toInt64 &&& 63)))
theorem ex_115 (z : VV) (n : Int32) (Z : VV) : f_V_signExtend_115 z n Z.1 Z.2.1 Z.2.2.1 Z.2.2.2.1 Z.2.2.2.2.1 Z.2.2.2.2.2.1 Z.2.2.2.2.2.2 = f_V_tighten Z := by unfold f_V_signExtend_115 f_V_signExtend_116g; exact congrArg f_V_tighten (eta7 Z)
theorem ext_pre (z : VV) (n : Int32) : f_V_signExtend z n = f_V_tighten (extP (f_V_trim z n) n) := by
  unfold f_V_signExtend f_V_signExtend_2g f_V_signExtend_21v f_V_signExtend_31v f_V_signExtend_41v f_V_signExtend_44g f_V_signExtend_52g f_V_signExtend_67g f_V_signExtend_98g f_V_signExtend_112g extP
  generalize f_V_trim z n = g
  simp only [sayAll_eq, ex_115]
  by_cases h : g.2.2.2.1 < (1 : Int64) <<< ((n - (1 : Int32)).toInt64 &&& 63)
  · rw [if_pos h, if_pos h]
  · rw [if_neg h, if_neg h]
    by_cases h' : g.2.2.1 < (1 : Int64) <<< ((n - (1 : Int32)).toInt64 &&& 63)
    · rw [if_pos h', if_pos h']
    · rw [if_neg h', if_neg h']
/-- the extended number, by its lowest bits -/
theorem ti_ext (v : Int64) {n : Nat} (h0 : 0 < n) (hn : n < 64) : (f_N_extended v (nI n)).toInt = if un v % 2 ^ n < 2 ^ (n - 1) then ((un v % 2 ^ n : Nat) : Int) else ((un v % 2 ^ n : Nat) : Int) - 2 ^ n := by
  have e64 : ∀ n, n < 64 → 0 < n → (64 : Int32) - nI n = nI (64 - n) := by decide +kernel
  unfold f_N_extended f_N_extended_14
  rw [if_pos (nI_lt64 hn), e64 n hn h0, ti_sshr _ (by omega), ti_un, un_shl _ (by omega)]
  have p1 : 2 ^ 64 = 2 ^ (64 - n) * 2 ^ n := by rw [← Nat.pow_add]; congr 1; omega
  have p2 : un v * 2 ^ (64 - n) % 2 ^ 64 = 2 ^ (64 - n) * (un v % 2 ^ n) := by
    rw [p1, Nat.mul_comm (un v), Nat.mul_mod_mul_left]
  have p3 : 2 ^ n = 2 * 2 ^ (n - 1) := by rw [Nat.mul_comm, ← Nat.pow_succ]; congr 1; omega
  have hp := Nat.two_pow_pos (64 - n)
  have c : 2 * (2 ^ (64 - n) * (un v % 2 ^ n)) < 2 ^ 64 ↔ un v % 2 ^ n < 2 ^ (n - 1) := by
    rw [p1, p3, Nat.mul_left_comm, Nat.mul_lt_mul_left hp]
    omega
  rw [p2]
  by_cases h : un v % 2 ^ n < 2 ^ (n - 1)
  · rw [if_pos (c.mpr h), if_pos h, Int.natCast_mul, Int.natCast_pow]
    exact Int.mul_ediv_cancel_left _ (by have := pow_pos' (64 - n); omega)
  · rw [if_neg (fun w => h (c.mp w)), if_neg h]
    have p4 : ((2 : Int) ^ 64) = 2 ^ (64 - n) * 2 ^ n := by rw [← Int.pow_add]; congr 1; omega
    rw [p4, Int.natCast_mul, Int.natCast_pow, show ((2 : Nat) : Int) = 2 from rfl, ← Int.mul_sub]
    exact Int.mul_ediv_cancel_left _ (by have := pow_pos' (64 - n); omega)
theorem ext_low (v : Int64) {n : Nat} (h0 : 0 < n) (hn : n < 64) : f_N_extended (v &&& f_N_lowest (nI n)) (nI n) = f_N_extended v (nI n) := tb_ext (fun i hi => by
  rw [tb_extended _ h0 (by omega) hi, tb_extended _ h0 (by omega) hi]
  split
  · rw [tb_and, tb_lowest (by omega), decide_eq_true (by omega)]; simp
  · rw [tb_and, tb_lowest (by omega), decide_eq_true (by omega)]; simp)
theorem half_bit : ∀ n, n < 64 → 0 < n → un ((1 : Int64) <<< ((nI n - (1 : Int32)).toInt64 &&& 63)) = 2 ^ (n - 1) := by decide +kernel
theorem ti_small {x : Int64} (h : un x < 2 ^ 63) : x.toInt = un x := by
  rw [ti_un]; omega
theorem ext_hld {g : VV} {u : Int64} (h : hld g u) {n : Nat} (h0 : 0 < n) (hn : n ≤ 32) (hl : un g.2.2.1 < 2 ^ n) (hh : un g.2.2.2.1 < 2 ^ n) : hld (extP g (nI n)) (f_N_extended u (nI n)) := by
  have hB : hld (f_V_sayBits allV (f_N_extended g.1 (nI n)) (f_N_extended g.2.1 (nI n))) (f_N_extended u (nI n)) := by
    refine hld_B (hld_all _) (fun i hi ho => ?_)
    rw [tb_extended _ h0 (by omega) hi] at ho ⊢
    rw [tb_extended _ h0 (by omega) hi]
    by_cases q : i < n
    · rw [if_pos q] at ho ⊢; rw [if_pos q]; exact h.2.2.1 _ hi ho
    · rw [if_neg q] at ho ⊢; rw [if_neg q]; exact h.2.2.1 _ (by omega) ho
  have hb := half_bit n (by omega) h0
  have te := ti_ext u h0 (by omega : n < 64)
  have a1 := h.2.2.2.1
  have a2 := h.2.2.2.2.1
  have p3 : 2 ^ n = 2 * 2 ^ (n - 1) := by rw [Nat.mul_comm, ← Nat.pow_succ]; congr 1; omega
  have p5 : 2 ^ n ≤ 2 ^ 32 := Nat.pow_le_pow_right (by decide) hn
  have p6 : ((2 : Int) ^ n) = ((2 ^ n : Nat) : Int) := by rw [Int.natCast_pow]; rfl
  unfold extP
  generalize (1 : Int64) <<< ((nI n - (1 : Int32)).toInt64 &&& 63) = H at hb ⊢
  rw [Nat.mod_eq_of_lt (by omega), p6] at te
  generalize f_N_extended u (nI n) = E at te hB ⊢
  generalize 2 ^ n = A at *
  generalize 2 ^ (n - 1) = B at *
  have tH := ti_un H
  have tl := ti_un g.2.2.1
  have th := ti_un g.2.2.2.1
  refine hld_if (fun c => ?_) (fun c => hld_if (fun c' => ?_) (fun c' => ?_))
  · rw [lt_un] at c
    refine hld_S hB ?_ ?_
    · omega
    · omega
  · rw [lt_un] at c c'
    have t1 := ti_un (-H)
    have n1 : un (-H) = 2 ^ 64 - B := by
      rw [← Int64.zero_sub, un_sub, un_0, hb]; omega
    have t2 := ti_un (H - 1)
    rw [un_sub, un_1] at t2
    rw [n1] at t1
    refine hld_S hB ?_ ?_
    · omega
    · omega
  · rw [lt_un] at c c'
    have t1 := ti_un (g.2.2.1 - 2 * H)
    have t2 := ti_un (g.2.2.2.1 - 2 * H)
    rw [un_sub, un_mul, un_2, hb] at t1 t2
    refine hld_S hB ?_ ?_
    · omega
    · omega
theorem ext_good {z : VV} {v : Int64} (h : good z) (hv : kn z v) {n : Nat} (h0 : 0 < n) (hn : n ≤ 32) : good (f_V_signExtend z (nI n)) ∧ kn (f_V_signExtend z (nI n)) (f_N_extended v (nI n)) ∧ apart (extP (f_V_trim z (nI n)) (nI n)).1 (extP (f_V_trim z (nI n)) (nI n)).2.1 := by
  obtain ⟨g1, g2⟩ := trim_good h hv (n := n) (by omega)
  obtain ⟨-, t1, t2⟩ := trim_above h hv (n := n) (by omega)
  have q := ext_hld (hld_good g1 g2) h0 hn t1 t2
  rw [ext_low v h0 (by omega)] at q
  rw [ext_pre]
  exact ⟨(hld_tighten q).1, (hld_tighten q).2, q.1⟩
