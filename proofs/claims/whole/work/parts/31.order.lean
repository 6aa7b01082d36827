/-! unsigned and signed order -/
theorem un_add (x y : Int64) : un (x + y) = (un x + un y) % 2 ^ 64 := by
  show (x + y).toBitVec.toNat = _
  rw [Int64.toBitVec_add, BitVec.toNat_add]
  rfl
theorem un_sub (x y : Int64) : un (x - y) = (2 ^ 64 - un y + un x) % 2 ^ 64 := by
  show (x - y).toBitVec.toNat = _
  rw [Int64.toBitVec_sub, BitVec.toNat_sub]
  rfl
theorem un_mul (x y : Int64) : un (x * y) = (un x * un y) % 2 ^ 64 := by
  show (x * y).toBitVec.toNat = _
  rw [Int64.toBitVec_mul, BitVec.toNat_mul]
  rfl
theorem un_min : un (-9223372036854775808) = 2 ^ 63 := by decide
theorem un_0 : un 0 = 0 := by decide
theorem un_m1 : un (-1) = 2 ^ 64 - 1 := by decide
theorem un_max : un 9223372036854775807 = 2 ^ 63 - 1 := by decide
theorem ti_un (x : Int64) : x.toInt = if 2 * un x < 2 ^ 64 then (un x : Int) else (un x : Int) - 2 ^ 64 := BitVec.toInt_eq_toNat_cond _
theorem lt_un (x y : Int64) : x < y ↔ x.toInt < y.toInt := Int64.lt_iff_toInt_lt
theorem neg_un (x : Int64) : x < 0 ↔ 2 ^ 63 ≤ un x := by
  have h := un_lt x
  rw [lt_un, ti_un, ti_un 0, un_0]
  omega
theorem eq_un {x y : Int64} : x = y ↔ un x = un y := ⟨fun h => by rw [h], un_inj⟩
theorem n_below (p q : Int64) : f_N_below p q = if un p < un q then 1 else 0 := by
  unfold f_N_below
  have h1 := un_lt p
  have h2 := un_lt q
  have e : (p + (-9223372036854775808 : Int64)) < (q + (-9223372036854775808 : Int64)) ↔ un p < un q := by
    rw [lt_un, ti_un (p + _), ti_un (q + _), un_add, un_add, un_min]
    omega
  by_cases h : un p < un q
  · rw [if_pos h, if_pos (e.mpr h)]
  · rw [if_neg h, if_neg (fun z => h (e.mp z))]
theorem n_below0 (p q : Int64) : f_N_below p q = 0 ↔ ¬ un p < un q := by
  rw [n_below]
  by_cases h : un p < un q
  · rw [if_pos h]; exact ⟨fun z => absurd z (by decide), fun z => absurd h z⟩
  · rw [if_neg h]; exact ⟨fun _ => h, fun _ => rfl⟩
theorem m_below (p q : Int64) : f_M_below p q = decide (un p < un q) := by
  have h1 := un_lt p
  have h2 := un_lt q
  have ep := neg_un p
  have eq := neg_un q
  have el : p < q ↔ p.toInt < q.toInt := lt_un p q
  rw [ti_un p, ti_un q] at el
  unfold f_M_below f_M_below_11 f_M_below_22
  by_cases a : p < 0 <;> by_cases b : q < 0 <;> by_cases c : p < q <;> simp only [a, b, c, if_true, if_false, bI] <;>
    first
    | (have := ep.mp a; have := eq.mp b; have := el.mp c; simp; omega)
    | (have := ep.mp a; have := eq.mp b; have := mt el.mpr c; simp; omega)
    | (have := ep.mp a; have := mt eq.mpr b; simp; omega)
    | (have := mt ep.mpr a; have := eq.mp b; simp; omega)
    | (have := mt ep.mpr a; have := mt eq.mpr b; have := el.mp c; simp; omega)
    | (have := mt ep.mpr a; have := mt eq.mpr b; have := mt el.mpr c; simp; omega)
theorem m_below1 (p q : Int64) : f_M_below p q = true ↔ un p < un q := by rw [m_below]; exact decide_eq_true_iff
theorem n_less (p q : Int64) : f_N_less p q = if un p < un q then p else q := by
  unfold f_N_less
  by_cases h : un p < un q
  · rw [if_pos h, if_neg (fun z => (n_below0 p q).mp z h)]
  · rw [if_neg h, if_pos ((n_below0 p q).mpr h)]
theorem n_more (p q : Int64) : f_N_more p q = if un p < un q then q else p := by
  unfold f_N_more
  by_cases h : un p < un q
  · rw [if_pos h, if_neg (fun z => (n_below0 p q).mp z h)]
  · rw [if_neg h, if_pos ((n_below0 p q).mpr h)]
theorem m_lesser (p q : Int64) : f_M_lesser p q = if un p < un q then p else q := by
  unfold f_M_lesser
  by_cases h : un p < un q
  · rw [if_pos h, if_pos ((m_below1 p q).mpr h)]
  · rw [if_neg h, if_neg (fun z => h ((m_below1 p q).mp z))]
theorem m_larger (p q : Int64) : f_M_larger p q = if un p < un q then q else p := by
  unfold f_M_larger
  by_cases h : un p < un q
  · rw [if_pos h, if_pos ((m_below1 p q).mpr h)]
  · rw [if_neg h, if_neg (fun z => h ((m_below1 p q).mp z))]
theorem un_less (p q : Int64) : un (f_N_less p q) = min (un p) (un q) := by
  rw [n_less]; split <;> omega
theorem un_more (p q : Int64) : un (f_N_more p q) = max (un p) (un q) := by
  rw [n_more]; split <;> omega
/-- all bits from the highest 1 down -/
theorem uth_step {v x : Int64} {s : UInt64} {n : Nat} (hs : s.toNat % 64 = n) (h : ∀ i, tb x i = true ↔ ∃ d, d < n ∧ tb v (i + d) = true) : ∀ i, tb (x ||| (x.toUInt64 >>> s).toInt64) i = true ↔ ∃ d, d < n + n ∧ tb v (i + d) = true := by
  intro i
  rw [tb_or, tb_ushr, hs, Bool.or_eq_true, h, h]
  constructor
  · rintro (⟨d, h1, h2⟩ | ⟨d, h1, h2⟩)
    · exact ⟨d, by omega, h2⟩
    · exact ⟨n + d, by omega, by rw [← h2]; congr 1; omega⟩
  · rintro ⟨d, h1, h2⟩
    by_cases hd : d < n
    · exact Or.inl ⟨d, hd, h2⟩
    · exact Or.inr ⟨d - n, by omega, by rw [← h2]; congr 1; omega⟩
theorem n_uth (v : Int64) (i : Nat) : tb (f_N_upToHighest v) i = true ↔ ∃ j, i ≤ j ∧ tb v j = true := by
  unfold f_N_upToHighest f_N_upToHighest_5v f_N_upToHighest_11v f_N_upToHighest_17v f_N_upToHighest_24v f_N_upToHighest_31v
  have h0 : ∀ i, tb v i = true ↔ ∃ d, d < 1 ∧ tb v (i + d) = true := fun i => ⟨fun h => ⟨0, by omega, h⟩, fun ⟨d, h1, h2⟩ => by
    have : d = 0 := by omega
    subst this; exact h2⟩
  have h1 := uth_step (s := (1 : Int32).toInt64.toUInt64 &&& Int64.toUInt64 63) (by decide) h0
  have h2 := uth_step (s := (2 : Int32).toInt64.toUInt64 &&& Int64.toUInt64 63) (by decide) h1
  have h3 := uth_step (s := (4 : Int32).toInt64.toUInt64 &&& Int64.toUInt64 63) (by decide) h2
  have h4 := uth_step (s := (8 : Int32).toInt64.toUInt64 &&& Int64.toUInt64 63) (by decide) h3
  have h5 := uth_step (s := (16 : Int32).toInt64.toUInt64 &&& Int64.toUInt64 63) (by decide) h4
  have h6 := uth_step (s := (32 : Int32).toInt64.toUInt64 &&& Int64.toUInt64 63) (by decide) h5
  rw [h6]
  constructor
  · rintro ⟨d, -, h⟩; exact ⟨i + d, by omega, h⟩
  · rintro ⟨j, hj, h⟩
    have : j < 64 := by
      rcases Nat.lt_or_ge j 64 with q | q
      · exact q
      · rw [tb_big q] at h; cases h
    exact ⟨j - i, by omega, by rw [← h]; congr 1; omega⟩
