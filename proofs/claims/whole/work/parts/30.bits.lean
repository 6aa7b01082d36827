/-! bits of longs -/
def tb (x : Int64) (i : Nat) : Bool := x.toBitVec.getLsbD i
def un (x : Int64) : Nat := x.toBitVec.toNat
theorem tb_un (x : Int64) (i : Nat) : tb x i = (un x).testBit i := rfl
theorem un_lt (x : Int64) : un x < 2 ^ 64 := x.toBitVec.isLt
theorem un_inj {x y : Int64} (h : un x = un y) : x = y := Int64.toBitVec_inj.mp (BitVec.eq_of_toNat_eq h)
theorem tb_ext {x y : Int64} (h : ∀ i, i < 64 → tb x i = tb y i) : x = y := Int64.toBitVec_inj.mp (BitVec.eq_of_getLsbD_eq h)
theorem tb_big {x : Int64} {i : Nat} (h : 64 ≤ i) : tb x i = false := BitVec.getLsbD_of_ge _ _ h
theorem tb_and (x y : Int64) (i : Nat) : tb (x &&& y) i = (tb x i && tb y i) := by simp [tb, Int64.toBitVec_and]
theorem tb_or (x y : Int64) (i : Nat) : tb (x ||| y) i = (tb x i || tb y i) := by simp [tb, Int64.toBitVec_or]
theorem tb_xor (x y : Int64) (i : Nat) : tb (x ^^^ y) i = (tb x i ^^ tb y i) := by simp [tb, Int64.toBitVec_xor]
theorem tb_m1 {i : Nat} (h : i < 64) : tb (-1) i = true := by
  have h2 : (-1 : Int64).toBitVec = BitVec.allOnes 64 := by decide
  show (-1 : Int64).toBitVec.getLsbD i = true
  rw [h2, BitVec.getLsbD_allOnes]
  exact decide_eq_true h
theorem tb_0 (i : Nat) : tb 0 i = false := by
  have h2 : (0 : Int64).toBitVec = 0#64 := by decide
  simp [tb, h2]
theorem tb_not (x : Int64) {i : Nat} (h : i < 64) : tb (x ^^^ (-1)) i = !tb x i := by
  rw [tb_xor, tb_m1 h]; cases tb x i <;> rfl
theorem tb_eq0 {x : Int64} : x = 0 ↔ ∀ i, i < 64 → tb x i = false := by
  refine ⟨fun h i _ => by rw [h]; exact tb_0 i, fun h => tb_ext (fun i hi => by rw [h i hi, tb_0])⟩
theorem tb_ne0 {x : Int64} (h : ¬ x = 0) : ∃ i, i < 64 ∧ tb x i = true := by
  apply Classical.byContradiction
  intro q
  apply h
  rw [tb_eq0]
  intro i hi
  cases hb : tb x i
  · rfl
  · exact absurd ⟨i, hi, hb⟩ q
/-- a shift to the right -/
theorem tb_ushr (x : Int64) (s : UInt64) (i : Nat) : tb (x.toUInt64 >>> s).toInt64 i = tb x (s.toNat % 64 + i) := by
  show ((x.toUInt64 >>> s).toNat).testBit i = (x.toUInt64.toNat).testBit _
  rw [UInt64.toNat_shiftRight, Nat.testBit_shiftRight]
theorem nat_lt_bit {x y i : Nat} (hx : x.testBit i = false) (hy : y.testBit i = true) (h : ∀ j, i < j → x.testBit j = y.testBit j) : x < y := by
  apply Nat.lt_of_not_le
  intro q
  have e1 : x / 2 ^ (i + 1) = y / 2 ^ (i + 1) := by
    apply Nat.eq_of_testBit_eq
    intro j
    rw [Nat.testBit_div_two_pow, Nat.testBit_div_two_pow]
    exact h _ (by omega)
  have d := Nat.div_le_div_right (c := 2 ^ i) q
  rw [Nat.testBit_eq_decide_div_mod_eq] at hx hy
  have hx := of_decide_eq_false hx
  have hy := of_decide_eq_true hy
  rw [Nat.pow_succ, ← Nat.div_div_eq_div_mul, ← Nat.div_div_eq_div_mul] at e1
  omega
/-- unsigned order by the highest bit that differs -/
theorem un_lt_of {x y : Int64} {i : Nat} (hx : tb x i = false) (hy : tb y i = true) (h : ∀ j, i < j → j < 64 → tb x j = tb y j) : un x < un y := by
  refine nat_lt_bit (i := i) hx hy (fun j hj => ?_)
  by_cases h2 : j < 64
  · exact h j hj h2
  · show tb x j = tb y j
    rw [tb_big (by omega), tb_big (by omega)]
theorem top_bit (P : Nat → Bool) : ∀ n, (∃ i, i < n ∧ P i = true) → ∃ i, i < n ∧ P i = true ∧ ∀ j, i < j → j < n → P j = false
  | 0, h => by obtain ⟨i, h, _⟩ := h; omega
  | n + 1, h => by
    by_cases hn : P n = true
    · exact ⟨n, by omega, hn, fun j h1 h2 => by omega⟩
    · obtain ⟨i, h1, h2⟩ := h
      have h3 : i < n := by
        rcases Nat.lt_or_ge i n with q | q
        · exact q
        · have : i = n := by omega
          subst this
          exact absurd h2 hn
      obtain ⟨j, a, b, d⟩ := top_bit P n ⟨i, h3, h2⟩
      refine ⟨j, by omega, b, fun q h4 h5 => ?_⟩
      by_cases h6 : q = n
      · subst h6; cases hq : P q
        · rfl
        · exact absurd hq hn
      · exact d q h4 (by omega)
/-- two different numbers: the highest bit in which they differ -/
theorem top_diff {x y : Int64} (h : x ≠ y) : ∃ i, i < 64 ∧ tb x i ≠ tb y i ∧ ∀ j, i < j → j < 64 → tb x j = tb y j := by
  have h1 : ∃ i, i < 64 ∧ (tb x i ^^ tb y i) = true := by
    apply Classical.byContradiction
    intro q
    apply h
    apply tb_ext
    intro i hi
    cases hx : tb x i <;> cases hy : tb y i
    · rfl
    · exact absurd ⟨i, hi, by rw [hx, hy]; rfl⟩ q
    · exact absurd ⟨i, hi, by rw [hx, hy]; rfl⟩ q
    · rfl
  obtain ⟨i, a, b, d⟩ := top_bit (fun i => tb x i ^^ tb y i) 64 h1
  refine ⟨i, a, ?_, fun j h1 h2 => ?_⟩
  · intro q; rw [q] at b; simp at b
  · have := d j h1 h2
    cases hx : tb x j <;> cases hy : tb y j <;> simp [hx, hy] at this ⊢
theorem un_lt_iff {x y : Int64} : un x < un y ↔ ∃ i, i < 64 ∧ tb x i = false ∧ tb y i = true ∧ ∀ j, i < j → j < 64 → tb x j = tb y j := by
  refine ⟨fun h => ?_, fun ⟨i, hi, a, b, d⟩ => un_lt_of a b d⟩
  have hne : x ≠ y := by intro q; rw [q] at h; omega
  obtain ⟨i, hi, hd, hu⟩ := top_diff hne
  cases hx : tb x i
  · cases hy : tb y i
    · rw [hx, hy] at hd; exact absurd rfl hd
    · exact ⟨i, hi, hx, hy, hu⟩
  · cases hy : tb y i
    · have := un_lt_of hy hx (fun j a b => (hu j a b).symm)
      omega
    · rw [hx, hy] at hd; exact absurd rfl hd
