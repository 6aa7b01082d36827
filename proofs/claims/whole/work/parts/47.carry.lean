/-! carries and borrows -/
def maj (a b c : Bool) : Bool := (a && b) || (a && c) || (b && c)
def bor (a b c : Bool) : Bool := (!a && b) || (!a && c) || (b && c)
def cyA (x y : Int64) : Nat → Bool
  | 0 => false
  | k + 1 => maj (tb x k) (tb y k) (cyA x y k)
def bwA (x y : Int64) : Nat → Bool
  | 0 => false
  | k + 1 => bor (tb x k) (tb y k) (bwA x y k)
theorem cyA_carry (x y : Int64) : ∀ k, BitVec.carry k x.toBitVec y.toBitVec false = cyA x y k
  | 0 => by rw [BitVec.carry_zero]; rfl
  | k + 1 => by
    rw [BitVec.carry_succ, cyA_carry x y k]
    show Bool.atLeastTwo (tb x k) (tb y k) (cyA x y k) = maj (tb x k) (tb y k) (cyA x y k)
    cases tb x k <;> cases tb y k <;> cases cyA x y k <;> rfl
theorem tb_add (x y : Int64) {i : Nat} (hi : i < 64) : tb (x + y) i = (tb x i ^^ (tb y i ^^ cyA x y i)) := by
  show (x + y).toBitVec.getLsbD i = _
  rw [Int64.toBitVec_add, BitVec.getLsbD_add hi, cyA_carry]
  rfl
theorem sub_add9 (x y : Int64) : x - y + y = x := un_inj (by
  have h1 := un_lt x
  have h2 := un_lt y
  rw [un_add, un_sub]; omega)
theorem bw_cy (x y : Int64) : ∀ k, k ≤ 64 → cyA (x - y) y k = bwA x y k
  | 0, _ => rfl
  | k + 1, hk => by
    have ih := bw_cy x y k (by omega)
    have h := tb_add (x - y) y (i := k) (by omega)
    rw [sub_add9, ih] at h
    show maj (tb (x - y) k) (tb y k) (cyA (x - y) y k) = bor (tb x k) (tb y k) (bwA x y k)
    rw [ih, h]
    cases tb (x - y) k <;> cases tb y k <;> cases bwA x y k <;> rfl
theorem tb_sub (x y : Int64) {i : Nat} (hi : i < 64) : tb (x - y) i = (tb x i ^^ (tb y i ^^ bwA x y i)) := by
  have h := tb_add (x - y) y hi
  rw [sub_add9, bw_cy x y i (by omega)] at h
  rw [h]
  cases tb (x - y) i <;> cases tb y i <;> cases bwA x y i <;> rfl
theorem cy_no {x y : Int64} (h : ∀ i, i < 64 → tb y i = true → tb x i = false) : ∀ k, k ≤ 64 → cyA x y k = false
  | 0, _ => rfl
  | k + 1, hk => by
    show maj (tb x k) (tb y k) (cyA x y k) = false
    rw [cy_no h k (by omega)]
    cases hy : tb y k
    · cases tb x k <;> rfl
    · rw [h k (by omega) hy]; rfl
theorem add_or {x u : Int64} (h : apart x u) : x + u = x ||| u := tb_ext (fun i hi => by
  rw [tb_add _ _ hi, tb_or, cy_no h i (by omega)]
  cases hu : tb u i
  · simp
  · rw [h i hi hu]; rfl)
/-- the carries of all sums lie between those of two -/
theorem cy_mono {x y x' y' : Int64} (hx : ∀ i, i < 64 → tb x i = true → tb x' i = true) (hy : ∀ i, i < 64 → tb y i = true → tb y' i = true) : ∀ k, k ≤ 64 → cyA x y k = true → cyA x' y' k = true
  | 0, _, h => by cases h
  | k + 1, hk, h => by
    have ih := cy_mono hx hy k (by omega)
    have h1 := hx k (by omega)
    have h2 := hy k (by omega)
    have h : maj (tb x k) (tb y k) (cyA x y k) = true := h
    show maj (tb x' k) (tb y' k) (cyA x' y' k) = true
    revert h h1 h2 ih
    cases tb x k <;> cases tb y k <;> cases cyA x y k <;> cases tb x' k <;> cases tb y' k <;> cases cyA x' y' k <;> simp [maj]
theorem bw_mono {x y x' y' : Int64} (hx : ∀ i, i < 64 → tb x' i = true → tb x i = true) (hy : ∀ i, i < 64 → tb y i = true → tb y' i = true) : ∀ k, k ≤ 64 → bwA x y k = true → bwA x' y' k = true
  | 0, _, h => by cases h
  | k + 1, hk, h => by
    have ih := bw_mono hx hy k (by omega)
    have h1 := hx k (by omega)
    have h2 := hy k (by omega)
    have h : bor (tb x k) (tb y k) (bwA x y k) = true := h
    show bor (tb x' k) (tb y' k) (bwA x' y' k) = true
    revert h h1 h2 ih
    cases tb x k <;> cases tb y k <;> cases bwA x y k <;> cases tb x' k <;> cases tb y' k <;> cases bwA x' y' k <;> simp [bor]
theorem bit_val (x : Int64) {n : Nat} (hn : n < 64) : ((x.toUInt64 >>> ((nI n).toInt64.toUInt64 &&& Int64.toUInt64 63)).toInt64 &&& (1 : Int64)) = if tb x n = true then 1 else 0 := by
  by_cases h : tb x n = true
  · rw [if_pos h, eq_un, un_and, un_1, Nat.and_one_is_mod, un_ushr' x hn]
    rw [tb_un, Nat.testBit_eq_decide_div_mod_eq] at h
    exact of_decide_eq_true h
  · rw [if_neg h]
    exact (bit_at x hn).mpr (by cases h' : tb x n <;> simp [h'] at h ⊢)
theorem m_mayBe0 (r : Nat → VV) (p : Nat) {k : Nat} (hk : k < 64) : f_M_mayBe r p (nI k) 0 = (tb (r p).2.1 k || !tb (r p).1 k) := by
  unfold f_M_mayBe f_M_mayBe_30
  rw [bit_val _ hk, bit_val _ hk]
  cases tb (r p).2.1 k <;> cases tb (r p).1 k <;> rfl
theorem m_mayBe1 (r : Nat → VV) (p : Nat) {k : Nat} (hk : k < 64) : f_M_mayBe r p (nI k) 1 = (tb (r p).2.1 k || tb (r p).1 k) := by
  unfold f_M_mayBe f_M_mayBe_30
  rw [bit_val _ hk, bit_val _ hk]
  cases tb (r p).2.1 k <;> cases tb (r p).1 k <;> rfl
/-! one of the eight ways of a bit -/
section sb
variable (r : Nat → VV) (mi : Bool) (k : Int32) (one zero : Bool) (U V : Int64) (t : Int32) (nO nZ iO iZ : Bool) (k14 : Int32 → Bool → Bool → Int64 → Int64 → (Nat → VV)) (k36 : Int32 → Bool → Bool → Bool → Bool → (Nat → VV))
theorem sb_216 (c o z s : Bool) : f_M_sumBits_216 r mi k one zero U V t nO nZ iO iZ k14 k36 c o z s = k36 (t + 1) s (nZ || !c) o z := by
  unfold f_M_sumBits_216 f_M_sumBits_228 f_M_sumBits_233 f_M_sumBits_235
  cases nZ <;> cases c <;> rfl
theorem sb_199 (o z s : Bool) : f_M_sumBits_199 r mi k one zero U V t nO nZ iO iZ k14 k36 o z s = k36 (t + 1) (nO || s) (nZ || !s) o z := by
  unfold f_M_sumBits_199 f_M_sumBits_211
  rw [sb_216, sb_216]
  cases nO <;> cases s <;> rfl
theorem sb_169 (z : Bool) (s : Int32) (o : Bool) : f_M_sumBits_169 r mi k one zero U V t nO nZ iO iZ k14 k36 z s o = k36 (t + 1) (nO || (if mi = true then !decide (0 ≤ s) else !decide (s ≤ 1))) (nZ || !(if mi = true then !decide (0 ≤ s) else !decide (s ≤ 1))) o z := by
  unfold f_M_sumBits_169
  rw [sb_199, sb_199]
  cases mi
  · by_cases h : s ≤ 1 <;> simp [h]
  · by_cases h : 0 ≤ s <;> simp [h]
theorem sb_130 (s : Int32) : f_M_sumBits_130 r mi k one zero U V t nO nZ iO iZ k14 k36 s = k36 (t + 1) (nO || (if mi = true then !decide (0 ≤ s) else !decide (s ≤ 1))) (nZ || !(if mi = true then !decide (0 ≤ s) else !decide (s ≤ 1))) (iO || decide (s &&& 1 = 1)) (iZ || decide (s &&& 1 = 0)) := by
  unfold f_M_sumBits_130 f_M_sumBits_144 f_M_sumBits_149 f_M_sumBits_164
  simp only [sb_169]
  rcases Classical.propComplete (s &&& 1 = 1) with h1 | h1 <;> rcases Classical.propComplete (s &&& 1 = 0) with h0 | h0 <;> cases iZ <;> cases iO <;> simp only [h1, h0, if_true, if_false, decide_true, decide_false, Bool.or_true, Bool.or_false, Bool.false_or, Bool.true_or, Bool.false_eq_true]
theorem sb_61 (c y x : Int32) (bx by' bc : Bool) (hx : f_M_mayBe r 16 k x = bx) (hy : f_M_mayBe r 17 k y = by') (hc : (if c = 0 then zero else one) = bc) : f_M_sumBits_61v r mi k one zero U V t nO nZ iO iZ k14 k36 c y x = k36 (t + 1) (nO || (bx && by' && bc && (if mi = true then !decide (0 ≤ x - y - c) else !decide (x + y + c ≤ 1)))) (nZ || (bx && by' && bc && !(if mi = true then !decide (0 ≤ x - y - c) else !decide (x + y + c ≤ 1)))) (iO || (bx && by' && bc && decide ((if mi = true then x - y - c else x + y + c) &&& 1 = 1))) (iZ || (bx && by' && bc && decide ((if mi = true then x - y - c else x + y + c) &&& 1 = 0))) := by
  unfold f_M_sumBits_61v f_M_sumBits_107 f_M_sumBits_235
  rw [hx, hy]
  simp only [sb_130]
  cases bx <;> cases by' <;> simp only [if_true, if_false, Bool.false_eq_true, Bool.false_and, Bool.and_false, Bool.or_false]
  subst hc
  by_cases h : c = 0
  · rw [if_pos h, if_pos h]
    cases zero <;> cases mi <;> simp only [if_true, if_false, Bool.false_eq_true, Bool.true_and, Bool.false_and, Bool.and_false, Bool.or_false]
  · rw [if_neg h, if_neg h]
    cases one <;> cases mi <;> simp only [if_true, if_false, Bool.false_eq_true, Bool.true_and, Bool.false_and, Bool.and_false, Bool.or_false]
end sb

/-- the eight ways together: which carries may come (one, zero), which may go on -/
theorem sb_eight (r : Nat → VV) (mi : Bool) {K : Nat} (hK : K < 64) (one zero : Bool) (U V : Int64) (k14 : Int32 → Bool → Bool → Int64 → Int64 → (Nat → VV)) (bx ux by' uy : Bool) (h1 : tb (r 16).1 K = bx) (h2 : tb (r 16).2.1 K = ux) (h3 : tb (r 17).1 K = by') (h4 : tb (r 17).2.1 K = uy) (nO nZ iO iZ : Bool)
    (hnO : nO = (((ux || !bx) && (uy || !by') && ((zero && false) || (one && mi))) || ((ux || bx) && (uy || !by') && ((zero && false) || (one && !mi))) || ((ux || !bx) && (uy || by') && ((zero && mi) || one)) || ((ux || bx) && (uy || by') && ((zero && !mi) || one))))
    (hnZ : nZ = (((ux || !bx) && (uy || !by') && (zero || (one && !mi))) || ((ux || bx) && (uy || !by') && (zero || (one && mi))) || ((ux || !bx) && (uy || by') && ((zero && !mi) || false)) || ((ux || bx) && (uy || by') && ((zero && mi) || false))))
    (hiO : iO = (((ux || !bx) && (uy || !by') && one) || ((ux || bx) && (uy || !by') && zero) || ((ux || !bx) && (uy || by') && zero) || ((ux || bx) && (uy || by') && one)))
    (hiZ : iZ = (((ux || !bx) && (uy || !by') && zero) || ((ux || bx) && (uy || !by') && one) || ((ux || !bx) && (uy || by') && one) || ((ux || bx) && (uy || by') && zero))) :
    f_M_sumBits_36 r mi (nI K) one zero U V k14 9 0 false false false false = k14 (nI K + 1) nO nZ (if (iZ && iO) = true then U ||| ((1 : Int64) <<< ((nI K).toInt64 &&& 63)) else U) (if (iO && !iZ) = true then V ||| ((1 : Int64) <<< ((nI K).toInt64 &&& 63)) else V) := by
  have a0 := m_mayBe0 r 16 hK
  have a1 := m_mayBe1 r 16 hK
  have b0 := m_mayBe0 r 17 hK
  have b1 := m_mayBe1 r 17 hK
  rw [h1, h2] at a0 a1
  rw [h3, h4] at b0 b1
  have st : ∀ (T : Int32) (m : Nat) (x y c : Int32) (p q s : Bool) (w1 w2 w3 w4 : Bool), ¬ 8 ≤ T → T &&& 1 = x → (T >>> ((1 : Int32) &&& 31)) &&& 1 = y → T >>> ((2 : Int32) &&& 31) = c → f_M_mayBe r 16 (nI K) x = p → f_M_mayBe r 17 (nI K) y = q → (if c = 0 then zero else one) = s → f_M_sumBits_36 r mi (nI K) one zero U V k14 (m + 1) T w1 w2 w3 w4 = f_M_sumBits_36 r mi (nI K) one zero U V k14 m (T + 1) (w1 || (p && q && s && (if mi = true then !decide (0 ≤ x - y - c) else !decide (x + y + c ≤ 1)))) (w2 || (p && q && s && !(if mi = true then !decide (0 ≤ x - y - c) else !decide (x + y + c ≤ 1)))) (w3 || (p && q && s && decide ((if mi = true then x - y - c else x + y + c) &&& 1 = 1))) (w4 || (p && q && s && decide ((if mi = true then x - y - c else x + y + c) &&& 1 = 0))) := by
    intro T m x y c p q s w1 w2 w3 w4 g1 g2 g3 g4 g5 g6 g7
    rw [f_M_sumBits_36, if_neg g1]
    unfold f_M_sumBits_47v f_M_sumBits_55v
    rw [g2, g3, g4]
    exact sb_61 r mi (nI K) one zero U V T w1 w2 w3 w4 k14 _ c y x p q s g5 g6 g7
  rw [st 0 8 0 0 0 _ _ zero _ _ _ _ (by decide) (by decide) (by decide) (by decide) a0 b0 rfl,
    st _ 7 1 0 0 _ _ zero _ _ _ _ (by decide) (by decide) (by decide) (by decide) a1 b0 rfl,
    st _ 6 0 1 0 _ _ zero _ _ _ _ (by decide) (by decide) (by decide) (by decide) a0 b1 rfl,
    st _ 5 1 1 0 _ _ zero _ _ _ _ (by decide) (by decide) (by decide) (by decide) a1 b1 rfl,
    st _ 4 0 0 1 _ _ one _ _ _ _ (by decide) (by decide) (by decide) (by decide) a0 b0 rfl,
    st _ 3 1 0 1 _ _ one _ _ _ _ (by decide) (by decide) (by decide) (by decide) a1 b0 rfl,
    st _ 2 0 1 1 _ _ one _ _ _ _ (by decide) (by decide) (by decide) (by decide) a0 b1 rfl,
    st _ 1 1 1 1 _ _ one _ _ _ _ (by decide) (by decide) (by decide) (by decide) a1 b1 rfl]
  rw [f_M_sumBits_36, if_pos (by decide)]
  have fin : ∀ (w1 w2 w3 w4 : Bool), w1 = nO → w2 = nZ → w3 = iO → w4 = iZ → (if w4 = true then (if w3 = true then f_M_sumBits_263 r mi (nI K) one zero U V k14 w1 w2 w3 w4 (U ||| ((1 : Int64) <<< ((nI K).toInt64 &&& 63))) else f_M_sumBits_261 r mi (nI K) one zero U V k14 w1 w2 w3 w4) else f_M_sumBits_261 r mi (nI K) one zero U V k14 w1 w2 w3 w4) = k14 (nI K + 1) nO nZ (if (iZ && iO) = true then U ||| ((1 : Int64) <<< ((nI K).toInt64 &&& 63)) else U) (if (iO && !iZ) = true then V ||| ((1 : Int64) <<< ((nI K).toInt64 &&& 63)) else V) := by
    intro w1 w2 w3 w4 e1 e2 e3 e4
    rw [e1, e2, e3, e4]
    unfold f_M_sumBits_261 f_M_sumBits_263 f_M_sumBits_284 f_M_sumBits_285
    cases iO <;> cases iZ <;> rfl
  refine fin _ _ _ _ ?_ ?_ ?_ ?_
  · rw [hnO]; cases mi <;> cases bx <;> cases ux <;> cases by' <;> cases uy <;> cases one <;> cases zero <;> decide
  · rw [hnZ]; cases mi <;> cases bx <;> cases ux <;> cases by' <;> cases uy <;> cases one <;> cases zero <;> decide
  · rw [hiO]; cases mi <;> cases bx <;> cases ux <;> cases by' <;> cases uy <;> cases one <;> cases zero <;> decide
  · rw [hiZ]; cases mi <;> cases bx <;> cases ux <;> cases by' <;> cases uy <;> cases one <;> cases zero <;> decide
