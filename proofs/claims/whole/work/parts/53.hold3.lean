/-! multiplication holds the witness -/
theorem low_mod {a b : Int64} {k : Nat} (h : ∀ i, i < k → i < 64 → tb a i = tb b i) : un a % 2 ^ k = un b % 2 ^ k := by
  apply Nat.eq_of_testBit_eq
  intro j
  rw [Nat.testBit_mod_two_pow, Nat.testBit_mod_two_pow]
  by_cases hj : j < k
  · simp only [hj, decide_true, Bool.true_and]
    by_cases h64 : j < 64
    · exact h j hj h64
    · rw [← tb_un, ← tb_un, tb_big (by omega), tb_big (by omega)]
  · simp [hj]
theorem low_dvd {a b : Int64} {k : Nat} (h : ∀ i, i < k → i < 64 → tb a i = tb b i) : ((2 ^ k : Nat) : Int) ∣ (un a : Int) - (un b : Int) := by
  have e := low_mod h
  apply Int.dvd_of_emod_eq_zero
  apply Int.emod_eq_emod_iff_emod_sub_eq_zero.mp
  rw [← Int.natCast_emod, ← Int.natCast_emod, e]
theorem zero_dvd' {a : Int64} {k : Nat} (h : ∀ i, i < k → i < 64 → tb a i = false) : ((2 ^ k : Nat) : Int) ∣ (un a : Int) := by
  have := low_dvd (a := a) (b := 0) (k := k) (fun i h1 h2 => by rw [h i h1 h2, tb_0])
  rw [un_0] at this
  simpa using this
theorem mul_low {x y v w : Int64} {kx zx ky zy N : Nat} (h1 : ∀ i, i < kx → i < 64 → tb v i = tb x i) (h2 : ∀ i, i < ky → i < 64 → tb w i = tb y i) (h3 : ∀ i, i < zx → i < 64 → tb x i = false) (h4 : ∀ i, i < zy → i < 64 → tb w i = false) (hN1 : N ≤ kx + zy) (hN2 : N ≤ ky + zx) : ∀ i, i < N → i < 64 → tb (v * w) i = tb (x * y) i := by
  intro i hi h64
  have d1 : ((2 ^ N : Nat) : Int) ∣ ((un v : Int) - un x) * un w := by
    refine Int.dvd_trans ?_ (Int.mul_dvd_mul (low_dvd h1) (zero_dvd' h4))
    rw [← Int.natCast_mul, ← Nat.pow_add]
    exact Int.natCast_dvd_natCast.mpr (Nat.pow_dvd_pow 2 hN1)
  have d2 : ((2 ^ N : Nat) : Int) ∣ (un x : Int) * ((un w : Int) - un y) := by
    refine Int.dvd_trans ?_ (Int.mul_dvd_mul (zero_dvd' h3) (low_dvd h2))
    rw [← Int.natCast_mul, ← Nat.pow_add]
    exact Int.natCast_dvd_natCast.mpr (Nat.pow_dvd_pow 2 (by omega))
  have d3 := Int.dvd_add d1 d2
  have e1 : ((un v : Int) - un x) * un w + (un x : Int) * ((un w : Int) - un y) = ((un v * un w : Nat) : Int) - ((un x * un y : Nat) : Int) := by
    rw [Int.sub_mul, Int.mul_sub, Int.natCast_mul, Int.natCast_mul]; omega
  rw [e1] at d3
  have e2 := Int.emod_eq_emod_iff_emod_sub_eq_zero.mpr (Int.emod_eq_zero_of_dvd d3)
  rw [← Int.natCast_emod, ← Int.natCast_emod] at e2
  have e3 : un v * un w % 2 ^ N = un x * un y % 2 ^ N := Int.ofNat_inj.mp e2
  have t : ∀ a b : Int64, tb (a * b) i = (un a * un b % 2 ^ N).testBit i := fun a b => by
    rw [tb_un, un_mul, Nat.testBit_mod_two_pow, Nat.testBit_mod_two_pow]
    simp [hi, h64]
  rw [t, t, e3]
theorem lin_min {a b v w : Int} (h1 : a ≤ v) (h2 : v ≤ b) : min (a * w) (b * w) ≤ v * w ∧ v * w ≤ max (a * w) (b * w) := by
  rcases Int.le_total 0 w with q | q
  · have e1 := Int.mul_le_mul_of_nonneg_right h1 q
    have e2 := Int.mul_le_mul_of_nonneg_right h2 q
    omega
  · have e1 := Int.mul_le_mul_of_nonpos_right h1 q
    have e2 := Int.mul_le_mul_of_nonpos_right h2 q
    omega
theorem corners {a b c d v w : Int} (h1 : a ≤ v) (h2 : v ≤ b) (h3 : c ≤ w) (h4 : w ≤ d) : min (min (a * c) (a * d)) (min (b * c) (b * d)) ≤ v * w ∧ v * w ≤ max (max (a * c) (a * d)) (max (b * c) (b * d)) := by
  have e1 := lin_min (w := w) h1 h2
  have e2 := lin_min (w := a) h3 h4
  have e3 := lin_min (w := b) h3 h4
  rw [Int.mul_comm c a, Int.mul_comm d a, Int.mul_comm w a] at e2
  rw [Int.mul_comm c b, Int.mul_comm d b, Int.mul_comm w b] at e3
  generalize a * c = ac at *
  generalize a * d = ad at *
  generalize b * c = bc at *
  generalize b * d = bd at *
  generalize a * w = aw at *
  generalize b * w = bw at *
  generalize v * w = vw at *
  omega
theorem ti_jmin (x y : Int64) : (jmmin x y).toInt = min x.toInt y.toInt := by
  unfold jmmin
  by_cases h : y < x
  · rw [if_pos h]; have := (lt_un _ _).mp h; omega
  · rw [if_neg h]; have := mt (lt_un y x).mpr h; omega
theorem ti_jmax (x y : Int64) : (jmmax x y).toInt = max x.toInt y.toInt := by
  unfold jmmax
  by_cases h : y < x
  · rw [if_pos h]; have := (lt_un _ _).mp h; omega
  · rw [if_neg h]; have := mt (lt_un y x).mpr h; omega
theorem nI_min {a b : Nat} (ha : a < 2 ^ 31) (hb : b < 2 ^ 31) : jnmin (nI a) (nI b) = nI (min a b) := by
  unfold jnmin
  by_cases h : b < a
  · rw [if_pos ((nI_ltI hb ha).mpr h), Nat.min_eq_right (by omega)]
  · rw [if_neg (fun q => h ((nI_ltI hb ha).mp q)), Nat.min_eq_left (by omega)]
theorem tb_lowest' {n : Nat} (hn : n < 2 ^ 31) {i : Nat} (hi : i < 64) : tb (f_N_lowest (nI n)) i = decide (i < n) := by
  by_cases h : n ≤ 64
  · exact tb_lowest h i
  · unfold f_N_lowest
    rw [if_neg (fun q => by have := (nI_ltI (b := 64) hn (by decide)).mp q; omega), tb_m1 hi]
    exact (decide_eq_true (by omega)).symm
theorem mul_hld {x y : VV} {v w : Int64} (hx : hld x v) (hy : hld y w) {z : VV} (hz : hld z (v * w)) : hld (f_O_multiplication z x y) (v * w) := by
  obtain ⟨kx, kx1, kx2, kx3, -⟩ := zerosAtEnd_iff x.2.1
  obtain ⟨zx, zx1, zx2, zx3, -⟩ := zerosAtEnd_iff (x.1 ||| x.2.1)
  obtain ⟨ky, ky1, ky2, ky3, -⟩ := zerosAtEnd_iff y.2.1
  obtain ⟨zy, zy1, zy2, zy3, -⟩ := zerosAtEnd_iff (y.1 ||| y.2.1)
  unfold f_O_multiplication f_O_multiplication_9v f_O_multiplication_19v f_O_knownBelow f_O_zerosBelow
  rw [kx2, zx2, ky2, zy2, nI_add, nI_add, nI_min (by omega) (by omega)]
  have hB : hld (f_V_sayBits z (x.1 * y.1) (f_N_lowest (nI (min (kx + zy) (ky + zx))) ^^^ (-1 : Int64))) (v * w) := by
    refine hld_B hz (fun i hi ho => ?_)
    rw [tb_not _ hi, tb_lowest' (by omega) hi] at ho
    have hlt : i < min (kx + zy) (ky + zx) := by simpa using ho
    refine mul_low (kx := kx) (zx := zx) (ky := ky) (zy := zy) (N := min (kx + zy) (ky + zx)) (fun j h1 h2 => hx.2.2.1 j h2 (kx3 j h1)) (fun j h1 h2 => hy.2.2.1 j h2 (ky3 j h1)) (fun j h1 h2 => ?_) (fun j h1 h2 => ?_) (by omega) (by omega) i hlt hi
    · have := zx3 j h1
      rw [tb_or, Bool.or_eq_false_iff] at this
      exact this.1
    · have := zy3 j h1
      rw [tb_or, Bool.or_eq_false_iff] at this
      rw [hy.2.2.1 j h2 this.2]
      exact this.1
  generalize f_V_sayBits z (x.1 * y.1) (f_N_lowest (nI (min (kx + zy) (ky + zx))) ^^^ (-1 : Int64)) = Z at hB ⊢
  clear kx2 zx2 ky2 zy2 kx3 zx3 ky3 zy3
  obtain ⟨-, -, -, a1, a2, a3, a4⟩ := hx
  obtain ⟨-, -, -, b1, b2, b3, b4⟩ := hy
  have tail : ∀ Y : VV, hld Y (v * w) → hld (f_O_multiplication_83 z x y Y.1 Y.2.1 Y.2.2.1 Y.2.2.2.1 Y.2.2.2.2.1 Y.2.2.2.2.2.1 Y.2.2.2.2.2.2) (v * w) := fun Y hY => by
    unfold f_O_multiplication_83 f_O_multiplication_148v f_O_multiplication_159v f_O_multiplication_170v f_O_multiplication_181v f_O_multiplication_218g
    simp only [n_productFits]
    by_cases c1 : -2 ^ 63 ≤ x.2.2.2.2.1.toInt * y.2.2.2.2.1.toInt ∧ x.2.2.2.2.1.toInt * y.2.2.2.2.1.toInt < 2 ^ 63
    · rw [if_pos c1]
      by_cases c2 : -2 ^ 63 ≤ x.2.2.2.2.1.toInt * y.2.2.2.2.2.1.toInt ∧ x.2.2.2.2.1.toInt * y.2.2.2.2.2.1.toInt < 2 ^ 63
      · rw [if_pos c2]
        by_cases c3 : -2 ^ 63 ≤ x.2.2.2.2.2.1.toInt * y.2.2.2.2.1.toInt ∧ x.2.2.2.2.2.1.toInt * y.2.2.2.2.1.toInt < 2 ^ 63
        · rw [if_pos c3]
          by_cases c4 : -2 ^ 63 ≤ x.2.2.2.2.2.1.toInt * y.2.2.2.2.2.1.toInt ∧ x.2.2.2.2.2.1.toInt * y.2.2.2.2.2.1.toInt < 2 ^ 63
          · rw [if_pos c4]
            have q := corners a3 a4 b3 b4
            have e : (v * w).toInt = v.toInt * w.toInt := ti_mul_in (by omega)
            have f1 := ti_mul_in c1
            have f2 := ti_mul_in c2
            have f3 := ti_mul_in c3
            have f4 := ti_mul_in c4
            refine hld_S hY ?_ ?_
            · rw [ti_jmin, ti_jmin, ti_jmin, f1, f2, f3, f4, e]; exact q.1
            · rw [ti_jmax, ti_jmax, ti_jmax, f1, f2, f3, f4, e]; exact q.2
          · rw [if_neg c4]; exact hY
        · rw [if_neg c3]; exact hY
      · rw [if_neg c2]; exact hY
    · rw [if_neg c1]; exact hY
  unfold f_O_multiplication_44g f_O_multiplication_80g
  rw [n_ufits]
  by_cases c : un x.2.2.2.1 * un y.2.2.2.1 < 2 ^ 64
  · rw [if_pos c]
    have m1 : un x.2.2.1 * un y.2.2.1 ≤ un v * un w := Nat.mul_le_mul a1 b1
    have m2 : un v * un w ≤ un x.2.2.2.1 * un y.2.2.2.1 := Nat.mul_le_mul a2 b2
    refine tail _ (hld_U hB ?_ ?_)
    · rw [un_mul, un_mul, Nat.mod_eq_of_lt (by omega), Nat.mod_eq_of_lt (by omega)]; exact m1
    · rw [un_mul, un_mul, Nat.mod_eq_of_lt (by omega), Nat.mod_eq_of_lt (by omega)]; exact m2
  · rw [if_neg c]; exact tail _ hB
