/-! the numbers of sayings; the first and the last of a half -/
def kn (z : VV) (n : Int64) : Prop := mat z.1 z.2.1 n ∧ un z.2.2.1 ≤ un n ∧ un n ≤ un z.2.2.2.1 ∧ z.2.2.2.2.1.toInt ≤ n.toInt ∧ n.toInt ≤ z.2.2.2.2.2.1.toInt
theorem and_mat {b o n : Int64} (hd : apart b o) : n &&& (o ^^^ (-1 : Int64)) = b ↔ mat b o n := by
  constructor
  · intro h i hi ho
    rw [← h, tb_and, tb_not _ hi, ho]; simp
  · intro h
    apply tb_ext
    intro i hi
    rw [tb_and, tb_not _ hi]
    cases ho : tb o i
    · rw [h i hi ho]; simp
    · rw [hd i hi ho]; simp
theorem n_holds {z : VV} (n : Int64) (hd : apart z.1 z.2.1) : f_V_holds z n = @ite Int32 (z.2.2.2.2.2.2 = false ∧ kn z n) (Classical.propDecidable _) 1 0 := by
  unfold f_V_holds f_V_holds_69
  by_cases h0 : bI z.2.2.2.2.2.2 = 0
  · have e0 : z.2.2.2.2.2.2 = false := by cases h : z.2.2.2.2.2.2 <;> simp [h, bI] at h0 ⊢
    rw [if_pos h0]
    by_cases h1 : n &&& (z.2.1 ^^^ (-1 : Int64)) = z.1
    · rw [if_pos h1]
      have m1 := (and_mat hd).mp h1
      by_cases h2 : f_N_below n z.2.2.1 = 0
      · rw [if_pos h2]
        have m2 := (n_below0 _ _).mp h2
        by_cases h3 : f_N_below z.2.2.2.1 n = 0
        · rw [if_pos h3]
          have m3 := (n_below0 _ _).mp h3
          by_cases h4 : n < z.2.2.2.2.1
          · rw [if_pos h4, if_neg]
            rw [lt_un] at h4
            rintro ⟨-, -, -, -, q, -⟩; omega
          · rw [if_neg h4]
            rw [lt_un] at h4
            by_cases h5 : z.2.2.2.2.2.1 < n
            · rw [if_pos h5, if_neg]
              rw [lt_un] at h5
              rintro ⟨-, -, -, -, -, q⟩; omega
            · rw [if_neg h5, if_pos]
              rw [lt_un] at h5
              exact ⟨e0, m1, by omega, by omega, by omega, by omega⟩
        · rw [if_neg h3, if_neg]
          rintro ⟨-, -, -, q, -⟩
          exact h3 ((n_below0 _ _).mpr (by omega))
      · rw [if_neg h2, if_neg]
        rintro ⟨-, -, q, -⟩
        exact h2 ((n_below0 _ _).mpr (by omega))
    · rw [if_neg h1, if_neg]
      rintro ⟨-, q, -⟩
      exact h1 ((and_mat hd).mpr q)
  · rw [if_neg h0, if_neg]
    rintro ⟨q, -⟩
    rw [q] at h0
    exact h0 rfl
/-- bit 63 and the order of longs -/
theorem tb63 (x : Int64) : tb x 63 = decide (2 ^ 63 ≤ un x) := by
  have h := un_lt x
  rw [tb_un, Nat.testBit_eq_decide_div_mod_eq]
  congr 1
  apply propext
  omega
theorem half_le {x y : Int64} (h : tb x 63 = tb y 63) : un x ≤ un y ↔ x.toInt ≤ y.toInt := by
  have h1 := un_lt x
  have h2 := un_lt y
  rw [tb63, tb63, decide_eq_decide] at h
  rw [ti_un x, ti_un y]
  omega
theorem jmax_ti (x y : Int64) : (jmmax x y).toInt = max x.toInt y.toInt := by
  unfold jmmax
  by_cases h : y < x
  · rw [if_pos h]; rw [lt_un] at h; omega
  · rw [if_neg h]; rw [lt_un] at h; omega
theorem jmin_ti (x y : Int64) : (jmmin x y).toInt = min x.toInt y.toInt := by
  unfold jmmin
  by_cases h : y < x
  · rw [if_pos h]; rw [lt_un] at h; omega
  · rw [if_neg h]; rw [lt_un] at h; omega
/-- the sign of a half -/
def sg (s : Bool) : Int64 := if s then -9223372036854775808 else 0
theorem tb_sg (s : Bool) {i : Nat} (hi : i < 64) : tb (sg s) i = (s && decide (i = 63)) := by
  cases s
  · show tb 0 i = _
    rw [tb_0]; rfl
  · show tb (-9223372036854775808) i = _
    rw [tb_un, un_min, Nat.testBit_two_pow]
    simp [eq_comm]
theorem tb_max {i : Nat} (hi : i < 64) : tb 9223372036854775807 i = decide (i < 63) := by
  rw [tb_un, un_max, Nat.testBit_two_pow_sub_one]
/-- the pattern of a half -/
theorem half_apart {b o : Int64} (s : Bool) (hd : apart b o) : apart ((b &&& (9223372036854775807 : Int64)) ||| sg s) (o &&& (9223372036854775807 : Int64)) := by
  intro i hi ho
  rw [tb_and, tb_max hi] at ho
  rw [tb_or, tb_and, tb_max hi, tb_sg s hi]
  have h1 : tb o i = true := by cases h : tb o i <;> simp [h] at ho ⊢
  have h2 : i < 63 := by
    rcases Nat.lt_or_ge i 63 with q | q
    · exact q
    · have : ¬ i < 63 := by omega
      simp [this] at ho
  have h3 : ¬ i = 63 := by omega
  rw [hd i hi h1]
  simp [h3]
theorem half_mat {b o n : Int64} (s : Bool) : mat ((b &&& (9223372036854775807 : Int64)) ||| sg s) (o &&& (9223372036854775807 : Int64)) n ↔ (tb n 63 = s ∧ ∀ i, i < 63 → tb o i = false → tb n i = tb b i) := by
  constructor
  · intro h
    refine ⟨?_, fun i hi ho => ?_⟩
    · have := h 63 (by omega) (by rw [tb_and, tb_max (by omega)]; simp)
      rw [this, tb_or, tb_and, tb_max (by omega), tb_sg s (by omega)]; simp
    · have := h i (by omega) (by rw [tb_and, ho]; rfl)
      rw [this, tb_or, tb_and, tb_max (by omega), tb_sg s (by omega)]
      have h3 : ¬ i = 63 := by omega
      simp [hi, h3]
  · rintro ⟨h1, h2⟩ i hi ho
    rw [tb_or, tb_and, tb_max hi, tb_sg s hi]
    by_cases h3 : i = 63
    · subst h3; rw [h1]; simp
    · have h4 : i < 63 := by omega
      rw [tb_and, tb_max hi] at ho
      have h5 : tb o i = false := by cases h : tb o i <;> simp [h, h4] at ho ⊢
      rw [h2 i h4 h5]
      simp [h4, h3]
theorem kn_half {z : VV} {n : Int64} {s : Bool} (h : kn z n) (hs : tb n 63 = s) : mat ((z.1 &&& (9223372036854775807 : Int64)) ||| sg s) (z.2.1 &&& (9223372036854775807 : Int64)) n :=
  (half_mat s).mpr ⟨hs, fun i hi ho => h.1 i (by omega) ho⟩
/-- numbers with the pattern between two numbers of the same half are numbers of it, too -/
theorem kn_mid {z : VV} {a n c : Int64} {s : Bool} (ha : kn z a) (hc : kn z c) (has : tb a 63 = s) (hcs : tb c 63 = s) (hn : mat ((z.1 &&& (9223372036854775807 : Int64)) ||| sg s) (z.2.1 &&& (9223372036854775807 : Int64)) n) (h1 : un a ≤ un n) (h2 : un n ≤ un c) : kn z n := by
  obtain ⟨hns, hnb⟩ := (half_mat s).mp hn
  have e1 := (half_le (has.trans hns.symm)).mp h1
  have e2 := (half_le (hns.trans hcs.symm)).mp h2
  obtain ⟨am, a1, a2, a3, a4⟩ := ha
  obtain ⟨cm, c1, c2, c3, c4⟩ := hc
  refine ⟨fun i hi ho => ?_, by omega, by omega, by omega, by omega⟩
  by_cases h3 : i = 63
  · subst h3; rw [hns, ← has]; exact am 63 hi ho
  · exact hnb i (by omega) ho
theorem n_firstOf (z : VV) (s : Bool) (hd : apart z.1 z.2.1) : mat ((z.1 &&& (9223372036854775807 : Int64)) ||| sg s) (z.2.1 &&& (9223372036854775807 : Int64)) (f_V_firstOfHalf z (sg s)) ∧ ∀ n, kn z n → tb n 63 = s → kn z (f_V_firstOfHalf z (sg s)) ∧ un (f_V_firstOfHalf z (sg s)) ≤ un n := by
  unfold f_V_firstOfHalf f_V_firstOfHalf_15v
  generalize hf : f_N_more z.2.2.1 (jmmax z.2.2.2.2.1 (sg s)) = from9
  obtain ⟨g1, g2⟩ := n_first from9 _ _ (half_apart s hd)
  refine ⟨g1, fun n hn hs => ?_⟩
  have uf : un from9 = max (un z.2.2.1) (un (jmmax z.2.2.2.2.1 (sg s))) := by rw [← hf, un_more]
  have hj := jmax_ti z.2.2.2.2.1 (sg s)
  obtain ⟨nm, n1, n2, n3, n4⟩ := id hn
  have hl1 := un_lt n
  have hl2 := un_lt (jmmax z.2.2.2.2.1 (sg s))
  have hl3 := un_lt z.2.2.2.2.1
  have tn := ti_un n
  have tj := ti_un (jmmax z.2.2.2.2.1 (sg s))
  have tl := ti_un z.2.2.2.2.1
  have h63 := tb63 n
  rw [hs] at h63
  have hle : un from9 ≤ un n := by
    rw [uf]
    cases s
    · have hsg : (sg false).toInt = 0 := by decide
      rw [hsg] at hj
      have : ¬ 2 ^ 63 ≤ un n := by intro q; simp [q] at h63
      omega
    · have hsg : (sg true).toInt = -9223372036854775808 := by decide
      rw [hsg] at hj
      have : 2 ^ 63 ≤ un n := by
        apply Classical.byContradiction
        intro q; simp [q] at h63
      omega
  obtain ⟨q1, q2⟩ := g2 n (kn_half hn hs) hle
  refine ⟨?_, q2⟩
  generalize f_N_firstFrom from9 ((z.1 &&& (9223372036854775807 : Int64)) ||| sg s) (z.2.1 &&& (9223372036854775807 : Int64)) = f at g1 q1 q2
  obtain ⟨hfs, hfb⟩ := (half_mat s).mp g1
  have e2 := (half_le (hfs.trans hs.symm)).mp q2
  have tf := ti_un f
  have h63f := tb63 f
  rw [hfs] at h63f
  have hlf := un_lt f
  refine ⟨fun i hi ho => ?_, by omega, by omega, ?_, by omega⟩
  · by_cases h3 : i = 63
    · subst h3; rw [hfs, ← hs]; exact nm 63 hi ho
    · exact hfb i (by omega) ho
  · rw [uf] at q1
    cases s
    · have hsg : (sg false).toInt = 0 := by decide
      rw [hsg] at hj
      have : ¬ 2 ^ 63 ≤ un f := by intro q; simp [q] at h63f
      omega
    · have hsg : (sg true).toInt = -9223372036854775808 := by decide
      rw [hsg] at hj
      have : 2 ^ 63 ≤ un f := by
        apply Classical.byContradiction
        intro q; simp [q] at h63f
      have : 2 ^ 63 ≤ un n := by
        apply Classical.byContradiction
        intro q; simp [q] at h63
      omega
