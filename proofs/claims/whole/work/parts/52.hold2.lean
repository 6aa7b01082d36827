/-! subtraction, division, remainder, and, or, xor hold the witness -/
theorem b_sub3 : ∀ u t a b c : Bool, (u || t || (a ^^ c)) = false → (a = true → b = true) → (b = true → c = true) → a = b := by decide
theorem b_and : ∀ a b c d m n : Bool, (b = false → m = a) → (d = false → n = c) → (b = true → a = false) → (d = true → c = false) → ((a || b) && (c || d) && !(a && c)) = false → (m && n) = (a && c) := by decide
theorem b_or : ∀ a b c d m n : Bool, (b = false → m = a) → (d = false → n = c) → (b = true → a = false) → (d = true → c = false) → ((b || d) && !(a || c)) = false → (m || n) = (a || c) := by decide
theorem b_xor : ∀ a b c d m n : Bool, (b = false → m = a) → (d = false → n = c) → (b || d) = false → (m ^^ n) = (a ^^ c) := by decide
theorem sub_sound' {x y : VV} (hx : apart x.1 x.2.1) (hy : apart y.1 y.2.1) {m n : Int64} (hm : mat x.1 x.2.1 m) (hn : mat y.1 y.2.1 n) : ∀ i, i < 64 → tb (((x.1 - y.1 + x.2.1) ^^^ (x.1 - y.1 - y.2.1)) ||| x.2.1 ||| y.2.1) i = false → tb (m - n) i = tb (x.1 - y.1) i := by
  intro i hi h
  rw [sub_sound hx hy hm hn i hi h, tb_sub _ _ hi]
  have h1 := (sub_bits hx hy).1 i hi
  rw [h] at h1
  have m1 : bwA (x.1 ||| x.2.1) y.1 i = true → bwA x.1 y.1 i = true := bw_mono (fun j _ hj => by rw [tb_or, hj]; rfl) (fun j _ hj => hj) i (by omega)
  have m2 : bwA x.1 y.1 i = true → bwA x.1 (y.1 ||| y.2.1) i = true := bw_mono (fun j _ hj => hj) (fun j _ hj => by rw [tb_or, hj]; rfl) i (by omega)
  rw [b_sub3 _ _ _ _ _ h1.symm m1 m2]
theorem sub_hld {x y : VV} {v w : Int64} (hx : hld x v) (hy : hld y w) {z : VV} (hz : hld z (v - w)) : hld (f_O_subtraction z x y) (v - w) := by
  have hB : hld (f_V_sayBits z (x.1 - y.1) (((x.1 - y.1 + x.2.1) ^^^ (x.1 - y.1 - y.2.1)) ||| x.2.1 ||| y.2.1)) (v - w) := hld_B hz (sub_sound' hx.1 hy.1 hx.2.2.1 hy.2.2.1)
  unfold f_O_subtraction f_O_subtraction_9v f_O_subtraction_23v f_O_subtraction_39g
  generalize f_V_sayBits z (x.1 - y.1) (((x.1 - y.1 + x.2.1) ^^^ (x.1 - y.1 - y.2.1)) ||| x.2.1 ||| y.2.1) = Z at hB ⊢
  obtain ⟨-, -, -, a1, a2, a3, a4⟩ := hx
  obtain ⟨-, -, -, b1, b2, b3, b4⟩ := hy
  have tail : ∀ Y : VV, hld Y (v - w) → hld (f_O_subtraction_89 z x y Y.1 Y.2.1 Y.2.2.1 Y.2.2.2.1 Y.2.2.2.2.1 Y.2.2.2.2.2.1 Y.2.2.2.2.2.2) (v - w) := fun Y hY => by
    unfold f_O_subtraction_89 f_O_subtraction_136g
    simp only [n_differenceFits]
    by_cases c1 : -2 ^ 63 ≤ x.2.2.2.2.1.toInt - y.2.2.2.2.2.1.toInt ∧ x.2.2.2.2.1.toInt - y.2.2.2.2.2.1.toInt < 2 ^ 63
    · rw [if_pos c1]
      by_cases c2 : -2 ^ 63 ≤ x.2.2.2.2.2.1.toInt - y.2.2.2.2.1.toInt ∧ x.2.2.2.2.2.1.toInt - y.2.2.2.2.1.toInt < 2 ^ 63
      · rw [if_pos c2]
        have e1 := ti_sub_in c1
        have e2 := ti_sub_in c2
        have e3 := ti_sub_in (x := v) (y := w) (by omega)
        exact hld_S hY (by omega) (by omega)
      · rw [if_neg c2]; exact hY
    · rw [if_neg c1]; exact hY
  unfold f_O_subtraction_86g
  refine hld_if (fun c => ?_) (fun c => ?_)
  · refine tail _ (hld_U hB ?_ ?_)
    all_goals
      simp only [n_below] at c
      simp only [un_sub] at c ⊢
      have := un_lt x.2.2.1; have := un_lt x.2.2.2.1; have := un_lt y.2.2.1; have := un_lt y.2.2.2.1
      by_cases q1 : un x.2.2.1 < un y.2.2.2.1 <;> by_cases q2 : un x.2.2.2.1 < un y.2.2.1
      · omega
      · rw [if_pos q1, if_neg q2] at c; cases c
      · rw [if_neg q1, if_pos q2] at c; cases c
      · omega
  · exact tail _ hB
theorem div_hld {x y : VV} {v w : Int64} (hx : hld x v) (hy : hld y w) {z : VV} (hz : hld z (f_N_quotient v w)) : hld (f_O_division z x y) (f_N_quotient v w) := by
  obtain ⟨-, -, -, a1, a2, a3, a4⟩ := hx
  obtain ⟨-, -, -, b1, b2, b3, b4⟩ := hy
  unfold f_O_division f_O_division_15g f_O_division_44g
  refine hld_if (fun c => hld_U hz ?_ ?_) (fun c => hld_U hz ?_ ?_)
  · rw [un_0]; omega
  · rw [n_quo]; exact Nat.le_trans (Nat.div_le_self _ _) a2
  · have hp : 0 < un y.2.2.1 := by
      rcases Nat.eq_zero_or_pos (un y.2.2.1) with q | q
      · exact absurd (un_inj (q.trans un_0.symm)) c
      · exact q
    rw [n_quo, n_quo]
    exact Nat.le_trans (Nat.div_le_div_right a1) (Nat.div_le_div_left b2 (by omega))
  · have hp : 0 < un y.2.2.1 := by
      rcases Nat.eq_zero_or_pos (un y.2.2.1) with q | q
      · exact absurd (un_inj (q.trans un_0.symm)) c
      · exact q
    rw [n_quo, n_quo]
    exact Nat.le_trans (Nat.div_le_div_right a2) (Nat.div_le_div_left b1 hp)
theorem un_rest (v w : Int64) : un (v - f_N_quotient v w * w) = un v % un w := by
  have h1 := un_lt v
  have h2 := un_lt w
  rw [un_sub, un_mul, n_quo]
  have h3 : un v / un w * un w ≤ un v := Nat.div_mul_le_self _ _
  have h4 : un v % un w + un w * (un v / un w) = un v := Nat.mod_add_div _ _
  rw [Nat.mul_comm] at h4
  generalize un v / un w * un w = P at h3 h4 ⊢
  omega
theorem rem_hld {x y : VV} {v w : Int64} (hx : hld x v) (hy : hld y w) {z : VV} (hz : hld z (v - f_N_quotient v w * w)) : hld (f_O_remainder z x y) (v - f_N_quotient v w * w) := by
  have hx' := hx
  obtain ⟨-, -, -, a1, a2, a3, a4⟩ := hx
  obtain ⟨-, -, -, b1, b2, b3, b4⟩ := hy
  have e := un_rest v w
  unfold f_O_remainder f_O_remainder_16g f_O_remainder_37g f_O_remainder_58g f_V_take
  simp only [n_below0]
  refine hld_if (fun c => hld_if (fun c' => hld_U hz ?_ ?_) (fun c' => hld_U hz ?_ ?_)) (fun c => ?_)
  · rw [un_0]; omega
  · rw [e]; exact Nat.le_trans (Nat.mod_le _ _) a2
  · rw [un_0]; omega
  · have hp : 0 < un y.2.2.1 := by
      rcases Nat.eq_zero_or_pos (un y.2.2.1) with q | q
      · exact absurd (un_inj (q.trans un_0.symm)) c'
      · exact q
    have h1 : un v % un w ≤ un v := Nat.mod_le _ _
    have h2 : un v % un w < un w := Nat.mod_lt _ (by omega)
    have h3 := un_lt y.2.2.2.1
    rw [e, un_less, un_sub, un_1]
    omega
  · have hlt : un v < un w := by
      have := Classical.not_not.mp c
      omega
    have : v - f_N_quotient v w * w = v := un_inj (by rw [e, Nat.mod_eq_of_lt hlt])
    rw [this]; exact hx'
theorem hld_h {z : VV} {A B H n : Int64} (hz : hld z n) (hA : apart A B) (hm : mat A B n) (hu : un n ≤ un H) : hld (A, B, z.2.2.1, H, z.2.2.2.2) n := ⟨hA, hz.2.1, hm, hz.2.2.2.1, hu, hz.2.2.2.2.2⟩
theorem hld_l {z : VV} {A B L n : Int64} (hz : hld z n) (hA : apart A B) (hm : mat A B n) (hu : un L ≤ un n) : hld (A, B, L, z.2.2.2) n := ⟨hA, hz.2.1, hm, hu, hz.2.2.2.2⟩
theorem and_hld {x y : VV} {v w : Int64} (hx : hld x v) (hy : hld y w) {z : VV} (hz : hld z (v &&& w)) : hld (x.1 &&& y.1 &&& (((x.1 ||| x.2.1) &&& (y.1 ||| y.2.1) &&& ((x.1 &&& y.1) ^^^ (-1 : Int64))) ^^^ (-1 : Int64)), (x.1 ||| x.2.1) &&& (y.1 ||| y.2.1) &&& ((x.1 &&& y.1) ^^^ (-1 : Int64)), z.2.2.1, f_N_less x.2.2.2.1 y.2.2.2.1, z.2.2.2.2) (v &&& w) := by
  refine hld_h hz (apart_say _ _) (mat_say (fun i hi ho => ?_)) ?_
  · simp only [tb_and, tb_or, tb_not _ hi] at ho ⊢
    exact b_and _ _ _ _ _ _ (hx.2.2.1 i hi) (hy.2.2.1 i hi) (hx.1 i hi) (hy.1 i hi) ho
  · rw [un_less, un_and]
    exact Nat.le_min.mpr ⟨Nat.le_trans Nat.and_le_left hx.2.2.2.2.1, Nat.le_trans Nat.and_le_right hy.2.2.2.2.1⟩
theorem or_hld {x y : VV} {v w : Int64} (hx : hld x v) (hy : hld y w) {z : VV} (hz : hld z (v ||| w)) : hld ((x.1 ||| y.1) &&& (((x.2.1 ||| y.2.1) &&& ((x.1 ||| y.1) ^^^ (-1 : Int64))) ^^^ (-1 : Int64)), (x.2.1 ||| y.2.1) &&& ((x.1 ||| y.1) ^^^ (-1 : Int64)), f_N_more x.2.2.1 y.2.2.1, z.2.2.2) (v ||| w) := by
  refine hld_l hz (apart_say _ _) (mat_say (fun i hi ho => ?_)) ?_
  · simp only [tb_and, tb_or, tb_not _ hi] at ho ⊢
    exact b_or _ _ _ _ _ _ (hx.2.2.1 i hi) (hy.2.2.1 i hi) (hx.1 i hi) (hy.1 i hi) ho
  · rw [un_more, un_or]
    exact Nat.max_le.mpr ⟨Nat.le_trans hx.2.2.2.1 Nat.left_le_or, Nat.le_trans hy.2.2.2.1 Nat.right_le_or⟩
theorem xor_hld {x y : VV} {v w : Int64} (hx : hld x v) (hy : hld y w) {z : VV} (hz : hld z (v ^^^ w)) : hld (f_V_sayBits z (x.1 ^^^ y.1) (x.2.1 ||| y.2.1)) (v ^^^ w) := by
  refine hld_B hz (fun i hi ho => ?_)
  simp only [tb_or, tb_xor] at ho ⊢
  exact b_xor _ _ _ _ _ _ (hx.2.2.1 i hi) (hy.2.2.1 i hi) ho
