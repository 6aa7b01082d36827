/-! the shifts hold the witness -/
theorem most_nat {M : Int32} (hM : M = 63 ∨ M = 31) : ∃ m, (m = 63 ∨ m = 31) ∧ M = nI m ∧ un M.toInt64 = m ∧ ∀ v : Int64, (v &&& M.toInt64).toInt32 = nI (un v % (m + 1)) := by
  rcases hM with h | h
  · exact ⟨63, Or.inl rfl, h, by rw [h]; decide, fun v => by rw [h]; exact (and63 v).2⟩
  · exact ⟨31, Or.inr rfl, h, by rw [h]; decide, fun v => by rw [h]; exact (and31 v).2⟩
theorem mul_pow_lt {a b S : Nat} (h : a ≤ b) (hb : b * 2 ^ S < 2 ^ 64) : a * 2 ^ S < 2 ^ 64 := Nat.lt_of_le_of_lt (Nat.mul_le_mul_right _ h) hb
/-- a shift to the left that loses nothing, signed -/
theorem ti_shl_in (x : Int64) {S : Nat} (hS : S < 64) (h : (x <<< ((nI S).toInt64 &&& 63)) >>> ((nI S).toInt64 &&& 63) = x) : (x <<< ((nI S).toInt64 &&& 63)).toInt = x.toInt * 2 ^ S := by
  have e := ti_sshr (x <<< ((nI S).toInt64 &&& 63)) hS
  rw [h] at e
  have e1 := ti_un (x <<< ((nI S).toInt64 &&& 63))
  have e2 := un_shl x hS
  generalize x <<< ((nI S).toInt64 &&& 63) = Y at e e1 e2
  have hd : ((2 : Int) ^ S) ∣ Y.toInt := by
    have hp : ((2 : Int) ^ S) ∣ (2 : Int) ^ 64 := ⟨2 ^ (64 - S), by rw [← Int.pow_add]; congr 1; omega⟩
    have hn : (2 ^ S : Nat) ∣ un Y := by
      rw [e2]
      exact (Nat.dvd_mod_iff ⟨2 ^ (64 - S), by rw [← Nat.pow_add]; congr 1; omega⟩).mpr ⟨un x, Nat.mul_comm _ _⟩
    have hn' : ((2 : Int) ^ S) ∣ (un Y : Int) := by
      have := Int.natCast_dvd_natCast.mpr hn
      rwa [Int.natCast_pow] at this
    rw [e1]
    split
    · exact hn'
    · exact Int.dvd_sub hn' hp
  rw [e]
  exact (Int.ediv_mul_cancel hd).symm
theorem ti_shl_of {x : Int64} {S : Nat} (hS : S < 64) (h : -2 ^ 63 ≤ x.toInt * 2 ^ S ∧ x.toInt * 2 ^ S < 2 ^ 63) : (x <<< ((nI S).toInt64 &&& 63)).toInt = x.toInt * 2 ^ S := by
  have e1 := ti_un (x <<< ((nI S).toInt64 &&& 63))
  rw [un_shl x hS] at e1
  have e2 := ti_un x
  have e3 : ∃ k : Int, x.toInt * 2 ^ S = ((un x * 2 ^ S : Nat) : Int) + 2 ^ 64 * k := by
    rw [e2, Int.natCast_mul, Int.natCast_pow]
    split
    · exact ⟨0, by simp⟩
    · refine ⟨-2 ^ S, ?_⟩
      rw [Int.sub_mul, Int.mul_neg, Int.sub_eq_add_neg]
      rfl
  obtain ⟨k, hk⟩ := e3
  generalize x.toInt * 2 ^ S = A at h hk ⊢
  generalize un x * 2 ^ S = B at hk e1
  omega
theorem pow_pos' (S : Nat) : (0 : Int) < 2 ^ S := Int.pow_pos (by decide)
theorem by_bits {x : VV} {v : Int64} (hx : hld x v) {S : Nat} (hS : S < 64) : ∀ i, i < 64 → tb (x.2.1 <<< ((nI S).toInt64 &&& 63)) i = false → tb (v <<< ((nI S).toInt64 &&& 63)) i = tb (x.1 <<< ((nI S).toInt64 &&& 63)) i := fun i hi ho => by
  rw [tb_shl _ hS hi] at ho ⊢
  rw [tb_shl _ hS hi]
  by_cases q : S ≤ i
  · simp only [q, decide_true, Bool.true_and] at ho ⊢; exact hx.2.2.1 _ (by omega) ho
  · simp [q]
theorem shiftBy8 {x : VV} {v : Int64} (hx : hld x v) {S : Nat} (hS : S < 64) {z : VV} (hz : hld z (v <<< ((nI S).toInt64 &&& 63))) : hld (f_O_shiftBy z 8 x (nI S)) (v <<< ((nI S).toInt64 &&& 63)) := by
  have hB := hld_B hz (by_bits hx hS)
  unfold f_O_shiftBy
  rw [if_neg (by decide), if_neg (by decide)]
  generalize f_V_sayBits z (x.1 <<< ((nI S).toInt64 &&& 63)) (x.2.1 <<< ((nI S).toInt64 &&& 63)) = Z at hB ⊢
  obtain ⟨-, -, -, a1, a2, a3, a4⟩ := hx
  have tail : ∀ Y : VV, hld Y (v <<< ((nI S).toInt64 &&& 63)) → hld (f_O_shiftBy_130 z 8 x (nI S) Y.1 Y.2.1 Y.2.2.1 Y.2.2.2.1 Y.2.2.2.2.1 Y.2.2.2.2.2.1 Y.2.2.2.2.2.2) (v <<< ((nI S).toInt64 &&& 63)) := fun Y hY => by
    unfold f_O_shiftBy_130 f_O_shiftBy_175g
    refine hld_if (fun c => hld_if (fun c' => ?_) (fun _ => hY)) (fun _ => hY)
    have e1 := ti_shl_in _ hS c
    have e2 := ti_shl_in _ hS c'
    have f1 := ti_lo (x.2.2.2.2.1 <<< ((nI S).toInt64 &&& 63))
    have f2 := ti_hi (x.2.2.2.2.2.1 <<< ((nI S).toInt64 &&& 63))
    have g1 := Int.mul_le_mul_of_nonneg_right a3 (Int.le_of_lt (pow_pos' S))
    have g2 := Int.mul_le_mul_of_nonneg_right a4 (Int.le_of_lt (pow_pos' S))
    rw [e1] at f1
    rw [e2] at f2
    have e3 := ti_shl_of (x := v) hS ⟨Int.le_trans f1 g1, Int.lt_of_le_of_lt g2 f2⟩
    exact hld_S hY (by rw [e1, e3]; exact g1) (by rw [e2, e3]; exact g2)
  unfold f_O_shiftBy_95g f_O_shiftBy_127g
  refine hld_if (fun c => tail _ (hld_U hB ?_ ?_)) (fun _ => tail _ hB)
  all_goals
    have c := (shl_fits _ hS).mp c
    have g2 := mul_pow_lt a2 c
    have g1 := mul_pow_lt a1 g2
    rw [un_shl _ hS, un_shl _ hS, Nat.mod_eq_of_lt (by assumption), Nat.mod_eq_of_lt (by assumption)]
  · exact Nat.mul_le_mul_right _ a1
  · exact Nat.mul_le_mul_right _ a2
theorem shiftBy9 {x : VV} {v : Int64} (hx : hld x v) {S : Nat} (hS : S < 64) {z : VV} (hz : hld z (v.toUInt64 >>> ((nI S).toInt64.toUInt64 &&& Int64.toUInt64 63)).toInt64) : hld (f_O_shiftBy z 9 x (nI S)) (v.toUInt64 >>> ((nI S).toInt64.toUInt64 &&& Int64.toUInt64 63)).toInt64 := by
  unfold f_O_shiftBy f_O_shiftBy_19g f_O_shiftBy_35g
  rw [if_pos rfl]
  refine hld_U (hld_B hz (fun i hi ho => ?_)) ?_ ?_
  · rw [tb_ushr' _ hS] at ho ⊢
    rw [tb_ushr' _ hS]
    by_cases q : S + i < 64
    · exact hx.2.2.1 _ q ho
    · rw [tb_big (by omega), tb_big (by omega)]
  · rw [un_ushr' _ hS, un_ushr' _ hS]; exact Nat.div_le_div_right hx.2.2.2.1
  · rw [un_ushr' _ hS, un_ushr' _ hS]; exact Nat.div_le_div_right hx.2.2.2.2.1
theorem shiftBy10 {x : VV} {v : Int64} (hx : hld x v) {S : Nat} (hS : S < 64) {z : VV} (hz : hld z (v >>> ((nI S).toInt64 &&& 63))) : hld (f_O_shiftBy z 10 x (nI S)) (v >>> ((nI S).toInt64 &&& 63)) := by
  unfold f_O_shiftBy f_O_shiftBy_60g f_O_shiftBy_76g
  rw [if_neg (by decide), if_pos rfl]
  refine hld_S (hld_B hz (fun i hi ho => ?_)) ?_ ?_
  · rw [tb_sshr _ hS hi] at ho ⊢
    rw [tb_sshr _ hS hi]
    by_cases q : S + i < 64
    · rw [if_pos q] at ho ⊢; rw [if_pos q]; exact hx.2.2.1 _ q ho
    · rw [if_neg q] at ho ⊢; rw [if_neg q]; exact hx.2.2.1 _ (by omega) ho
  · rw [ti_sshr _ hS, ti_sshr _ hS]; exact Int.ediv_le_ediv (pow_pos' S) hx.2.2.2.2.2.1
  · rw [ti_sshr _ hS, ti_sshr _ hS]; exact Int.ediv_le_ediv (pow_pos' S) hx.2.2.2.2.2.2
theorem ediv_grow {a : Int} (ha : 0 ≤ a) {s u : Nat} (h : s ≤ u) : a / 2 ^ u ≤ a / 2 ^ s := by
  have e : (2 : Int) ^ u = 2 ^ s * 2 ^ (u - s) := by rw [← Int.pow_add]; congr 1; omega
  rw [e, ← Int.ediv_ediv_of_nonneg (Int.le_of_lt (pow_pos' s))]
  exact Int.ediv_le_self _ (Int.ediv_nonneg ha (Int.le_of_lt (pow_pos' s)))
theorem ediv_fall {a : Int} (ha : a < 0) {s u : Nat} (h : s ≤ u) : a / 2 ^ s ≤ a / 2 ^ u := by
  have e : (2 : Int) ^ u = 2 ^ s * 2 ^ (u - s) := by rw [← Int.pow_add]; congr 1; omega
  rw [e, ← Int.ediv_ediv_of_nonneg (Int.le_of_lt (pow_pos' s))]
  have hb : a / 2 ^ s < 0 := Int.ediv_lt_of_lt_mul (pow_pos' s) (by omega)
  generalize a / 2 ^ s = b at hb ⊢
  have hp := pow_pos' (u - s)
  generalize (2 : Int) ^ (u - s) = d at hp ⊢
  apply Int.le_ediv_of_mul_le hp
  have := Int.mul_le_mul_of_nonpos_left (a := b) (b := d) (c := 1) (by omega) (by omega)
  omega
theorem shift74_8 {x y : VV} {v : Int64} (hx : hld x v) (M : Int32) {t S u : Nat} (h1 : t ≤ S) (h2 : S ≤ u) (h3 : u < 64) {z : VV} (hz : hld z (v <<< ((nI S).toInt64 &&& 63))) : hld (f_O_shift_74 z 8 x y M (nI t) (nI u)) (v <<< ((nI S).toInt64 &&& 63)) := by
  obtain ⟨zx, zx1, zx2, zx3, -⟩ := zerosAtEnd_iff (x.1 ||| x.2.1)
  unfold f_O_shift_74 f_O_shift_98g f_O_zerosBelow
  rw [if_pos rfl, zx2, nI_add]
  refine hld_B hz (fun i hi ho => ?_)
  rw [tb_not _ hi, tb_lowest' (by omega) hi] at ho
  have hlt : i < zx + t := by simpa using ho
  rw [tb_shl _ (by omega) hi, tb_0]
  by_cases q : S ≤ i
  · have := zx3 (i - S) (by omega)
    rw [tb_or, Bool.or_eq_false_iff] at this
    rw [hx.2.2.1 _ (by omega) this.2, this.1]; simp
  · simp [q]
theorem shift74_9 {x y : VV} {v : Int64} (hx : hld x v) (M : Int32) {t S u : Nat} (h1 : t ≤ S) (h2 : S ≤ u) (h3 : u < 64) {z : VV} (hz : hld z (v.toUInt64 >>> ((nI S).toInt64.toUInt64 &&& Int64.toUInt64 63)).toInt64) : hld (f_O_shift_74 z 9 x y M (nI t) (nI u)) (v.toUInt64 >>> ((nI S).toInt64.toUInt64 &&& Int64.toUInt64 63)).toInt64 := by
  unfold f_O_shift_74 f_O_shift_125g
  rw [if_neg (by decide), if_pos rfl]
  refine hld_U hz ?_ ?_
  · rw [un_ushr' _ h3, un_ushr' _ (by omega)]
    exact Nat.le_trans (Nat.div_le_div_right hx.2.2.2.1) (Nat.div_le_div_left (Nat.pow_le_pow_right (by decide) h2) (Nat.two_pow_pos S))
  · rw [un_ushr' _ (by omega), un_ushr' _ (by omega)]
    exact Nat.le_trans (Nat.div_le_div_right hx.2.2.2.2.1) (Nat.div_le_div_left (Nat.pow_le_pow_right (by decide) h1) (Nat.two_pow_pos t))
theorem shift74_10 {x y : VV} {v : Int64} (hx : hld x v) (M : Int32) {t S u : Nat} (h1 : t ≤ S) (h2 : S ≤ u) (h3 : u < 64) {z : VV} (hz : hld z (v >>> ((nI S).toInt64 &&& 63))) : hld (f_O_shift_74 z 10 x y M (nI t) (nI u)) (v >>> ((nI S).toInt64 &&& 63)) := by
  unfold f_O_shift_74 f_O_shift_166g
  rw [if_neg (by decide), if_neg (by decide)]
  have g1 := Int.ediv_le_ediv (pow_pos' S) hx.2.2.2.2.2.1
  have g2 := Int.ediv_le_ediv (pow_pos' S) hx.2.2.2.2.2.2
  refine hld_S hz ?_ ?_
  · rw [ti_jmin, ti_sshr _ (by omega), ti_sshr _ h3, ti_sshr _ (by omega)]
    rcases Int.lt_or_le x.2.2.2.2.1.toInt 0 with q | q
    · exact Int.le_trans (Int.min_le_left _ _) (Int.le_trans (ediv_fall q h1) g1)
    · exact Int.le_trans (Int.min_le_right _ _) (Int.le_trans (ediv_grow q h2) g1)
  · rw [ti_jmax, ti_sshr _ (by omega), ti_sshr _ h3, ti_sshr _ (by omega)]
    rcases Int.lt_or_le x.2.2.2.2.2.1.toInt 0 with q | q
    · exact Int.le_trans (Int.le_trans g2 (ediv_fall q h2)) (Int.le_max_right _ _)
    · exact Int.le_trans (Int.le_trans g2 (ediv_grow q h1)) (Int.le_max_left _ _)
/-- what a shift by y comes to: by one number, or between two -/
theorem shift_cases {x y : VV} {w : Int64} (hy : hld y w) {M : Int32} (hM : M = 63 ∨ M = 31) (z : VV) (op : Int32) : ∃ S, S < 64 ∧ (w &&& M.toInt64).toInt32 = nI S ∧ (f_O_shift z op x y M = f_O_shiftBy z op x (nI S) ∨ ∃ t u, t ≤ S ∧ S ≤ u ∧ u < 64 ∧ f_O_shift z op x y M = f_O_shift_74 z op x y M (nI t) (nI u)) := by
  obtain ⟨m, m1, m2, m3, m4⟩ := most_nat hM
  have hS : un w % (m + 1) < m + 1 := Nat.mod_lt _ (by omega)
  refine ⟨un w % (m + 1), by omega, m4 w, ?_⟩
  unfold f_O_shift f_O_shift_19g
  simp only [n_isSingle]
  by_cases hs : y.2.1 = 0
  · left
    rw [if_neg (fun q => q hs)]
    have : w = y.1 := tb_ext (fun i hi => hy.2.2.1 i hi (by rw [hs]; exact tb_0 i))
    rw [← this, m4]
  · right
    rw [if_pos hs]
    obtain ⟨-, -, -, b1, b2, -, -⟩ := hy
    by_cases c : un M.toInt64 < un y.2.2.2.1
    · refine ⟨0, m, Nat.zero_le _, Nat.le_of_lt_succ hS, by omega, ?_⟩
      rw [if_neg (fun q => (n_below0 _ _).mp q c)]
      unfold f_O_shift_41 f_O_shift_57
      rw [if_pos rfl, if_pos rfl, nI_0, ← m2]
    · refine ⟨un y.2.2.1, un y.2.2.2.1, ?_, ?_, by omega, ?_⟩
      · rw [Nat.mod_eq_of_lt (by omega)]; exact b1
      · rw [Nat.mod_eq_of_lt (by omega)]; exact b2
      · rw [if_pos ((n_below0 _ _).mpr c)]
        unfold f_O_shift_41 f_O_shift_57
        rw [if_neg (by decide), if_neg (by decide), toInt32_nI _ (by omega), toInt32_nI _ (by omega)]
