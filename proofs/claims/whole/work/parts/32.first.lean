/-! the least number from a given one on that has the known bits -/
/-- n has the bits of b where o has 0 -/
def mat (b o n : Int64) : Prop := ∀ i, i < 64 → tb o i = false → tb n i = tb b i
/-- b has no bit where o has one -/
def apart (b o : Int64) : Prop := ∀ i, i < 64 → tb o i = true → tb b i = false
theorem sub1_bits {x r : Nat} (h1 : x.testBit r = true) (h0 : ∀ i, i < r → x.testBit i = false) (i : Nat) : (x - 1).testBit i = if i < r then true else if i = r then false else x.testBit i := by
  -- x = 2^(r+1) * k + 2^r
  have e1 : x % 2 ^ r = 0 := by
    apply Nat.eq_of_testBit_eq
    intro j
    rw [Nat.testBit_mod_two_pow, Nat.zero_testBit]
    by_cases hj : j < r
    · rw [h0 j hj]; simp
    · simp [hj]
  have e2 : x / 2 ^ r % 2 = 1 := by
    rw [Nat.testBit_eq_decide_div_mod_eq] at h1
    exact of_decide_eq_true h1
  have e3 : x = 2 ^ (r + 1) * (x / 2 ^ r / 2) + 2 ^ r := by
    have a := Nat.div_add_mod x (2 ^ r)
    have b := Nat.div_add_mod (x / 2 ^ r) 2
    rw [e2] at b
    rw [e1, Nat.add_zero] at a
    rw [Nat.pow_succ, Nat.mul_assoc]
    calc x = 2 ^ r * (x / 2 ^ r) := a.symm
      _ = 2 ^ r * (2 * (x / 2 ^ r / 2) + 1) := by rw [b]
      _ = 2 ^ r * (2 * (x / 2 ^ r / 2)) + 2 ^ r := by rw [Nat.mul_add, Nat.mul_one]
  have hp : 0 < 2 ^ r := Nat.two_pow_pos r
  have hlt : 2 ^ r < 2 ^ (r + 1) := by rw [Nat.pow_succ]; omega
  generalize x / 2 ^ r / 2 = k at e3
  have e4 : x - 1 = 2 ^ (r + 1) * k + (2 ^ r - 1) := by omega
  rw [e4, Nat.testBit_two_pow_mul_add _ (by omega)]
  by_cases hi : i < r
  · rw [if_pos (by omega), if_pos hi, Nat.testBit_two_pow_sub_one]; simp [hi]
  · rw [if_neg hi]
    by_cases hr : i = r
    · rw [if_pos hr, if_pos (by omega), Nat.testBit_two_pow_sub_one]; simp [hi]
    · rw [if_neg hr, if_neg (by omega), e3, Nat.testBit_two_pow_mul_add _ hlt, if_neg (by omega)]
theorem un_neg (x : Int64) : un (-x) = (2 ^ 64 - un x) % 2 ^ 64 := by
  show (-x).toBitVec.toNat = _
  rw [Int64.toBitVec_neg, BitVec.toNat_neg]
  rfl
theorem tb_neg {v : Int64} (hv : ¬ v = 0) {i : Nat} (hi : i < 64) : tb (-v) i = !(un v - 1).testBit i := by
  have h0 : un v ≠ 0 := fun q => hv (un_inj (q.trans un_0.symm))
  have h1 := un_lt v
  rw [tb_un, un_neg, Nat.mod_eq_of_lt (by omega)]
  rw [show 2 ^ 64 - un v = 2 ^ 64 - ((un v - 1) + 1) by omega, Nat.testBit_two_pow_sub_succ (by omega)]
  simp [hi]
theorem low_bit {v : Int64} (hv : ¬ v = 0) : ∃ r, r < 64 ∧ tb v r = true ∧ ∀ i, i < r → tb v i = false := by
  obtain ⟨i, hi, h⟩ := tb_ne0 hv
  obtain ⟨r, hr, hl⟩ := pk_least (fun k => tb v k = true) ⟨i, h⟩
  refine ⟨r, ?_, hr, fun j hj => ?_⟩
  · rcases Nat.lt_or_ge r 64 with q | q
    · exact q
    · rw [tb_big q] at hr; cases hr
  · cases hb : tb v j
    · rfl
    · exact absurd hb (hl j hj)
/-- v & -v: the lowest bit alone -/
theorem tb_low {v : Int64} {r : Nat} (hr : r < 64) (h1 : tb v r = true) (h0 : ∀ i, i < r → tb v i = false) {i : Nat} (hi : i < 64) : tb (v &&& (-v)) i = decide (i = r) := by
  have hv : ¬ v = 0 := fun q => by rw [q, tb_0] at h1; cases h1
  rw [tb_and, tb_neg hv hi, sub1_bits (x := un v) h1 h0]
  by_cases a : i < r
  · rw [h0 i a, if_pos a]; simp; omega
  · rw [if_neg a]
    by_cases b : i = r
    · rw [if_pos b, b, h1]; simp
    · rw [if_neg b]
      show (tb v i && !tb v i) = _
      cases tb v i <;> simp [b]
theorem tb_sub1 {v : Int64} {r : Nat} (hr : r < 64) (h1 : tb v r = true) (h0 : ∀ i, i < r → tb v i = false) {i : Nat} (hi : i < 64) : tb (v - 1) i = if i < r then true else if i = r then false else tb v i := by
  have hv : un v ≠ 0 := fun q => by
    have : v = 0 := un_inj (q.trans un_0.symm)
    rw [this, tb_0] at h1; cases h1
  have h := un_lt v
  rw [tb_un, un_sub, show un 1 = 1 by decide, show (2 ^ 64 - 1 + un v) % 2 ^ 64 = un v - 1 by omega]
  exact sub1_bits h1 h0 i
set_option maxHeartbeats 1000000 in
theorem n_first (f b o : Int64) (hd : apart b o) : mat b o (f_N_firstFrom f b o) ∧ ∀ n, mat b o n → un f ≤ un n → un f ≤ un (f_N_firstFrom f b o) ∧ un (f_N_firstFrom f b o) ≤ un n := by
  unfold f_N_firstFrom f_N_firstFrom_10v
  generalize hw : (f ^^^ b) &&& (o ^^^ (-1 : Int64)) = wrong
  have tw : ∀ i, i < 64 → tb wrong i = ((tb f i ^^ tb b i) && !tb o i) := fun i hi => by rw [← hw, tb_and, tb_xor, tb_not _ hi]
  by_cases h0 : wrong = 0
  · rw [if_pos h0]
    refine ⟨fun i hi ho => ?_, fun n hn hf => ⟨Nat.le_refl _, hf⟩⟩
    have := tw i hi
    rw [h0, tb_0, ho] at this
    cases hf : tb f i <;> cases hb : tb b i <;> simp [hf, hb] at this ⊢
  rw [if_neg h0]
  obtain ⟨p, hp, hwp, htop⟩ := top_bit (fun i => tb wrong i) 64 (tb_ne0 h0)
  have wp := tw p hp
  rw [hwp] at wp
  have hop : tb o p = false := by cases h : tb o p <;> simp [h] at wp ⊢
  have hne : tb f p ≠ tb b p := by intro q; rw [q] at wp; simp at wp
  have habove : ∀ i, p < i → i < 64 → tb o i = false → tb f i = tb b i := fun i h1 h2 ho => by
    have := tw i h2
    rw [htop i h1 h2, ho] at this
    cases hf : tb f i <;> cases hb : tb b i <;> simp [hf, hb] at this ⊢
  unfold f_N_firstFrom_26v f_N_firstFrom_35v
  generalize hm : f_N_upToHighest wrong = m
  have tm : ∀ i, tb m i = decide (i ≤ p) := fun i => by
    have h := n_uth wrong i
    rw [hm] at h
    by_cases hi : i ≤ p
    · rw [h.mpr ⟨p, hi, hwp⟩]; simp [hi]
    · cases hb : tb m i
      · simp [hi]
      · obtain ⟨j, h1, h2⟩ := h.mp hb
        have hj : j < 64 := by
          rcases Nat.lt_or_ge j 64 with q | q
          · exact q
          · rw [tb_big q] at h2; cases h2
        rw [htop j (by omega) hj] at h2; cases h2
  have t35 : ∀ i, tb (m ^^^ (m.toUInt64 >>> ((1 : Int32).toInt64.toUInt64 &&& Int64.toUInt64 63)).toInt64) i = decide (i = p) := fun i => by
    rw [tb_xor, tb_ushr, show ((1 : Int32).toInt64.toUInt64 &&& Int64.toUInt64 63).toNat % 64 = 1 by decide, tm, tm]
    by_cases h1 : i ≤ p <;> by_cases h2 : 1 + i ≤ p <;> by_cases h3 : i = p <;> simp [h1, h2, h3] <;> omega
  generalize hg : (m ^^^ (m.toUInt64 >>> ((1 : Int32).toInt64.toUInt64 &&& Int64.toUInt64 63)).toInt64) = hi1 at t35
  -- a number that has the bits isn't below z where z has b's bits below d
  have low : ∀ n d, mat b o n → d < 64 → tb n d = false → tb b d = true → False := fun n d hn hd2 h1 h2 => by
    cases ho : tb o d
    · rw [hn d hd2 ho, h2] at h1; cases h1
    · rw [hd d hd2 ho] at h2; cases h2
  by_cases hb : b &&& hi1 = 0
  · rw [if_pos hb]
    have hbp : tb b p = false := by
      have := (tb_eq0.mp hb) p hp
      rw [tb_and, t35] at this
      simpa using this
    have hfp : tb f p = true := by
      cases h : tb f p
      · rw [h, hbp] at hne; exact absurd rfl hne
      · rfl
    unfold f_N_firstFrom_75v
    generalize hc : (o &&& (f ^^^ (-1 : Int64))) &&& (m ^^^ (-1 : Int64)) = can
    have tc : ∀ i, i < 64 → tb can i = (tb o i && !tb f i && !decide (i ≤ p)) := fun i hi => by
      rw [← hc, tb_and, tb_and, tb_not _ hi, tb_not _ hi, tm]
    -- where such a number first differs from f
    have differ : ∀ n, mat b o n → un f ≤ un n → ∃ d, d < 64 ∧ tb can d = true ∧ tb n d = true ∧ ∀ j, d < j → j < 64 → tb f j = tb n j := fun n hn hf => by
      have hnp : tb n p = false := by rw [hn p hp hop]; exact hbp
      have hlt : un f < un n := by
        rcases Nat.lt_or_ge (un f) (un n) with q | q
        · exact q
        · have : f = n := un_inj (by omega)
          rw [this, hnp] at hfp; cases hfp
      obtain ⟨d, hd1, hfd, hnd, hab⟩ := un_lt_iff.mp hlt
      have hdp : p < d := by
        rcases Nat.lt_trichotomy d p with q | q | q
        · have := hab p q hp
          rw [hfp, hnp] at this; cases this
        · subst q; rw [hfp] at hfd; cases hfd
        · exact q
      refine ⟨d, hd1, ?_, hnd, hab⟩
      have hod : tb o d = true := by
        cases ho : tb o d
        · have h1 := hn d hd1 ho
          rw [← habove d hdp hd1 ho, hfd, hnd] at h1; cases h1
        · rfl
      rw [tc d hd1, hod, hfd]
      have : ¬ d ≤ p := by omega
      simp [this]
    by_cases hz : can = 0
    · rw [if_pos hz]
      refine ⟨fun i hi ho => rfl, fun n hn hf => ?_⟩
      obtain ⟨d, -, h1, -⟩ := differ n hn hf
      rw [hz, tb_0] at h1; cases h1
    rw [if_neg hz]
    obtain ⟨r, hr, hcr, hlow⟩ := low_bit hz
    have hcr2 := tc r hr
    rw [hcr] at hcr2
    have hor : tb o r = true := by cases h : tb o r <;> simp [h] at hcr2 ⊢
    have hfr : tb f r = false := by cases h : tb f r <;> simp [h] at hcr2 ⊢
    have hpr : p < r := by
      rcases Nat.lt_or_ge p r with q | q
      · exact q
      · simp [q] at hcr2
    unfold f_N_firstFrom_92v
    generalize hv : can &&& (-can) = bit
    have tbit : ∀ i, i < 64 → tb bit i = decide (i = r) := fun i hi => by rw [← hv]; exact tb_low hr hcr hlow hi
    have tmask : ∀ i, i < 64 → tb (bit - 1) i = decide (i < r) := fun i hi => by
      rw [tb_sub1 (r := r) hr (by rw [tbit r hr]; simp) (fun j hj => by rw [tbit j (by omega)]; simp; omega) hi, tbit i hi]
      by_cases h1 : i < r
      · simp [h1]
      · rw [if_neg h1]; by_cases h2 : i = r <;> simp [h2]; omega
    generalize hzz : ((f &&& ((bit - (1 : Int64)) ^^^ (-1 : Int64))) ||| bit) ||| (b &&& (bit - (1 : Int64))) = z
    have tz : ∀ i, i < 64 → tb z i = if i < r then tb b i else if i = r then true else tb f i := fun i hi => by
      rw [← hzz, tb_or, tb_or, tb_and, tb_and, tb_not _ hi, tmask i hi, tbit i hi]
      by_cases h1 : i < r
      · have : ¬ i = r := by omega
        simp [h1, this]
      · by_cases h2 : i = r
        · simp [h2]
        · simp [h1, h2]
    refine ⟨fun i hi ho => ?_, fun n hn hf => ⟨?_, ?_⟩⟩
    · rw [tz i hi]
      by_cases h1 : i < r
      · rw [if_pos h1]
      · rw [if_neg h1]
        by_cases h2 : i = r
        · rw [h2, hor] at ho; cases ho
        · rw [if_neg h2]; exact habove i (by omega) hi ho
    · refine Nat.le_of_lt (un_lt_of hfr ?_ (fun j h1 h2 => ?_))
      · rw [tz r hr, if_neg (by omega), if_pos rfl]
      · rw [tz j h2, if_neg (by omega), if_neg (by omega)]
    · obtain ⟨d, hd1, hcd, hnd, hab⟩ := differ n hn hf
      have hdr : r ≤ d := by
        rcases Nat.lt_or_ge d r with q | q
        · rw [hlow d q] at hcd; cases hcd
        · exact q
      have hfd : tb f d = false := by
        have := tc d hd1
        rw [hcd] at this
        cases h : tb f d <;> simp [h] at this ⊢
      apply Nat.le_of_not_lt
      intro q
      obtain ⟨e, he1, hne1, hze, hab2⟩ := un_lt_iff.mp q
      rcases Nat.lt_trichotomy e d with w | w | w
      · have h1 := hab2 d w hd1
        rw [hnd, tz d hd1, if_neg (by omega)] at h1
        have hd2 : d = r := by
          apply Classical.byContradiction
          intro k
          rw [if_neg k, hfd] at h1; cases h1
        rw [tz e he1, if_pos (by omega)] at hze
        exact low n e hn he1 hne1 hze
      · rw [w, hnd] at hne1; cases hne1
      · rw [tz e he1, if_neg (by omega), if_neg (by omega)] at hze
        rw [hab e w he1, hne1] at hze; cases hze
  · rw [if_neg hb]
    have hbp : tb b p = true := by
      cases h : tb b p
      · exfalso
        apply hb
        rw [tb_eq0]
        intro i hi
        rw [tb_and, t35]
        by_cases q : i = p
        · rw [q, h]; rfl
        · simp [q]
      · rfl
    have hfp : tb f p = false := by
      cases h : tb f p
      · rfl
      · rw [h, hbp] at hne; exact absurd rfl hne
    generalize hzz : (f &&& (m ^^^ (-1 : Int64))) ||| (b &&& m) = z
    have tz : ∀ i, i < 64 → tb z i = if i ≤ p then tb b i else tb f i := fun i hi => by
      rw [← hzz, tb_or, tb_and, tb_and, tb_not _ hi, tm]
      by_cases h1 : i ≤ p <;> simp [h1]
    refine ⟨fun i hi ho => ?_, fun n hn hf => ⟨?_, ?_⟩⟩
    · rw [tz i hi]
      by_cases h1 : i ≤ p
      · rw [if_pos h1]
      · rw [if_neg h1]; exact habove i (by omega) hi ho
    · refine Nat.le_of_lt (un_lt_of hfp ?_ (fun j h1 h2 => ?_))
      · rw [tz p hp, if_pos (Nat.le_refl _)]; exact hbp
      · rw [tz j h2, if_neg (by omega)]
    · apply Nat.le_of_not_lt
      intro q
      obtain ⟨e, he1, hne1, hze, hab2⟩ := un_lt_iff.mp q
      rw [tz e he1] at hze
      by_cases h1 : e ≤ p
      · rw [if_pos h1] at hze
        exact low n e hn he1 hne1 hze
      · rw [if_neg h1] at hze
        have : un n < un f := un_lt_of hne1 hze (fun j h2 h3 => by rw [hab2 j h2 h3, tz j h3, if_neg (by omega)])
        omega
