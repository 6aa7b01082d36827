/-! and, or, xor, the shifts -/
theorem sayB (z : VV) (v o : Int64) : f_V_sayBits z v o = (v &&& (o ^^^ (-1 : Int64)), o, z.2.2.1, z.2.2.2.1, z.2.2.2.2.1, z.2.2.2.2.2.1, z.2.2.2.2.2.2) := rfl
theorem sayU (z : VV) (a b : Int64) : f_V_sayUnsigned z a b = (z.1, z.2.1, a, b, z.2.2.2.2.1, z.2.2.2.2.2.1, z.2.2.2.2.2.2) := rfl
theorem sayS (z : VV) (a b : Int64) : f_V_saySigned z a b = (z.1, z.2.1, z.2.2.1, z.2.2.2.1, a, b, z.2.2.2.2.2.2) := rfl
theorem apart_not9 {b o : Int64} (h : apart b o) : b &&& (o ^^^ (-1 : Int64)) = b := tb_ext (fun i hi => by
  rw [tb_and, tb_not _ hi]
  cases ho : tb o i
  · simp
  · rw [h i hi ho]; rfl)
theorem apart_shl {b o : Int64} (h : apart b o) {S : Nat} (hS : S < 64) : apart (b <<< ((nI S).toInt64 &&& 63)) (o <<< ((nI S).toInt64 &&& 63)) := fun i hi w => by
  rw [tb_shl _ hS hi] at w ⊢
  by_cases q : S ≤ i
  · simp only [q, decide_true, Bool.true_and] at w ⊢; exact h _ (by omega) w
  · simp [q]
theorem apart_sshr {b o : Int64} (h : apart b o) {S : Nat} (hS : S < 64) : apart (b >>> ((nI S).toInt64 &&& 63)) (o >>> ((nI S).toInt64 &&& 63)) := fun i hi w => by
  rw [tb_sshr _ hS hi] at w ⊢
  by_cases q : S + i < 64
  · rw [if_pos q] at w ⊢; exact h _ q w
  · rw [if_neg q] at w ⊢; exact h _ (by omega) w
theorem apart_ushr {b o : Int64} (h : apart b o) {S : Nat} (hS : S < 64) : apart (b.toUInt64 >>> ((nI S).toInt64.toUInt64 &&& Int64.toUInt64 63)).toInt64 (o.toUInt64 >>> ((nI S).toInt64.toUInt64 &&& Int64.toUInt64 63)).toInt64 := fun i hi w => by
  rw [tb_ushr' _ hS] at w ⊢
  by_cases q : S + i < 64
  · exact h _ q w
  · exact tb_big (by omega)
/-- tight sayings that hold a number -/
def good (z : VV) : Prop := tgt (kn z) z
theorem good_apart {z : VV} (h : good z) : apart z.1 z.2.1 := h.2.2.2.2.1
theorem good_flag {z : VV} (h : good z) : z.2.2.2.2.2.2 = false := h.2.2.2.2.2
theorem good_single {z : VV} (h : good z) : (z.2.1 = 0 ↔ z.2.2.1 = z.2.2.2.1) ∧ (z.2.1 = 0 → z.1 = z.2.2.1) := by
  obtain ⟨⟨h1, h2, h3, h4⟩, hb, hu, hm, ha, hf⟩ := h
  have e : ∀ n, z.2.1 = 0 → kn z n → n = z.1 := fun n h0 hn => tb_ext (fun i hi => hm n hn i hi (by rw [h0]; exact tb_0 i))
  refine ⟨⟨fun h0 => by rw [e _ h0 h1, e _ h0 h2], fun h0 => tb_eq0.mpr (fun i hi => ?_)⟩, fun h0 => (e _ h0 h1).symm⟩
  cases ht : tb z.2.1 i
  · rfl
  · obtain ⟨x, y, hx, hy, hxy⟩ := (hu i hi).mp ht
    have ex : x = z.2.2.1 := un_inj (by have := hb x hx; rw [← h0] at this; omega)
    have ey : y = z.2.2.1 := un_inj (by have := hb y hy; rw [← h0] at this; omega)
    rw [ex, ey] at hxy
    exact absurd rfl hxy
theorem tighten_good {z : VV} (ha : apart z.1 z.2.1) (hf : z.2.2.2.2.2.2 = false) (hn : ∃ n, kn z n) : good (f_V_tighten z) ∧ ∀ n, kn (f_V_tighten z) n ↔ kn z n := by
  have h := (n_tighten ha hf).1 hn
  have key : ∀ n, kn (f_V_tighten z) n ↔ kn z n := by
    generalize f_V_tighten z = y at h ⊢
    obtain ⟨⟨h1, h2, h3, h4⟩, hb, hu, hm, hap, hfl⟩ := h
    intro n
    constructor
    · rintro ⟨a, b, c, d, e⟩
      refine ⟨fun i hi ho => ?_, Nat.le_trans h1.2.1 b, Nat.le_trans c h2.2.2.1, Int.le_trans h3.2.2.2.1 d, Int.le_trans e h4.2.2.2.2⟩
      have q : tb y.2.1 i = false := by
        cases ht : tb y.2.1 i
        · rfl
        · obtain ⟨x, w, hx, hw, hxw⟩ := (hu i hi).mp ht
          exact absurd ((hx.1 i hi ho).trans (hw.1 i hi ho).symm) hxw
      rw [a i hi q, ← hm _ h1 i hi q]
      exact h1.1 i hi ho
    · intro hk
      exact ⟨hm n hk, hb n hk⟩
  refine ⟨?_, key⟩
  have : kn (f_V_tighten z) = kn z := funext (fun n => propext (key n))
  show tgt (kn (f_V_tighten z)) _
  rw [this]
  exact h
theorem tighten_id {z : VV} (h : good z) : f_V_tighten z = z :=
  tgt_unique ((n_tighten (good_apart h) (good_flag h)).1 ⟨_, h.1.1⟩) h
theorem i32_eq {x : Int32} {n : Nat} (h : x.toBitVec.toNat = n) : x = nI n := by
  apply Int32.toBitVec_inj.mp
  apply BitVec.eq_of_toNat_eq
  rw [h]
  show n = (BitVec.ofNat 32 n).toNat
  rw [BitVec.toNat_ofNat]
  have := x.toBitVec.isLt
  omega
theorem toInt32_nat (v : Int64) : v.toInt32.toBitVec.toNat = un v % 2 ^ 32 := by
  show (v.toBitVec.signExtend 32).toNat = _
  rw [BitVec.signExtend_eq_setWidth_of_le _ (by decide), BitVec.toNat_setWidth]; rfl
theorem toInt32_nI (v : Int64) (h : un v < 2 ^ 32) : v.toInt32 = nI (un v) := i32_eq (by rw [toInt32_nat]; omega)
theorem and63 (v : Int64) : v.toInt32 &&& 63 = nI (un v % 64) ∧ (v &&& (63 : Int32).toInt64).toInt32 = nI (un v % 64) := by
  constructor
  · apply i32_eq
    rw [Int32.toBitVec_and, BitVec.toNat_and, toInt32_nat]
    have : (63 : Int32).toBitVec.toNat = 2 ^ 6 - 1 := by decide
    rw [this, Nat.and_two_pow_sub_one_eq_mod]; omega
  · apply i32_eq
    rw [toInt32_nat, un_and]
    have : un (63 : Int32).toInt64 = 2 ^ 6 - 1 := by decide
    rw [this, Nat.and_two_pow_sub_one_eq_mod]; omega
theorem and31 (v : Int64) : v.toInt32 &&& 31 = nI (un v % 32) ∧ (v &&& (31 : Int32).toInt64).toInt32 = nI (un v % 32) := by
  constructor
  · apply i32_eq
    rw [Int32.toBitVec_and, BitVec.toNat_and, toInt32_nat]
    have : (31 : Int32).toBitVec.toNat = 2 ^ 5 - 1 := by decide
    rw [this, Nat.and_two_pow_sub_one_eq_mod]; omega
  · apply i32_eq
    rw [toInt32_nat, un_and]
    have : un (31 : Int32).toInt64 = 2 ^ 5 - 1 := by decide
    rw [this, Nat.and_two_pow_sub_one_eq_mod]; omega
theorem and_most {M : Int32} (hM : M = 63 ∨ M = 31) (v : Int64) : ∃ S, S < 64 ∧ v.toInt32 &&& M = nI S ∧ (v &&& M.toInt64).toInt32 = nI S := by
  rcases hM with h | h
  · rw [h]; exact ⟨un v % 64, by omega, (and63 v).1, (and63 v).2⟩
  · rw [h]; exact ⟨un v % 32, by omega, (and31 v).1, (and31 v).2⟩
theorem m_and_eq (r : Nat → VV) (z : VV) : f_M_and_ (va_up r 18 z) = va_up r 18 ((((f_V_sayBits z ((r 16).1 &&& (r 17).1) ((((r 16).1 ||| (r 16).2.1) &&& ((r 17).1 ||| (r 17).2.1)) &&& (((r 16).1 &&& (r 17).1) ^^^ (-1 : Int64)))).1), (((r 16).1 ||| (r 16).2.1) &&& ((r 17).1 ||| (r 17).2.1)) &&& (((r 16).1 &&& (r 17).1) ^^^ (-1 : Int64)), z.2.2.1, f_N_less (r 16).2.2.2.1 (r 17).2.2.2.1, z.2.2.2.2)) := by
  obtain ⟨z1, z2, z3, z4, z5, z6, z7⟩ := z
  unfold f_M_and_ f_M_and__39v f_M_and__61u f_M_and__85u f_M_and__109u
  simp only [up18_16, up18_17, up_at, u1_up, u2_up, u3_up, u4_up, u5_up, u6_up, less_eq, sayB, sayU, sayS]
  have e1 : (r 16).1 &&& (r 17).1 = (r 16).1 &&& (r 17).1 &&& ((((r 16).1 ||| (r 16).2.1) &&& ((r 17).1 ||| (r 17).2.1) &&& (((r 16).1 &&& (r 17).1) ^^^ (-1 : Int64))) ^^^ (-1 : Int64)) := tb_ext (fun i hi => by
    simp only [tb_and, tb_or, tb_xor, tb_not _ hi]; cases tb (r 16).1 i <;> cases tb (r 16).2.1 i <;> cases tb (r 17).1 i <;> cases tb (r 17).2.1 i <;> rfl)
  have e2 : ((((r 16).1 ||| (r 16).2.1) ^^^ (-1 : Int64)) ||| (((r 17).1 ||| (r 17).2.1) ^^^ (-1 : Int64))) ^^^ (-1 : Int64) = ((r 16).1 ||| (r 16).2.1) &&& ((r 17).1 ||| (r 17).2.1) := tb_ext (fun i hi => by
    simp only [tb_and, tb_or, tb_xor, tb_not _ hi]; cases tb (r 16).1 i <;> cases tb (r 16).2.1 i <;> cases tb (r 17).1 i <;> cases tb (r 17).2.1 i <;> rfl)
  rw [← e1, e2]
theorem m_or_eq (r : Nat → VV) (z : VV) : f_M_or_ (va_up r 18 z) = va_up r 18 ((((f_V_sayBits z ((r 16).1 ||| (r 17).1) (((r 16).2.1 ||| (r 17).2.1) &&& (((r 16).1 ||| (r 17).1) ^^^ (-1 : Int64)))).1), ((r 16).2.1 ||| (r 17).2.1) &&& (((r 16).1 ||| (r 17).1) ^^^ (-1 : Int64)), f_N_more (r 16).2.2.1 (r 17).2.2.1, z.2.2.2)) := by
  obtain ⟨z1, z2, z3, z4, z5, z6, z7⟩ := z
  unfold f_M_or_ f_M_or__21u f_M_or__55u f_M_or__79u
  simp only [up18_16, up18_17, up_at, u1_up, u2_up, u3_up, u4_up, u5_up, u6_up, more_eq, sayB, sayU, sayS]
  have e1 : (r 16).1 ||| (r 17).1 = ((r 16).1 ||| (r 17).1) &&& ((((r 16).2.1 ||| (r 17).2.1) &&& (((r 16).1 ||| (r 17).1) ^^^ (-1 : Int64))) ^^^ (-1 : Int64)) := tb_ext (fun i hi => by
    simp only [tb_and, tb_or, tb_xor, tb_not _ hi]; cases tb (r 16).1 i <;> cases tb (r 16).2.1 i <;> cases tb (r 17).1 i <;> cases tb (r 17).2.1 i <;> rfl)
  rw [← e1]
theorem m_xor_eq (r : Nat → VV) (z : VV) : f_M_xor_ (va_up r 18 z) = va_up r 18 (f_V_sayBits z ((r 16).1 ^^^ (r 17).1) ((r 16).2.1 ||| (r 17).2.1)) := by
  obtain ⟨z1, z2, z3, z4, z5, z6, z7⟩ := z
  unfold f_M_xor_ f_M_xor__21u f_M_xor__55u
  simp only [up18_16, up18_17, up_at, u1_up, u2_up, u3_up, u4_up, u5_up, u6_up, sayB, sayU, sayS]
theorem shl_fits (v : Int64) {S : Nat} (hS : S < 64) : ((v <<< ((nI S).toInt64 &&& 63)).toUInt64 >>> ((nI S).toInt64.toUInt64 &&& Int64.toUInt64 63)).toInt64 = v ↔ un v * 2 ^ S < 2 ^ 64 := by
  rw [eq_un, un_ushr' _ hS, un_shl _ hS]
  have hp := Nat.two_pow_pos S
  constructor
  · intro h
    have h1 : un v * 2 ^ S % 2 ^ 64 / 2 ^ S * 2 ^ S ≤ un v * 2 ^ S % 2 ^ 64 := Nat.div_mul_le_self _ _
    rw [h] at h1
    exact Nat.lt_of_le_of_lt h1 (Nat.mod_lt _ (by decide))
  · intro h
    rw [Nat.mod_eq_of_lt h, Nat.mul_div_cancel _ hp]
theorem shr_zero (v : Int64) {S : Nat} (hS : S < 64) (h0 : ¬ S = 0) : (v.toUInt64 >>> (((64 : Int32) - nI S).toInt64.toUInt64 &&& Int64.toUInt64 63)).toInt64 = 0 ↔ un v * 2 ^ S < 2 ^ 64 := by
  have h64 : ∀ n, n < 64 → (64 : Int32) - nI n = nI (64 - n) := by decide +kernel
  rw [h64 S hS, eq_un, un_ushr' _ (by omega), un_0]
  have e : 2 ^ 64 = 2 ^ (64 - S) * 2 ^ S := by rw [← Nat.pow_add]; congr 1; omega
  have hp := Nat.two_pow_pos S
  have hq := Nat.two_pow_pos (64 - S)
  rw [e, Nat.mul_lt_mul_right hp]
  constructor
  · intro h
    exact (Nat.div_eq_zero_iff_lt hq).mp h
  · intro h
    exact Nat.div_eq_of_lt h
theorem m_isSingle (r : Nat → VV) (p : Nat) : (f_M_isSingle r p = true) = ((r p).2.2.1 = (r p).2.2.2.1) := by
  unfold f_M_isSingle
  by_cases h : (r p).2.2.1 = (r p).2.2.2.1
  · rw [if_pos h]; simp [h]
  · rw [if_neg h]; simp [h]
theorem n_isSingle (z : VV) : (f_V_isSingle z = 0) = ¬ (z.2.1 = 0) := by
  unfold f_V_isSingle
  by_cases h : z.2.1 = 0
  · rw [if_pos h]; simp [h]
  · rw [if_neg h]; simp [h]
theorem i98 : ((9 : Int32) = 8) = False := by decide
theorem i108 : ((10 : Int32) = 8) = False := by decide
theorem i910 : ((9 : Int32) = 10) = False := by decide
theorem i109 : ((10 : Int32) = 9) = False := by decide
theorem i89 : ((8 : Int32) = 9) = False := by decide
theorem i810 : ((8 : Int32) = 10) = False := by decide
theorem m_sr_tail (r : Nat → VV) (z : VV) (M s t : Int32) : f_M_signedRight_139 (va_up r 18 z) M s t = va_up r 18 (f_V_saySigned z (jmmin ((r 16).2.2.2.2.1 >>> (s.toInt64 &&& 63)) ((r 16).2.2.2.2.1 >>> (t.toInt64 &&& 63))) (jmmax ((r 16).2.2.2.2.2.1 >>> (s.toInt64 &&& 63)) ((r 16).2.2.2.2.2.1 >>> (t.toInt64 &&& 63)))) := by
  unfold f_M_signedRight_139 f_M_signedRight_150v f_M_signedRight_162v f_M_signedRight_185 f_M_signedRight_185u f_M_signedRight_195v f_M_signedRight_207v f_M_signedRight_230 f_M_signedRight_230u
  simp only [up18_16, up18_17, up_at, u1_up, u2_up, u3_up, u4_up, u5_up, u6_up, ← jmin_lt, ← jmax_lt, sayS]
  rcases Classical.propComplete (((r 16).2.2.2.2.1 >>> (s.toInt64 &&& 63)) < ((r 16).2.2.2.2.1 >>> (t.toInt64 &&& 63))) with p | p <;> rcases Classical.propComplete (((r 16).2.2.2.2.2.1 >>> (s.toInt64 &&& 63)) < ((r 16).2.2.2.2.2.1 >>> (t.toInt64 &&& 63))) with q | q <;> simp only [p, q, if_true, if_false]
theorem m_right_eq (r : Nat → VV) (z : VV) (hX : apart (r 16).1 (r 16).2.1) (M : Int32) (hM : M = 63 ∨ M = 31) (hg : good (r 17)) : f_M_right (va_up r 18 z) M = va_up r 18 (f_O_shift z 9 (r 16) (r 17) M) := by
  obtain ⟨z1, z2, z3, z4, z5, z6, z7⟩ := z
  obtain ⟨hs1, hs2⟩ := good_single hg
  obtain ⟨S, hS, e1, e2⟩ := and_most hM (r 17).2.2.1
  unfold f_M_right f_M_right_19v f_M_right_35u f_M_right_51u f_M_right_67u f_M_right_83u f_M_right_105 f_M_right_135 f_M_right_136u f_M_right_166 f_M_right_167u
  simp only [m_isSingle, up18_16, up18_17, up_at, u1_up, u2_up, u3_up, u4_up, u5_up, u6_up, m_below, m_lowest_eq]
  unfold f_O_shift f_O_shift_19g f_O_shift_41 f_O_shift_57 f_O_shift_74 f_O_shift_98g f_O_shift_125g f_O_shift_166g f_O_shiftBy f_O_shiftBy_19g f_O_shiftBy_35g f_O_shiftBy_60g f_O_shiftBy_76g f_O_shiftBy_95g f_O_shiftBy_127g f_O_shiftBy_130 f_O_shiftBy_175g f_O_zerosBelow
  simp only [n_isSingle, n_below]
  by_cases h : (r 17).2.1 = 0
  · have h' := hs1.mp h
    have hb := hs2 h
    rw [if_pos h', if_neg (c := ¬ (r 17).2.1 = 0) (fun w => w h), hb, e1, e2]
    simp only [i98, i109, i89, i810, i910, i108, if_true, if_false]
    simp only [up18_16, up18_17, up_at, u1_up, u2_up, u3_up, u4_up, u5_up, u6_up, sayB, sayU, sayS, apart_not9 (apart_ushr hX hS), apart_not9 (apart_sshr hX hS)]
  · have h' : ¬ (r 17).2.2.1 = (r 17).2.2.2.1 := fun w => h (hs1.mpr w)
    rw [if_neg h', if_pos (c := ¬ (r 17).2.1 = 0) h]
    rcases Classical.propComplete (un M.toInt64 < un (r 17).2.2.2.1) with a | a <;> simp only [a, decide_true, decide_false, if_true, if_false, i10, i01, bTF, bFT, m_knowLowest, m_sr_tail, jmin_lt, jmax_lt, i98, i108, i910, i109, up18_16, up18_17, up_at, u1_up, u2_up, u3_up, u4_up, u5_up, u6_up, sayB, sayU, sayS]
theorem m_signedRight_eq (r : Nat → VV) (z : VV) (hX : apart (r 16).1 (r 16).2.1) (M : Int32) (hM : M = 63 ∨ M = 31) (hg : good (r 17)) : f_M_signedRight (va_up r 18 z) M = va_up r 18 (f_O_shift z 10 (r 16) (r 17) M) := by
  obtain ⟨z1, z2, z3, z4, z5, z6, z7⟩ := z
  obtain ⟨hs1, hs2⟩ := good_single hg
  obtain ⟨S, hS, e1, e2⟩ := and_most hM (r 17).2.2.1
  unfold f_M_signedRight f_M_signedRight_19v f_M_signedRight_35u f_M_signedRight_51u f_M_signedRight_67u f_M_signedRight_83u f_M_signedRight_105 f_M_signedRight_122
  simp only [m_isSingle, up18_16, up18_17, up_at, u1_up, u2_up, u3_up, u4_up, u5_up, u6_up, m_below, m_lowest_eq]
  unfold f_O_shift f_O_shift_19g f_O_shift_41 f_O_shift_57 f_O_shift_74 f_O_shift_98g f_O_shift_125g f_O_shift_166g f_O_shiftBy f_O_shiftBy_19g f_O_shiftBy_35g f_O_shiftBy_60g f_O_shiftBy_76g f_O_shiftBy_95g f_O_shiftBy_127g f_O_shiftBy_130 f_O_shiftBy_175g f_O_zerosBelow
  simp only [n_isSingle, n_below]
  by_cases h : (r 17).2.1 = 0
  · have h' := hs1.mp h
    have hb := hs2 h
    rw [if_pos h', if_neg (c := ¬ (r 17).2.1 = 0) (fun w => w h), hb, e1, e2]
    simp only [i98, i109, i89, i810, i910, i108, if_true, if_false]
    simp only [up18_16, up18_17, up_at, u1_up, u2_up, u3_up, u4_up, u5_up, u6_up, sayB, sayU, sayS, apart_not9 (apart_ushr hX hS), apart_not9 (apart_sshr hX hS)]
  · have h' : ¬ (r 17).2.2.1 = (r 17).2.2.2.1 := fun w => h (hs1.mpr w)
    rw [if_neg h', if_pos (c := ¬ (r 17).2.1 = 0) h]
    rcases Classical.propComplete (un M.toInt64 < un (r 17).2.2.2.1) with a | a <;> simp only [a, decide_true, decide_false, if_true, if_false, i10, i01, bTF, bFT, m_knowLowest, m_sr_tail, jmin_lt, jmax_lt, i98, i108, i910, i109, up18_16, up18_17, up_at, u1_up, u2_up, u3_up, u4_up, u5_up, u6_up, sayB, sayU, sayS]
theorem m_left_eq (r : Nat → VV) (z : VV) (hX : apart (r 16).1 (r 16).2.1) (M : Int32) (hM : M = 63 ∨ M = 31) (hg : good (r 17)) : f_M_left (va_up r 18 z) M = va_up r 18 (f_O_shift z 8 (r 16) (r 17) M) := by
  obtain ⟨z1, z2, z3, z4, z5, z6, z7⟩ := z
  obtain ⟨hs1, hs2⟩ := good_single hg
  obtain ⟨S, hS, e1, e2⟩ := and_most hM (r 17).2.2.1
  unfold f_M_left f_M_left_19v f_M_left_35u f_M_left_51u f_M_left_73 f_M_left_88u f_M_left_104u f_M_left_105 f_M_left_164u f_M_left_180u f_M_left_209 f_M_left_221g
  simp only [m_isSingle, up18_16, up18_17, up_at, u1_up, u2_up, u3_up, u4_up, u5_up, u6_up, m_below, m_lowest_eq]
  unfold f_O_shift f_O_shift_19g f_O_shift_41 f_O_shift_57 f_O_shift_74 f_O_shift_98g f_O_shift_125g f_O_shift_166g f_O_shiftBy f_O_shiftBy_19g f_O_shiftBy_35g f_O_shiftBy_60g f_O_shiftBy_76g f_O_shiftBy_95g f_O_shiftBy_127g f_O_shiftBy_130 f_O_shiftBy_175g f_O_zerosBelow
  simp only [n_isSingle, n_below]
  by_cases h : (r 17).2.1 = 0
  · have h' := hs1.mp h
    have hb := hs2 h
    rw [if_pos h', if_neg (c := ¬ (r 17).2.1 = 0) (fun w => w h), hb, e1, e2]
    simp only [i98, i109, i89, i810, i910, i108, if_true, if_false]
    have c1 := shl_fits (r 16).2.2.2.1 hS
    have cS : (nI S = 0) = (S = 0) := by
      have := nI_eq (a := S) (b := 0) (by omega) (by omega)
      rw [nI_0] at this
      exact propext this
    have c2 : (if nI S = 0 then True else (((r 16).2.2.2.1).toUInt64 >>> (((64 : Int32) - nI S).toInt64.toUInt64 &&& Int64.toUInt64 63)).toInt64 = 0) = (un (r 16).2.2.2.1 * 2 ^ S < 2 ^ 64) := by
      by_cases h0 : S = 0
      · rw [if_pos (cS ▸ h0), h0]
        have := un_lt (r 16).2.2.2.1
        exact (eq_true (by omega)).symm
      · rw [if_neg (fun w => h0 (cS ▸ w))]; exact propext (shr_zero _ hS h0)
    have c3 : ∀ (A B : Nat → VV), (if nI S = 0 then A else (if (((r 16).2.2.2.1).toUInt64 >>> (((64 : Int32) - nI S).toInt64.toUInt64 &&& Int64.toUInt64 63)).toInt64 = 0 then A else B)) = if un (r 16).2.2.2.1 * 2 ^ S < 2 ^ 64 then A else B := fun A B => by
      by_cases h0 : nI S = 0
      · rw [if_pos h0] at c2
        rw [if_pos h0, if_pos (c2 ▸ trivial)]
      · rw [if_neg h0] at c2
        rw [if_neg h0]
        by_cases h1 : (((r 16).2.2.2.1).toUInt64 >>> (((64 : Int32) - nI S).toInt64.toUInt64 &&& Int64.toUInt64 63)).toInt64 = 0
        · rw [if_pos h1, if_pos (c2 ▸ h1)]
        · rw [if_neg h1, if_neg (fun w => h1 (c2 ▸ w))]
    simp only [up18_16, up18_17, up_at, u1_up, u2_up, u3_up, u4_up, u5_up, u6_up, sayB, sayU, sayS, c3, c1, apart_not9 (apart_shl hX hS)]
    rcases Classical.propComplete (un (r 16).2.2.2.1 * 2 ^ S < 2 ^ 64) with a | a <;> rcases Classical.propComplete (((r 16).2.2.2.2.1 <<< ((nI S).toInt64 &&& 63)) >>> ((nI S).toInt64 &&& 63) = (r 16).2.2.2.2.1) with b | b <;> rcases Classical.propComplete (((r 16).2.2.2.2.2.1 <<< ((nI S).toInt64 &&& 63)) >>> ((nI S).toInt64 &&& 63) = (r 16).2.2.2.2.2.1) with c | c <;> simp only [a, b, c, if_true, if_false]
  · have h' : ¬ (r 17).2.2.1 = (r 17).2.2.2.1 := fun w => h (hs1.mpr w)
    rw [if_neg h', if_pos (c := ¬ (r 17).2.1 = 0) h]
    rcases Classical.propComplete (un M.toInt64 < un (r 17).2.2.2.1) with a | a <;> simp only [a, decide_true, decide_false, if_true, if_false, i10, i01, bTF, bFT, m_knowLowest, m_sr_tail, jmin_lt, jmax_lt, i98, i108, i910, i109, up18_16, up18_17, up_at, u1_up, u2_up, u3_up, u4_up, u5_up, u6_up, sayB, sayU, sayS]
