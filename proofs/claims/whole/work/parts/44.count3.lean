theorem bc_list (v : Int64) (b0 b1 b2 b3 b4 b5 b6 b7 : Nat) (l0 : b0 < 256) (l1 : b1 < 256) (l2 : b2 < 256) (l3 : b3 < 256) (l4 : b4 < 256) (l5 : b5 < 256) (l6 : b6 < 256) (l7 : b7 < 256) (he : un v = ev [b0, b1, b2, b3, b4, b5, b6, b7]) : f_Lo_bitCount v = nI (pc8 b0 + pc8 b1 + pc8 b2 + pc8 b3 + pc8 b4 + pc8 b5 + pc8 b6 + pc8 b7) := by
  have sh : ∀ (x : Int64) (k : Int32) (n : Nat), (k.toInt64.toUInt64 &&& Int64.toUInt64 63).toNat % 64 = n → un (x.toUInt64 >>> (k.toInt64.toUInt64 &&& Int64.toUInt64 63)).toInt64 = un x / 2 ^ n := fun x k n h => by rw [un_ushr, h]
  have hv := un_lt v
  have all : ∀ (P : Nat → Prop), P b0 → P b1 → P b2 → P b3 → P b4 → P b5 → P b6 → P b7 → ∀ b ∈ [b0, b1, b2, b3, b4, b5, b6, b7], P b := by
    intro P p0 p1 p2 p3 p4 p5 p6 p7 b hb
    simp only [List.mem_cons, List.not_mem_nil, or_false] at hb
    rcases hb with h | h | h | h | h | h | h | h <;> rw [h] <;> assumption
  have g1 := t1 [b0, b1, b2, b3, b4, b5, b6, b7] (all (fun x => x < 256) l0 l1 l2 l3 l4 l5 l6 l7)
  have g2 := t2 ([b0, b1, b2, b3, b4, b5, b6, b7].map (s1 0x55)) (fun b hb => by
    obtain ⟨a, ha, e⟩ := List.mem_map.mp hb
    rw [← e]
    exact (b_dec a (all (fun x => x < 256) l0 l1 l2 l3 l4 l5 l6 l7 a ha)).1)
  have hm : ∀ b ∈ ([b0, b1, b2, b3, b4, b5, b6, b7].map (s1 0x55)).map (s2 0x33), b % 16 ≤ 4 ∧ b / 16 ≤ 4 := fun b hb => by
    obtain ⟨a, ha, e⟩ := List.mem_map.mp hb
    obtain ⟨a', ha', e'⟩ := List.mem_map.mp ha
    rw [← e, ← e']
    have h := b_dec a' (all (fun x => x < 256) l0 l1 l2 l3 l4 l5 l6 l7 a' ha')
    exact ⟨h.2.1, h.2.2.1⟩
  have g3 := (t3 (([b0, b1, b2, b3, b4, b5, b6, b7].map (s1 0x55)).map (s2 0x33)) hm).1
  have ml : ∀ b, b ∈ ([b0, b1, b2, b3, b4, b5, b6, b7].map (s1 0x55)).map (s2 0x33) → b < 128 := fun b hb => by
    have := hm b hb; omega
  unfold f_Lo_bitCount
  have a1 : un (v - ((v.toUInt64 >>> ((1 : Int32).toInt64.toUInt64 &&& Int64.toUInt64 63)).toInt64 &&& (6148914691236517205 : Int64))) = ev ([b0, b1, b2, b3, b4, b5, b6, b7].map (s1 0x55)) := by
    have e : un (6148914691236517205 : Int64) = rep9 0x55 8 := by decide
    rw [un_sub, un_and, sh v 1 1 (by decide), e, ← g1, ← he]
    show _ = un v - (un v / 2 &&& rep9 0x55 8)
    rw [Nat.pow_one]
    have h5 : (un v / 2 &&& rep9 0x55 8) ≤ un v / 2 := Nat.and_le_left
    generalize (un v / 2 &&& rep9 0x55 8) = m at h5 ⊢
    clear g1 g2 g3 he
    omega
  generalize v - ((v.toUInt64 >>> ((1 : Int32).toInt64.toUInt64 &&& Int64.toUInt64 63)).toInt64 &&& (6148914691236517205 : Int64)) = w at a1 ⊢
  unfold f_Lo_bitCount_9v
  have lt2 : ev (([b0, b1, b2, b3, b4, b5, b6, b7].map (s1 0x55)).map (s2 0x33)) < 2 ^ 63 := by
    simp only [List.map] at ml ⊢
    have m0 := ml (s2 0x33 (s1 0x55 b0)) (by simp)
    have m1 := ml (s2 0x33 (s1 0x55 b1)) (by simp)
    have m2 := ml (s2 0x33 (s1 0x55 b2)) (by simp)
    have m3 := ml (s2 0x33 (s1 0x55 b3)) (by simp)
    have m4 := ml (s2 0x33 (s1 0x55 b4)) (by simp)
    have m5 := ml (s2 0x33 (s1 0x55 b5)) (by simp)
    have m6 := ml (s2 0x33 (s1 0x55 b6)) (by simp)
    have m7 := ml (s2 0x33 (s1 0x55 b7)) (by simp)
    clear g1 g2 g3 he a1 ml hm all
    simp only [ev]
    omega
  have a2 : un ((w &&& (3689348814741910323 : Int64)) + ((w.toUInt64 >>> ((2 : Int32).toInt64.toUInt64 &&& Int64.toUInt64 63)).toInt64 &&& (3689348814741910323 : Int64))) = ev (([b0, b1, b2, b3, b4, b5, b6, b7].map (s1 0x55)).map (s2 0x33)) := by
    have e : un (3689348814741910323 : Int64) = rep9 0x33 8 := by decide
    rw [un_add, un_and, un_and, sh w 2 2 (by decide), e, a1]
    have g2' : s2 (rep9 0x33 8) (ev ([b0, b1, b2, b3, b4, b5, b6, b7].map (s1 0x55))) = ev (([b0, b1, b2, b3, b4, b5, b6, b7].map (s1 0x55)).map (s2 0x33)) := g2
    rw [← g2'] at lt2 ⊢
    exact Nat.mod_eq_of_lt (Nat.lt_trans lt2 (by decide))
  generalize (w &&& (3689348814741910323 : Int64)) + ((w.toUInt64 >>> ((2 : Int32).toInt64.toUInt64 &&& Int64.toUInt64 63)).toInt64 &&& (3689348814741910323 : Int64)) = x at a2 ⊢
  unfold f_Lo_bitCount_23v
  have a3 : un ((x + (x.toUInt64 >>> ((4 : Int32).toInt64.toUInt64 &&& Int64.toUInt64 63)).toInt64) &&& (1085102592571150095 : Int64)) = ev ((([b0, b1, b2, b3, b4, b5, b6, b7].map (s1 0x55)).map (s2 0x33)).map (s3 0x0f)) := by
    have e : un (1085102592571150095 : Int64) = rep9 0x0f 8 := by decide
    rw [un_and, un_add, sh x 4 4 (by decide), e, ← g3, ← a2]
    rw [← a2] at lt2
    have h1 : un x + un x / 2 ^ 4 < 2 ^ 64 := by
      clear g1 g2 g3 he a1 a2 ml hm all
      omega
    rw [Nat.mod_eq_of_lt h1]
    rfl
  generalize (x + (x.toUInt64 >>> ((4 : Int32).toInt64.toUInt64 &&& Int64.toUInt64 63)).toInt64) &&& (1085102592571150095 : Int64) = y at a3 ⊢
  exact bc_fold (pc8 b0) (pc8 b1) (pc8 b2) (pc8 b3) (pc8 b4) (pc8 b5) (pc8 b6) (pc8 b7) (b_dec b0 l0).2.2.2.1 (b_dec b1 l1).2.2.2.1 (b_dec b2 l2).2.2.2.1 (b_dec b3 l3).2.2.2.1 (b_dec b4 l4).2.2.2.1 (b_dec b5 l5).2.2.2.1 (b_dec b6 l6).2.2.2.1 (b_dec b7 l7).2.2.2.1 v y a3
theorem sum1 {p0 p1 p2 p3 p4 p5 p6 p7 : Nat} (h : p0 + p1 + p2 + p3 + p4 + p5 + p6 + p7 = 1) : (p0 = 1 ∧ p1 = 0 ∧ p2 = 0 ∧ p3 = 0 ∧ p4 = 0 ∧ p5 = 0 ∧ p6 = 0 ∧ p7 = 0) ∨ (p0 = 0 ∧ p1 = 1 ∧ p2 = 0 ∧ p3 = 0 ∧ p4 = 0 ∧ p5 = 0 ∧ p6 = 0 ∧ p7 = 0) ∨ (p0 = 0 ∧ p1 = 0 ∧ p2 = 1 ∧ p3 = 0 ∧ p4 = 0 ∧ p5 = 0 ∧ p6 = 0 ∧ p7 = 0) ∨ (p0 = 0 ∧ p1 = 0 ∧ p2 = 0 ∧ p3 = 1 ∧ p4 = 0 ∧ p5 = 0 ∧ p6 = 0 ∧ p7 = 0) ∨ (p0 = 0 ∧ p1 = 0 ∧ p2 = 0 ∧ p3 = 0 ∧ p4 = 1 ∧ p5 = 0 ∧ p6 = 0 ∧ p7 = 0) ∨ (p0 = 0 ∧ p1 = 0 ∧ p2 = 0 ∧ p3 = 0 ∧ p4 = 0 ∧ p5 = 1 ∧ p6 = 0 ∧ p7 = 0) ∨ (p0 = 0 ∧ p1 = 0 ∧ p2 = 0 ∧ p3 = 0 ∧ p4 = 0 ∧ p5 = 0 ∧ p6 = 1 ∧ p7 = 0) ∨ (p0 = 0 ∧ p1 = 0 ∧ p2 = 0 ∧ p3 = 0 ∧ p4 = 0 ∧ p5 = 0 ∧ p6 = 0 ∧ p7 = 1) := by omega
theorem bc1_iff (v : Int64) (hbit : ∀ r, r < 64 → f_Lo_bitCount ((1 : Int64) <<< ((nI r).toInt64 &&& 63)) = 1) : f_Lo_bitCount v = 1 ↔ ∃ r, r < 64 ∧ un v = 2 ^ r := by
  constructor
  · intro h
    have he := ev_bytes (un v) (un_lt v)
    have hl : ∀ x : Nat, x % 256 < 256 := fun x => Nat.mod_lt _ (by decide)
    have h1 := bc_list v _ _ _ _ _ _ _ _ (hl _) (hl _) (hl _) (hl _) (hl _) (hl _) (hl _) (hl _) he
    rw [h] at h1
    have z0 := b_dec (un v % 256) (hl _)
    have z1 := b_dec (un v / 256 % 256) (hl _)
    have z2 := b_dec (un v / 2 ^ 16 % 256) (hl _)
    have z3 := b_dec (un v / 2 ^ 24 % 256) (hl _)
    have z4 := b_dec (un v / 2 ^ 32 % 256) (hl _)
    have z5 := b_dec (un v / 2 ^ 40 % 256) (hl _)
    have z6 := b_dec (un v / 2 ^ 48 % 256) (hl _)
    have z7 := b_dec (un v / 2 ^ 56 % 256) (hl _)
    generalize un v % 256 = b0 at he h1 z0
    generalize un v / 256 % 256 = b1 at he h1 z1
    generalize un v / 2 ^ 16 % 256 = b2 at he h1 z2
    generalize un v / 2 ^ 24 % 256 = b3 at he h1 z3
    generalize un v / 2 ^ 32 % 256 = b4 at he h1 z4
    generalize un v / 2 ^ 40 % 256 = b5 at he h1 z5
    generalize un v / 2 ^ 48 % 256 = b6 at he h1 z6
    generalize un v / 2 ^ 56 % 256 = b7 at he h1 z7
    have h2 : nI 1 = nI (pc8 b0 + pc8 b1 + pc8 b2 + pc8 b3 + pc8 b4 + pc8 b5 + pc8 b6 + pc8 b7) := h1
    have b8 : pc8 b0 ≤ 8 ∧ pc8 b1 ≤ 8 ∧ pc8 b2 ≤ 8 ∧ pc8 b3 ≤ 8 ∧ pc8 b4 ≤ 8 ∧ pc8 b5 ≤ 8 ∧ pc8 b6 ≤ 8 ∧ pc8 b7 ≤ 8 := ⟨z0.2.2.2.1, z1.2.2.2.1, z2.2.2.2.1, z3.2.2.2.1, z4.2.2.2.1, z5.2.2.2.1, z6.2.2.2.1, z7.2.2.2.1⟩
    rw [nI_eq (by decide) (by clear h h1 he z0 z1 z2 z3 z4 z5 z6 z7; omega)] at h2
    have cs := sum1 h2.symm
    clear h h1 h2 b8
    simp only [ev] at he
    rcases cs with ⟨c0, c1, c2, c3, c4, c5, c6, c7⟩ | ⟨c0, c1, c2, c3, c4, c5, c6, c7⟩ | ⟨c0, c1, c2, c3, c4, c5, c6, c7⟩ | ⟨c0, c1, c2, c3, c4, c5, c6, c7⟩ | ⟨c0, c1, c2, c3, c4, c5, c6, c7⟩ | ⟨c0, c1, c2, c3, c4, c5, c6, c7⟩ | ⟨c0, c1, c2, c3, c4, c5, c6, c7⟩ | ⟨c0, c1, c2, c3, c4, c5, c6, c7⟩
    · obtain ⟨i, hi, e⟩ := z0.2.2.2.2.2 c0
      have d1 := z1.2.2.2.2.1 c1
      have d2 := z2.2.2.2.2.1 c2
      have d3 := z3.2.2.2.2.1 c3
      have d4 := z4.2.2.2.2.1 c4
      have d5 := z5.2.2.2.2.1 c5
      have d6 := z6.2.2.2.2.1 c6
      have d7 := z7.2.2.2.2.1 c7
      clear z0 c0 z1 c1 z2 c2 z3 c3 z4 c4 z5 c5 z6 c6 z7 c7
      exact ⟨i, by omega, by rw [← e]; clear e; omega⟩
    · obtain ⟨i, hi, e⟩ := z1.2.2.2.2.2 c1
      have d0 := z0.2.2.2.2.1 c0
      have d2 := z2.2.2.2.2.1 c2
      have d3 := z3.2.2.2.2.1 c3
      have d4 := z4.2.2.2.2.1 c4
      have d5 := z5.2.2.2.2.1 c5
      have d6 := z6.2.2.2.2.1 c6
      have d7 := z7.2.2.2.2.1 c7
      clear z0 c0 z1 c1 z2 c2 z3 c3 z4 c4 z5 c5 z6 c6 z7 c7
      exact ⟨8 + i, by omega, by rw [Nat.pow_add, ← e]; clear e; omega⟩
    · obtain ⟨i, hi, e⟩ := z2.2.2.2.2.2 c2
      have d0 := z0.2.2.2.2.1 c0
      have d1 := z1.2.2.2.2.1 c1
      have d3 := z3.2.2.2.2.1 c3
      have d4 := z4.2.2.2.2.1 c4
      have d5 := z5.2.2.2.2.1 c5
      have d6 := z6.2.2.2.2.1 c6
      have d7 := z7.2.2.2.2.1 c7
      clear z0 c0 z1 c1 z2 c2 z3 c3 z4 c4 z5 c5 z6 c6 z7 c7
      exact ⟨16 + i, by omega, by rw [Nat.pow_add, ← e]; clear e; omega⟩
    · obtain ⟨i, hi, e⟩ := z3.2.2.2.2.2 c3
      have d0 := z0.2.2.2.2.1 c0
      have d1 := z1.2.2.2.2.1 c1
      have d2 := z2.2.2.2.2.1 c2
      have d4 := z4.2.2.2.2.1 c4
      have d5 := z5.2.2.2.2.1 c5
      have d6 := z6.2.2.2.2.1 c6
      have d7 := z7.2.2.2.2.1 c7
      clear z0 c0 z1 c1 z2 c2 z3 c3 z4 c4 z5 c5 z6 c6 z7 c7
      exact ⟨24 + i, by omega, by rw [Nat.pow_add, ← e]; clear e; omega⟩
    · obtain ⟨i, hi, e⟩ := z4.2.2.2.2.2 c4
      have d0 := z0.2.2.2.2.1 c0
      have d1 := z1.2.2.2.2.1 c1
      have d2 := z2.2.2.2.2.1 c2
      have d3 := z3.2.2.2.2.1 c3
      have d5 := z5.2.2.2.2.1 c5
      have d6 := z6.2.2.2.2.1 c6
      have d7 := z7.2.2.2.2.1 c7
      clear z0 c0 z1 c1 z2 c2 z3 c3 z4 c4 z5 c5 z6 c6 z7 c7
      exact ⟨32 + i, by omega, by rw [Nat.pow_add, ← e]; clear e; omega⟩
    · obtain ⟨i, hi, e⟩ := z5.2.2.2.2.2 c5
      have d0 := z0.2.2.2.2.1 c0
      have d1 := z1.2.2.2.2.1 c1
      have d2 := z2.2.2.2.2.1 c2
      have d3 := z3.2.2.2.2.1 c3
      have d4 := z4.2.2.2.2.1 c4
      have d6 := z6.2.2.2.2.1 c6
      have d7 := z7.2.2.2.2.1 c7
      clear z0 c0 z1 c1 z2 c2 z3 c3 z4 c4 z5 c5 z6 c6 z7 c7
      exact ⟨40 + i, by omega, by rw [Nat.pow_add, ← e]; clear e; omega⟩
    · obtain ⟨i, hi, e⟩ := z6.2.2.2.2.2 c6
      have d0 := z0.2.2.2.2.1 c0
      have d1 := z1.2.2.2.2.1 c1
      have d2 := z2.2.2.2.2.1 c2
      have d3 := z3.2.2.2.2.1 c3
      have d4 := z4.2.2.2.2.1 c4
      have d5 := z5.2.2.2.2.1 c5
      have d7 := z7.2.2.2.2.1 c7
      clear z0 c0 z1 c1 z2 c2 z3 c3 z4 c4 z5 c5 z6 c6 z7 c7
      exact ⟨48 + i, by omega, by rw [Nat.pow_add, ← e]; clear e; omega⟩
    · obtain ⟨i, hi, e⟩ := z7.2.2.2.2.2 c7
      have d0 := z0.2.2.2.2.1 c0
      have d1 := z1.2.2.2.2.1 c1
      have d2 := z2.2.2.2.2.1 c2
      have d3 := z3.2.2.2.2.1 c3
      have d4 := z4.2.2.2.2.1 c4
      have d5 := z5.2.2.2.2.1 c5
      have d6 := z6.2.2.2.2.1 c6
      clear z0 c0 z1 c1 z2 c2 z3 c3 z4 c4 z5 c5 z6 c6 z7 c7
      exact ⟨56 + i, by omega, by rw [Nat.pow_add, ← e]; clear e; omega⟩
  · rintro ⟨r, hr, h⟩
    have : v = (1 : Int64) <<< ((nI r).toInt64 &&& 63) := un_inj (by rw [h, un_bit r hr])
    rw [this]
    exact hbit r hr
