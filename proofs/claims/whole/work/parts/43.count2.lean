theorem ev_d1 {a : Nat} {R : List Nat} (h : a < 256) : ev (a :: R) / 2 ^ 8 = ev R := by
  simp only [ev]; omega
theorem ev_d2 {a b : Nat} {R : List Nat} (h : a < 256) (h1 : b < 256) : ev (a :: b :: R) / 2 ^ 16 = ev R := by
  simp only [ev]; generalize ev R = V; omega
theorem ev_d4 {a b c d : Nat} {R : List Nat} (h : a < 256) (h1 : b < 256) (h2 : c < 256) (h3 : d < 256) : ev (a :: b :: c :: d :: R) / 2 ^ 32 = ev R := by
  simp only [ev]; generalize ev R = V; omega
theorem ev_lt {a b c d e f g h : Nat} (ha : a < 256) (hb : b < 256) (hc : c < 256) (hd : d < 256) (he : e < 256) (hf : f < 256) (hg : g < 256) (hh : h < 256) : ev [a, b, c, d, e, f, g, h] < 2 ^ 64 := by
  simp only [ev]; omega
theorem bc_fold (y0 y1 y2 y3 y4 y5 y6 y7 : Nat) (h0 : y0 ≤ 8) (h1 : y1 ≤ 8) (h2 : y2 ≤ 8) (h3 : y3 ≤ 8) (h4 : y4 ≤ 8) (h5 : y5 ≤ 8) (h6 : y6 ≤ 8) (h7 : y7 ≤ 8) (z v : Int64) (hv : un v = ev [y0, y1, y2, y3, y4, y5, y6, y7]) : f_Lo_bitCount_33v z v = nI (y0 + y1 + y2 + y3 + y4 + y5 + y6 + y7) := by
  have sh : ∀ (x : Int64) (k : Int32) (n : Nat), (k.toInt64.toUInt64 &&& Int64.toUInt64 63).toNat % 64 = n → un (x.toUInt64 >>> (k.toInt64.toUInt64 &&& Int64.toUInt64 63)).toInt64 = un x / 2 ^ n := fun x k n h => by rw [un_ushr, h]
  unfold f_Lo_bitCount_33v f_Lo_bitCount_40v f_Lo_bitCount_47v f_Lo_bitCount_54v
  have a1 : un (v + (v.toUInt64 >>> ((8 : Int32).toInt64.toUInt64 &&& Int64.toUInt64 63)).toInt64) = ev [y0 + y1, y1 + y2, y2 + y3, y3 + y4, y4 + y5, y5 + y6, y6 + y7, y7] := by
    have e : ev [y0, y1, y2, y3, y4, y5, y6, y7] + ev [y1, y2, y3, y4, y5, y6, y7] = ev [y0 + y1, y1 + y2, y2 + y3, y3 + y4, y4 + y5, y5 + y6, y6 + y7, y7] := by simp only [ev]; omega
    rw [un_add, sh v 8 8 (by decide), hv, ev_d1 (by omega), e]
    exact Nat.mod_eq_of_lt (ev_lt (by omega) (by omega) (by omega) (by omega) (by omega) (by omega) (by omega) (by omega))
  generalize v + (v.toUInt64 >>> ((8 : Int32).toInt64.toUInt64 &&& Int64.toUInt64 63)).toInt64 = v1 at a1
  have a2 : un (v1 + (v1.toUInt64 >>> ((16 : Int32).toInt64.toUInt64 &&& Int64.toUInt64 63)).toInt64) = ev [y0 + y1 + (y2 + y3), y1 + y2 + (y3 + y4), y2 + y3 + (y4 + y5), y3 + y4 + (y5 + y6), y4 + y5 + (y6 + y7), y5 + y6 + y7, y6 + y7, y7] := by
    have e : ev [y0 + y1, y1 + y2, y2 + y3, y3 + y4, y4 + y5, y5 + y6, y6 + y7, y7] + ev [y2 + y3, y3 + y4, y4 + y5, y5 + y6, y6 + y7, y7] = ev [y0 + y1 + (y2 + y3), y1 + y2 + (y3 + y4), y2 + y3 + (y4 + y5), y3 + y4 + (y5 + y6), y4 + y5 + (y6 + y7), y5 + y6 + y7, y6 + y7, y7] := by simp only [ev]; omega
    rw [un_add, sh v1 16 16 (by decide), a1, ev_d2 (by omega) (by omega), e]
    exact Nat.mod_eq_of_lt (ev_lt (by omega) (by omega) (by omega) (by omega) (by omega) (by omega) (by omega) (by omega))
  generalize v1 + (v1.toUInt64 >>> ((16 : Int32).toInt64.toUInt64 &&& Int64.toUInt64 63)).toInt64 = v2 at a2
  have a3 : un (v2 + (v2.toUInt64 >>> ((32 : Int32).toInt64.toUInt64 &&& Int64.toUInt64 63)).toInt64) % 128 = y0 + y1 + y2 + y3 + y4 + y5 + y6 + y7 := by
    rw [un_add, sh v2 32 32 (by decide), a2, ev_d4 (by omega) (by omega) (by omega) (by omega)]
    show (256 * ev _ + (y0 + y1 + (y2 + y3)) + (256 * ev _ + (y4 + y5 + (y6 + y7)))) % 2 ^ 64 % 128 = _
    generalize ev [y1 + y2 + (y3 + y4), y2 + y3 + (y4 + y5), y3 + y4 + (y5 + y6), y4 + y5 + (y6 + y7), y5 + y6 + y7, y6 + y7, y7] = A
    generalize ev [y5 + y6 + y7, y6 + y7, y7] = B
    clear hv a1 a2
    omega
  generalize v2 + (v2.toUInt64 >>> ((32 : Int32).toInt64.toUInt64 &&& Int64.toUInt64 63)).toInt64 = v3 at a3
  clear hv a1 a2
  apply Int32.toBitVec_inj.mp
  apply BitVec.eq_of_toNat_eq
  rw [Int32.toBitVec_and, BitVec.toNat_and]
  have e1 : v3.toInt32.toBitVec.toNat = un v3 % 2 ^ 32 := by
    show (v3.toBitVec.signExtend 32).toNat = _
    rw [BitVec.signExtend_eq_setWidth_of_le _ (by decide), BitVec.toNat_setWidth]; rfl
  have e2 : (127 : Int32).toBitVec.toNat = 2 ^ 7 - 1 := by decide
  have e3 : (nI (y0 + y1 + y2 + y3 + y4 + y5 + y6 + y7)).toBitVec.toNat = (y0 + y1 + y2 + y3 + y4 + y5 + y6 + y7) % 2 ^ 32 := by
    show (BitVec.ofNat 32 _).toNat = _
    rw [BitVec.toNat_ofNat]
  rw [e1, e2, e3, Nat.and_two_pow_sub_one_eq_mod]
  generalize y0 + y1 + y2 + y3 + y4 + y5 + y6 + y7 = S at a3
  omega
