/-! operate -/
theorem low32 : f_N_lowest 32 = 4294967295 := by decide
theorem trimmed32 (v : Int64) : f_N_trimmed v 32 = v &&& (4294967295 : Int64) := by unfold f_N_trimmed; rw [low32]
theorem trimmed64 (v : Int64) : f_N_trimmed v 64 = v := by
  unfold f_N_trimmed
  have : f_N_lowest 64 = -1 := by decide
  rw [this]
  exact tb_ext (fun i hi => by rw [tb_and, tb_m1 hi, Bool.and_true])
theorem ext32 (v : Int64) : f_N_extended v 32 = v.toInt32.toInt64 := by
  apply ti_inj
  have e := ti_ext v (n := 32) (by decide) (by decide)
  have e1 : (f_N_extended v 32).toInt = if un v % 2 ^ 32 < 2 ^ 31 then ((un v % 2 ^ 32 : Nat) : Int) else ((un v % 2 ^ 32 : Nat) : Int) - 2 ^ 32 := e
  rw [e1, Int32.toInt_toInt64]
  have e2 : v.toInt32.toInt = if 2 * v.toInt32.toBitVec.toNat < 2 ^ 32 then (v.toInt32.toBitVec.toNat : Int) else (v.toInt32.toBitVec.toNat : Int) - 2 ^ 32 := BitVec.toInt_eq_toNat_cond _
  rw [e2, toInt32_nat]
  have h := Nat.mod_lt (un v) (show 2 ^ 32 > 0 by decide)
  generalize un v % 2 ^ 32 = N at h ⊢
  by_cases c : N < 2 ^ 31
  · rw [if_pos c, if_pos (by omega)]
  · rw [if_neg c, if_neg (by omega)]
/-- an operation of 64 bits -/
theorem op64 {v : Nat → VV} {w : Nat → Int64} {r : Nat → VV} (h : INV v w r) (t : Int32) (z : VV) (op : Int32) {P A B : Nat} (hP : P < 16) (hA : A < 16) (hB : B < 16) : LNK (0, (f_S_write_z v w t (v A) (v B) (f_O_make z op (v A) (v B) 63) P (f_O_reckon op (w A) (w B) 63)).1, (f_S_write_z v w t (v A) (v B) (f_O_make z op (v A) (v B) 63) P (f_O_reckon op (w A) (w B) 63)).2.1, (f_S_write_z v w t (v A) (v B) (f_O_make z op (v A) (v B) 63) P (f_O_reckon op (w A) (w B) 63)).2.2, v A, v B, f_O_make z op (v A) (v B) 63) (0, (f_M_put (f_M_apply (f_M_copy (f_M_copy r A 16) B 17) op 63) w t P 18 (f_M_reckon op (w A) (w B) 63)).1, (f_M_put (f_M_apply (f_M_copy (f_M_copy r A 16) B 17) op 63) w t P 18 (f_M_reckon op (w A) (w B) 63)).2.1, (f_M_put (f_M_apply (f_M_copy (f_M_copy r A 16) B 17) op 63) w t P 18 (f_M_reckon op (w A) (w B) 63)).2.2) := by
  obtain ⟨a1, a2, a3⟩ := h A hA
  obtain ⟨b1, b2, b3⟩ := h B hB
  rw [copy_eq r (show ¬ A = 16 by omega), copy_eq _ (show ¬ B = 17 by omega), up_ne _ _ (show ¬ B = 16 by omega), a1, b1]
  have e16 : va_up (va_up r 16 (v A)) 17 (v B) 16 = v A := rfl
  have e17 : va_up (va_up r 16 (v A)) 17 (v B) 17 = v B := rfl
  rw [apply_pre (va_up (va_up r 16 (v A)) 17 (v B)) op (v := w A) (w := w B) (by rw [e16]; exact a2) (by rw [e16]; exact a3) (by rw [e17]; exact b2) (by rw [e17]; exact b3) (Or.inl rfl) z, e16, e17, reckon_eq op (w A) (w B) (Or.inl rfl)]
  obtain ⟨g1, g2⟩ := make_good z op a2 a3 b2 b3 (Or.inl rfl : (63 : Int32) = 63 ∨ (63 : Int32) = 31)
  exact lnk_put h (fun j hj => by rw [up_ne _ _ (by omega), up_ne _ _ (by omega), up_ne _ _ (by omega)]) t _ _ _ _ hP (up_at _ _ _) g1 g2
/-- the rest of an operation of 32 bits -/
theorem op32 {v : Nat → VV} {w : Nat → Int64} {r R : Nat → VV} (h : INV v w r) (hR : ∀ j, j < 16 → R j = r j) (t : Int32) (z : VV) (op : Int32) {P B : Nat} (hP : P < 16) (hB : B < 16) {X : VV} {q : Int64} (hX : R 16 = X) (gX : good X) (kX : kn X q) : LNK (0, (f_S_write_z v w t X (f_V_trim (v B) 32) (f_V_trim (f_O_make z op X (f_V_trim (v B) 32) 31) 32) P (f_N_trimmed (f_O_reckon op q (f_N_trimmed (w B) 32) 31) 32)).1, (f_S_write_z v w t X (f_V_trim (v B) 32) (f_V_trim (f_O_make z op X (f_V_trim (v B) 32) 31) 32) P (f_N_trimmed (f_O_reckon op q (f_N_trimmed (w B) 32) 31) 32)).2.1, (f_S_write_z v w t X (f_V_trim (v B) 32) (f_V_trim (f_O_make z op X (f_V_trim (v B) 32) 31) 32) P (f_N_trimmed (f_O_reckon op q (f_N_trimmed (w B) 32) 31) 32)).2.2, X, f_V_trim (v B) 32, f_V_trim (f_O_make z op X (f_V_trim (v B) 32) 31) 32) (0, (f_M_put (f_M_cutRow (f_M_copy (f_M_apply (f_M_cutRow R B 17 32) op 31) 18 16) 16 18 32) w t P 18 ((f_M_reckon op q (w B &&& (4294967295 : Int64)) 31) &&& (4294967295 : Int64))).1, (f_M_put (f_M_cutRow (f_M_copy (f_M_apply (f_M_cutRow R B 17 32) op 31) 18 16) 16 18 32) w t P 18 ((f_M_reckon op q (w B &&& (4294967295 : Int64)) 31) &&& (4294967295 : Int64))).2.1, (f_M_put (f_M_cutRow (f_M_copy (f_M_apply (f_M_cutRow R B 17 32) op 31) 18 16) 16 18 32) w t P 18 ((f_M_reckon op q (w B &&& (4294967295 : Int64)) 31) &&& (4294967295 : Int64))).2.2) := by
  obtain ⟨b1, b2, b3⟩ := h B hB
  have eB : R B = v B := (hR B hB).trans b1
  have t1 := trim_good b2 b3 (n := 32) (by decide)
  have t1a : good (f_V_trim (v B) 32) := t1.1
  have t1b : kn (f_V_trim (v B) 32) (f_N_trimmed (w B) 32) := t1.2
  have c1 : f_M_cutRow R B 17 32 = va_up (va_up R 19 (v B)) 17 (f_V_trim (v B) 32) := by
    have := cut_eq R (p := B) (q := 17) (by omega) (by decide) (v := w B) (by rw [eB]; exact b2) (by rw [eB]; exact b3) (n := 32) (by decide)
    rw [eB] at this
    exact this
  rw [c1]
  have e16 : va_up (va_up R 19 (v B)) 17 (f_V_trim (v B) 32) 16 = X := hX
  have e17 : va_up (va_up R 19 (v B)) 17 (f_V_trim (v B) 32) 17 = f_V_trim (v B) 32 := rfl
  rw [apply_pre (va_up (va_up R 19 (v B)) 17 (f_V_trim (v B) 32)) op (v := q) (w := f_N_trimmed (w B) 32) (by rw [e16]; exact gX) (by rw [e16]; exact kX) (by rw [e17]; exact t1a) (by rw [e17]; exact t1b) (Or.inr rfl) z, e16, e17]
  obtain ⟨g1, g2⟩ := make_good z op gX kX t1a t1b (Or.inr rfl : (31 : Int32) = 63 ∨ (31 : Int32) = 31)
  rw [copy_eq _ (show ¬ (18 : Nat) = 16 by decide), up_at]
  generalize f_O_make z op X (f_V_trim (v B) 32) 31 = M at g1 g2 ⊢
  have t2 := trim_good g1 g2 (n := 32) (by decide)
  have t2a : good (f_V_trim M 32) := t2.1
  have t2b : kn (f_V_trim M 32) (f_N_trimmed (f_O_reckon op q (f_N_trimmed (w B) 32) 31) 32) := t2.2
  have c2 : ∀ Q : Nat → VV, f_M_cutRow (va_up Q 16 M) 16 18 32 = va_up (va_up (va_up Q 16 M) 19 M) 18 (f_V_trim M 32) := fun Q => by
    have := cut_eq (va_up Q 16 M) (p := 16) (q := 18) (by decide) (by decide) (v := f_O_reckon op q (f_N_trimmed (w B) 32) 31) (by rw [up_at]; exact g1) (by rw [up_at]; exact g2) (n := 32) (by decide)
    rw [up_at] at this
    exact this
  rw [c2, reckon_eq op q _ (Or.inr rfl), ← trimmed32, ← trimmed32]
  exact lnk_put h (fun j hj => by rw [up_ne _ _ (by omega), up_ne _ _ (by omega), up_ne _ _ (by omega), up_ne _ _ (by omega), up_ne _ _ (by omega), up_ne _ _ (by omega)]; exact hR j hj) t _ _ _ _ hP (up_at _ _ _) t2a t2b
theorem le11 (p : Int32) : p ≤ (11 : Int32) ↔ ¬ (12 : Int32) ≤ p := by
  rw [Int32.le_iff_toInt_le, Int32.le_iff_toInt_le]
  have e1 : (11 : Int32).toInt = 11 := by decide
  have e2 : (12 : Int32).toInt = 12 := by decide
  rw [e1, e2]; omega
theorem link_operate {v : Nat → VV} {w : Nat → Int64} {r : Nat → VV} (h : INV v w r) (t : Int32) (x y z : VV) (op n d a b : Int32) : LNK (f_S_operate v w t x y z op n d a b) (f_M_operate r w t op n d a b) := by
  unfold f_S_operate f_M_operate f_M_operate_6g f_V_take
  by_cases hd : okp d
  · rw [if_pos ((rp_iff d).mpr hd)]
    by_cases ha : okp a
    · rw [if_pos ((rp_iff a).mpr ha)]
      by_cases hb : okp b
      · obtain ⟨i1, i2⟩ := ie_nI hd
        obtain ⟨j1, j2⟩ := ie_nI ha
        obtain ⟨k1, k2⟩ := ie_nI hb
        have e2 : ∀ c, f_M_operate_40 r w t op n d a b c = (2, r, w, t) := fun c => by unfold f_M_operate_40 f_M_operate_41; rw [if_neg (show ¬ ((2 : Int32) ≤ 0) by decide)]
        rw [np_yes hd ha hb, if_pos ((rp_iff b).mpr hb), if_neg (show ¬ ((false, (0 : Int32)).1 = true) by decide)]
        simp only [e2]
        by_cases o1 : op < 0
        · rw [if_pos o1, if_pos o1]; exact lnk_no h t x y _ 2
        rw [if_neg o1, if_neg o1]
        by_cases o2 : op ≤ 11
        · rw [if_pos o2, if_neg ((le11 op).mp o2)]
          by_cases n1 : n = 64
          · rw [if_pos n1, if_pos n1]
            unfold f_M_operate_36 f_M_operate_41
            rw [if_pos (show (0 : Int32) ≤ 0 by decide), if_pos n1]
            unfold f_M_operate_63g f_M_operate_71g f_M_operate_78g f_M_operate_105g
            rw [n1, show (64 : Int32) - 1 = 63 from rfl]
            simp only [trim_64, trimmed64]
            exact op64 h t z op i2 j2 k2
          · rw [if_neg n1, if_neg n1]
            by_cases n2 : n = 32
            · rw [if_pos n2, if_pos n2]
              unfold f_M_operate_36 f_M_operate_41
              rw [if_pos (show (0 : Int32) ≤ 0 by decide), if_neg n1]
              obtain ⟨a1, a2, a3⟩ := h _ j2
              by_cases o3 : op = 10
              · rw [if_pos o3, if_pos o3]
                unfold f_M_operate_122g f_M_operate_138 f_M_operate_145g f_M_operate_152g f_M_operate_160g f_M_operate_170g f_M_operate_202 f_M_operate_231g
                rw [if_pos o3, n2, show (32 : Int32) - 1 = 31 from rfl, ext32]
                have eg := ext_good a2 a3 (n := 32) (by decide) (by decide)
                have eg1 : good (f_V_signExtend (v a.toNatClampNeg) 32) := eg.1
                have eg2 : kn (f_V_signExtend (v a.toNatClampNeg) 32) (f_N_extended (w a.toNatClampNeg) 32) := eg.2.1
                rw [ext32] at eg2
                have ee : f_M_extendRow r a.toNatClampNeg 16 32 = va_up (va_up (va_up r 19 (v a.toNatClampNeg)) 20 (f_V_trim (v a.toNatClampNeg) 32)) 16 (f_V_signExtend (v a.toNatClampNeg) 32) := by
                  have := ext_eq r (p := a.toNatClampNeg) (q := 16) (by omega) (by decide) (v := w a.toNatClampNeg) (by rw [a1]; exact a2) (by rw [a1]; exact a3) (n := 32) (by decide) (by decide)
                  rw [a1] at this
                  exact this
                rw [ee]
                exact op32 h (fun j hj => by rw [up_ne _ _ (by omega), up_ne _ _ (by omega), up_ne _ _ (by omega)]) t z op i2 k2 (up_at _ _ _) eg1 eg2
              · rw [if_neg o3, if_neg o3]
                unfold f_M_operate_135g f_M_operate_138 f_M_operate_145g f_M_operate_152g f_M_operate_160g f_M_operate_170g f_M_operate_202 f_M_operate_231g
                rw [if_neg o3, n2, show (32 : Int32) - 1 = 31 from rfl]
                have eg := trim_good a2 a3 (n := 32) (by decide)
                have eg1 : good (f_V_trim (v a.toNatClampNeg) 32) := eg.1
                have eg2 : kn (f_V_trim (v a.toNatClampNeg) 32) (f_N_trimmed (w a.toNatClampNeg) 32) := eg.2
                have ee : f_M_cutRow r a.toNatClampNeg 16 32 = va_up (va_up r 19 (v a.toNatClampNeg)) 16 (f_V_trim (v a.toNatClampNeg) 32) := by
                  have := cut_eq r (p := a.toNatClampNeg) (q := 16) (by omega) (by decide) (v := w a.toNatClampNeg) (by rw [a1]; exact a2) (by rw [a1]; exact a3) (n := 32) (by decide)
                  rw [a1] at this
                  exact this
                rw [ee, ← trimmed32 (w a.toNatClampNeg)]
                exact op32 h (fun j hj => by rw [up_ne _ _ (by omega), up_ne _ _ (by omega)]) t z op i2 k2 (up_at _ _ _) eg1 eg2
            · rw [if_neg n2, if_neg n2]; exact lnk_no h t x y _ 2
        · rw [if_neg o2, if_pos (Classical.not_not.mp (mt (le11 op).mpr o2))]; exact lnk_no h t x y _ 2
      · rw [np_no (fun z => hb z.2.2), if_neg (fun z => hb ((rp_iff b).mp z)), rp_1 hb, if_pos (show (true, (1 : Int32)).1 = true from rfl)]
        exact lnk_no h t x y _ 1
    · rw [np_no (fun z => ha z.2.1), if_neg (fun z => ha ((rp_iff a).mp z)), rp_1 ha, if_pos (show (true, (1 : Int32)).1 = true from rfl)]
      exact lnk_no h t x y _ 1
  · rw [np_no (fun z => hd z.1), if_neg (fun z => hd ((rp_iff d).mp z)), rp_1 hd, if_pos (show (true, (1 : Int32)).1 = true from rfl)]
    exact lnk_no h t x y z 1
