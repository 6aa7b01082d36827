/-! join, widen, the reading methods -/
theorem jl_low (a b : Int64) : f_M_lesser a b = if f_N_below b a = 0 then a else if (0 : Int32) = 0 then b else 0 := by
  rw [m_lesser, if_pos (show (0 : Int32) = 0 from rfl)]
  by_cases h : f_N_below b a = 0
  · rw [if_pos h]
    have := (n_below0 _ _).mp h
    split
    · rfl
    · exact un_inj (by omega)
  · rw [if_neg h]
    have := Classical.not_not.mp (mt (n_below0 b a).mpr h)
    rw [if_neg (by omega)]
theorem jl_high (a b : Int64) : f_M_larger a b = if f_N_below a b = 0 then a else if (0 : Int32) = 0 then b else -1 := by
  rw [m_larger, if_pos (show (0 : Int32) = 0 from rfl)]
  by_cases h : f_N_below a b = 0
  · rw [if_pos h, if_neg ((n_below0 _ _).mp h)]
  · rw [if_neg h, if_pos (Classical.not_not.mp (mt (n_below0 a b).mpr h))]
theorem jl_least (a b : Int64) : (if a < b then a else b) = if b < a then (if (0 : Int32) = 0 then b else -9223372036854775808) else a := by
  rw [if_pos (show (0 : Int32) = 0 from rfl), jmin_lt]; rfl
theorem jl_great (a b : Int64) : (if b < a then a else b) = if a < b then (if (0 : Int32) = 0 then b else 9223372036854775807) else a := by
  rw [if_pos (show (0 : Int32) = 0 from rfl), jmax_lt]; rfl
theorem joinBits_eq (r : Nat → VV) {a b : Nat} (ha : ¬ a = 18) : f_M_joinBits r a b = va_up r 18 ((r a).1 &&& (spO (r a) (r b) ^^^ (-1 : Int64)), spO (r a) (r b), (r 18).2.2.1, (r 18).2.2.2.1, (r 18).2.2.2.2.1, (r 18).2.2.2.2.2.1, (r 18).2.2.2.2.2.2) := by
  unfold f_M_joinBits f_M_joinBits_27v f_M_joinBits_35u f_M_joinBits_54u spO
  have : ∀ o, u2 r 18 o = va_up r 18 ((r 18).1, o, (r 18).2.2.1, (r 18).2.2.2.1, (r 18).2.2.2.2.1, (r 18).2.2.2.2.2.1, (r 18).2.2.2.2.2.2) := fun _ => rfl
  rw [this, u1_up, up_ne _ _ ha]
theorem join_core {v : Nat → VV} {w : Nat → Int64} {r : Nat → VV} (h : INV v w r) (t : Int32) (x y X Y : VV) {P A B : Nat} (hP : P < 16) (hA : A < 16) (hB : B < 16) (far : Int32) {q : Int64} (hq : q = w A ∨ q = w B) : LNK (0, (f_S_write_z v w t x y (f_V_spread (v A) (v B) far) P q).1, (f_S_write_z v w t x y (f_V_spread (v A) (v B) far) P q).2.1, (f_S_write_z v w t x y (f_V_spread (v A) (v B) far) P q).2.2, X, Y, f_V_spread (v A) (v B) far) (0, (f_M_put (f_M_tighten (va_up r 18 (spP (v A) (v B) far)) 18) w t P 18 q).1, (f_M_put (f_M_tighten (va_up r 18 (spP (v A) (v B) far)) 18) w t P 18 q).2.1, (f_M_put (f_M_tighten (va_up r 18 (spP (v A) (v B) far)) 18) w t P 18 q).2.2) := by
  obtain ⟨a1, a2, a3⟩ := h A hA
  obtain ⟨b1, b2, b3⟩ := h B hB
  rw [spread_pre]
  refine lnk_tail h t x y X Y hP (spread_hld far (good_flag a2) ?_)
  rcases hq with e | e
  · rw [e]; exact Or.inl a3
  · rw [e]; exact Or.inr b3
theorem spP_flag {x y : VV} (hx : x.2.2.2.2.2.2 = false) (far : Int32) : spP x y far = (x.1 &&& (spO x y ^^^ (-1 : Int64)), spO x y,
  if f_N_below y.2.2.1 x.2.2.1 = 0 then x.2.2.1 else if far = 0 then y.2.2.1 else 0,
  if f_N_below x.2.2.2.1 y.2.2.2.1 = 0 then x.2.2.2.1 else if far = 0 then y.2.2.2.1 else -1,
  if y.2.2.2.2.1 < x.2.2.2.2.1 then (if far = 0 then y.2.2.2.2.1 else -9223372036854775808) else x.2.2.2.2.1,
  if x.2.2.2.2.2.1 < y.2.2.2.2.2.1 then (if far = 0 then y.2.2.2.2.2.1 else 9223372036854775807) else x.2.2.2.2.2.1, false) := by
  unfold spP
  rw [hx]
theorem join_98 (r : Nat → VV) (w : Nat → Int64) (t d a b : Int32) (f : Bool) (k : Int32) (R : Nat → VV) {A B : Nat} (eA : a.toNatClampNeg = A) (eB : b.toNatClampNeg = B) (hA : ¬ A = 18) (hB : ¬ B = 18) (Z : VV) : f_M_join_98u r w t d a b f k (va_up R 18 Z) = f_M_join_148g r w t d a b f k (f_M_tighten (va_up R 18 (Z.1, Z.2.1, Z.2.2.1, Z.2.2.2.1, Z.2.2.2.2.1, if (R B).2.2.2.2.2.1 < (R A).2.2.2.2.2.1 then (R A).2.2.2.2.2.1 else (R B).2.2.2.2.2.1, false)) 18) := by
  unfold f_M_join_98u f_M_join_136 f_M_join_136u f_M_join_144u
  rw [eA, eB, up_ne _ _ hA, up_ne _ _ hB]
  split <;> rw [u6_up, u7_up]
theorem join_60 (r : Nat → VV) (w : Nat → Int64) (t d a b : Int32) (f : Bool) (k : Int32) (R : Nat → VV) {A B : Nat} (eA : a.toNatClampNeg = A) (eB : b.toNatClampNeg = B) (hA : ¬ A = 18) (hB : ¬ B = 18) (z1 z2 z3 z4 z5 z6 : Int64) (z7 : Bool) : f_M_join_60u r w t d a b f k (va_up R 18 (z1, z2, z3, z4, z5, z6, z7)) = f_M_join_148g r w t d a b f k (f_M_tighten (va_up R 18 (z1, z2, z3, z4, if (R A).2.2.2.2.1 < (R B).2.2.2.2.1 then (R A).2.2.2.2.1 else (R B).2.2.2.2.1, if (R B).2.2.2.2.2.1 < (R A).2.2.2.2.2.1 then (R A).2.2.2.2.2.1 else (R B).2.2.2.2.2.1, false)) 18) := by
  unfold f_M_join_60u f_M_join_98
  simp only [u5_up, join_98 r w t d a b f k R eA eB hA hB, eA, eB, up_ne _ _ hA, up_ne _ _ hB]
  rcases Classical.propComplete ((R A).2.2.2.2.1 < (R B).2.2.2.2.1) with c | c <;> simp only [c, if_true, if_false]
theorem link_join {v : Nat → VV} {w : Nat → Int64} {r : Nat → VV} (h : INV v w r) (t : Int32) (x y z : VV) (d a b : Int32) (f : Bool) : LNK (f_S_join v w t x y z d a b (bI f)) (f_M_join r w t d a b f) := by
  unfold f_S_join f_M_join f_M_join_4g f_V_take
  by_cases hd : okp d
  · rw [if_pos ((rp_iff d).mpr hd)]
    by_cases ha : okp a
    · rw [if_pos ((rp_iff a).mpr ha)]
      by_cases hb : okp b
      · obtain ⟨i1, i2⟩ := ie_nI hd
        obtain ⟨j1, j2⟩ := ie_nI ha
        obtain ⟨k1, k2⟩ := ie_nI hb
        rw [np_yes hd ha hb, if_pos ((rp_iff b).mpr hb), if_neg (show ¬ ((false, (0 : Int32)).1 = true) by decide)]
        obtain ⟨e1, e2, e3⟩ := h _ j2
        obtain ⟨q1, q2, q3⟩ := h _ k2
        have hA : ¬ a.toNatClampNeg = 18 := by omega
        have hB : ¬ b.toNatClampNeg = 18 := by omega
        have key : f_M_join_14g r w t d a b f 0 (f_M_joinBits r a.toNatClampNeg b.toNatClampNeg) = f_M_join_148g r w t d a b f 0 (f_M_tighten (va_up r 18 (spP (v a.toNatClampNeg) (v b.toNatClampNeg) 0)) 18) := by
          unfold f_M_join_14g f_M_join_38u
          rw [joinBits_eq r hA]
          simp only [u3_up, u4_up, up_ne _ _ hA, up_ne _ _ hB]
          rw [join_60 r w t d a b f 0 r rfl rfl hA hB, e1, q1, spP_flag (good_flag e2), jl_low, jl_high, jl_least, jl_great]
        show LNK _ (f_M_join_14g r w t d a b f 0 (f_M_joinBits r a.toNatClampNeg b.toNatClampNeg))
        rw [key]
        unfold f_M_join_148g f_M_join_175 f_M_join_175g
        cases f
        · rw [if_pos (show bI false = 0 from rfl), if_neg (show ¬ (false = true) by decide)]
          exact join_core h t x y x y i2 j2 k2 0 (Or.inr rfl)
        · rw [if_neg (show ¬ bI true = 0 by decide), if_pos (show true = true from rfl)]
          exact join_core h t x y x y i2 j2 k2 0 (Or.inl rfl)
      · rw [np_no (fun z => hb z.2.2), if_neg (fun z => hb ((rp_iff b).mp z)), rp_1 hb, if_pos (show (true, (1 : Int32)).1 = true from rfl)]
        exact lnk_no h t x y _ 1
    · rw [np_no (fun z => ha z.2.1), if_neg (fun z => ha ((rp_iff a).mp z)), rp_1 ha, if_pos (show (true, (1 : Int32)).1 = true from rfl)]
      exact lnk_no h t x y _ 1
  · rw [np_no (fun z => hd z.1), if_neg (fun z => hd ((rp_iff d).mp z)), rp_1 hd, if_pos (show (true, (1 : Int32)).1 = true from rfl)]
    exact lnk_no h t x y z 1
theorem w_low (a b : Int64) : (if f_M_below b a = true then (0 : Int64) else a) = if f_N_below b a = 0 then a else if (1 : Int32) = 0 then b else 0 := by
  rw [if_neg (show ¬ (1 : Int32) = 0 by decide)]
  by_cases h : f_N_below b a = 0
  · rw [if_pos h, if_neg (fun z => (n_below0 _ _).mp h ((m_below1 _ _).mp z))]
  · rw [if_neg h, if_pos ((m_below1 _ _).mpr (Classical.not_not.mp (mt (n_below0 b a).mpr h)))]
theorem w_high (a b : Int64) : (if f_M_below a b = true then (-1 : Int64) else a) = if f_N_below a b = 0 then a else if (1 : Int32) = 0 then b else -1 := by
  rw [if_neg (show ¬ (1 : Int32) = 0 by decide)]
  by_cases h : f_N_below a b = 0
  · rw [if_pos h, if_neg (fun z => (n_below0 _ _).mp h ((m_below1 _ _).mp z))]
  · rw [if_neg h, if_pos ((m_below1 _ _).mpr (Classical.not_not.mp (mt (n_below0 a b).mpr h)))]
theorem wid_123 (r : Nat → VV) (w : Nat → Int64) (t d a b : Int32) (k : Int32) (R : Nat → VV) {A B : Nat} (eA : a.toNatClampNeg = A) (eB : b.toNatClampNeg = B) (hA : ¬ A = 18) (hB : ¬ B = 18) (z1 z2 z3 z4 z5 z6 : Int64) (z7 : Bool) : f_M_widen_123u r w t d a b k (va_up R 18 (z1, z2, z3, z4, z5, z6, z7)) = f_M_widen_170g r w t d a b k (f_M_tighten (va_up R 18 (z1, z2, z3, z4, z5, if (R A).2.2.2.2.2.1 < (R B).2.2.2.2.2.1 then 9223372036854775807 else (R A).2.2.2.2.2.1, false)) 18) := by
  unfold f_M_widen_123u f_M_widen_158 f_M_widen_158u f_M_widen_166u
  simp only [u6_up, u7_up, eA, eB, up_ne _ _ hA, up_ne _ _ hB]
  rcases Classical.propComplete ((R A).2.2.2.2.2.1 < (R B).2.2.2.2.2.1) with c | c <;> simp only [c, if_true, if_false]
theorem wid_88 (r : Nat → VV) (w : Nat → Int64) (t d a b : Int32) (k : Int32) (R : Nat → VV) {A B : Nat} (eA : a.toNatClampNeg = A) (eB : b.toNatClampNeg = B) (hA : ¬ A = 18) (hB : ¬ B = 18) (z1 z2 z3 z4 z5 z6 : Int64) (z7 : Bool) : f_M_widen_88u r w t d a b k (va_up R 18 (z1, z2, z3, z4, z5, z6, z7)) = f_M_widen_170g r w t d a b k (f_M_tighten (va_up R 18 (z1, z2, z3, z4, if (R B).2.2.2.2.1 < (R A).2.2.2.2.1 then -9223372036854775808 else (R A).2.2.2.2.1, if (R A).2.2.2.2.2.1 < (R B).2.2.2.2.2.1 then 9223372036854775807 else (R A).2.2.2.2.2.1, false)) 18) := by
  unfold f_M_widen_88u f_M_widen_123
  simp only [u5_up, wid_123 r w t d a b k R eA eB hA hB, eA, eB, up_ne _ _ hA, up_ne _ _ hB]
  rcases Classical.propComplete ((R B).2.2.2.2.1 < (R A).2.2.2.2.1) with c | c <;> simp only [c, if_true, if_false]
theorem wid_51 (r : Nat → VV) (w : Nat → Int64) (t d a b : Int32) (k : Int32) (R : Nat → VV) {A B : Nat} (eA : a.toNatClampNeg = A) (eB : b.toNatClampNeg = B) (hA : ¬ A = 18) (hB : ¬ B = 18) (z1 z2 z3 z4 z5 z6 : Int64) (z7 : Bool) : f_M_widen_51u r w t d a b k (va_up R 18 (z1, z2, z3, z4, z5, z6, z7)) = f_M_widen_170g r w t d a b k (f_M_tighten (va_up R 18 (z1, z2, z3, if f_M_below (R A).2.2.2.1 (R B).2.2.2.1 = true then -1 else (R A).2.2.2.1, if (R B).2.2.2.2.1 < (R A).2.2.2.2.1 then -9223372036854775808 else (R A).2.2.2.2.1, if (R A).2.2.2.2.2.1 < (R B).2.2.2.2.2.1 then 9223372036854775807 else (R A).2.2.2.2.2.1, false)) 18) := by
  unfold f_M_widen_51u f_M_widen_88
  simp only [u4_up, wid_88 r w t d a b k R eA eB hA hB, eA, eB, up_ne _ _ hA, up_ne _ _ hB]
  rcases Classical.propComplete (f_M_below (R A).2.2.2.1 (R B).2.2.2.1 = true) with c | c <;> simp only [c, if_true, if_false]
theorem wid_14 (r : Nat → VV) (w : Nat → Int64) (t d a b : Int32) (k : Int32) (R : Nat → VV) {A B : Nat} (eA : a.toNatClampNeg = A) (eB : b.toNatClampNeg = B) (hA : ¬ A = 18) (hB : ¬ B = 18) (z1 z2 z3 z4 z5 z6 : Int64) (z7 : Bool) : f_M_widen_14g r w t d a b k (va_up R 18 (z1, z2, z3, z4, z5, z6, z7)) = f_M_widen_170g r w t d a b k (f_M_tighten (va_up R 18 (z1, z2, if f_M_below (R B).2.2.1 (R A).2.2.1 = true then 0 else (R A).2.2.1, if f_M_below (R A).2.2.2.1 (R B).2.2.2.1 = true then -1 else (R A).2.2.2.1, if (R B).2.2.2.2.1 < (R A).2.2.2.2.1 then -9223372036854775808 else (R A).2.2.2.2.1, if (R A).2.2.2.2.2.1 < (R B).2.2.2.2.2.1 then 9223372036854775807 else (R A).2.2.2.2.2.1, false)) 18) := by
  unfold f_M_widen_14g f_M_widen_51
  simp only [u3_up, wid_51 r w t d a b k R eA eB hA hB, eA, eB, up_ne _ _ hA, up_ne _ _ hB]
  rcases Classical.propComplete (f_M_below (R B).2.2.1 (R A).2.2.1 = true) with c | c <;> simp only [c, if_true, if_false]
theorem link_widen {v : Nat → VV} {w : Nat → Int64} {r : Nat → VV} (h : INV v w r) (t : Int32) (x y z : VV) (d a b : Int32) : LNK (f_S_widen v w t x y z d a b) (f_M_widen r w t d a b) := by
  unfold f_S_widen f_M_widen f_M_widen_4g f_V_take
  by_cases hd : okp d
  · rw [if_pos ((rp_iff d).mpr hd)]
    by_cases ha : okp a
    · rw [if_pos ((rp_iff a).mpr ha)]
      by_cases hb : okp b
      · obtain ⟨i1, i2⟩ := ie_nI hd
        obtain ⟨j1, j2⟩ := ie_nI ha
        obtain ⟨k1, k2⟩ := ie_nI hb
        rw [np_yes hd ha hb, if_pos ((rp_iff b).mpr hb), if_neg (show ¬ ((false, (0 : Int32)).1 = true) by decide)]
        obtain ⟨e1, e2, e3⟩ := h _ j2
        obtain ⟨q1, q2, q3⟩ := h _ k2
        have hA : ¬ a.toNatClampNeg = 18 := by omega
        have hB : ¬ b.toNatClampNeg = 18 := by omega
        have key : f_M_widen_14g r w t d a b 0 (f_M_joinBits r a.toNatClampNeg b.toNatClampNeg) = f_M_widen_170g r w t d a b 0 (f_M_tighten (va_up r 18 (spP (v a.toNatClampNeg) (v b.toNatClampNeg) 1)) 18) := by
          rw [joinBits_eq r hA, wid_14 r w t d a b 0 r rfl rfl hA hB, e1, q1, spP_flag (good_flag e2), w_low, w_high]
          simp only [if_neg (show ¬ (1 : Int32) = 0 by decide)]
        show LNK _ (f_M_widen_14g r w t d a b 0 (f_M_joinBits r a.toNatClampNeg b.toNatClampNeg))
        rw [key]
        unfold f_M_widen_170g f_M_widen_183g
        exact join_core h t x y x y i2 j2 k2 1 (Or.inr rfl)
      · rw [np_no (fun z => hb z.2.2), if_neg (fun z => hb ((rp_iff b).mp z)), rp_1 hb, if_pos (show (true, (1 : Int32)).1 = true from rfl)]
        exact lnk_no h t x y _ 1
    · rw [np_no (fun z => ha z.2.1), if_neg (fun z => ha ((rp_iff a).mp z)), rp_1 ha, if_pos (show (true, (1 : Int32)).1 = true from rfl)]
      exact lnk_no h t x y _ 1
  · rw [np_no (fun z => hd z.1), if_neg (fun z => hd ((rp_iff d).mp z)), rp_1 hd, if_pos (show (true, (1 : Int32)).1 = true from rfl)]
    exact lnk_no h t x y z 1
