/-! between, pattern, cut, extend, swap -/
theorem lnk_tail {v : Nat → VV} {w : Nat → Int64} {r : Nat → VV} (h : INV v w r) (t : Int32) (x y X Y : VV) {P : Nat} (hP : P < 16) {Z : VV} {q : Int64} (hZ : hld Z q) : LNK (0, (f_S_write_z v w t x y (f_V_tighten Z) P q).1, (f_S_write_z v w t x y (f_V_tighten Z) P q).2.1, (f_S_write_z v w t x y (f_V_tighten Z) P q).2.2, X, Y, f_V_tighten Z) (0, (f_M_put (f_M_tighten (va_up r 18 Z) 18) w t P 18 q).1, (f_M_put (f_M_tighten (va_up r 18 Z) 18) w t P 18 q).2.1, (f_M_put (f_M_tighten (va_up r 18 Z) 18) w t P 18 q).2.2) := by
  rw [tight_up r 18 hZ.1]
  obtain ⟨g1, g2⟩ := hld_tighten hZ
  exact lnk_put h (agree18 r _) t x y X Y hP (up_at _ _ _) g1 g2
theorem link_between {v : Nat → VV} {w : Nat → Int64} {r : Nat → VV} (h : INV v w r) (t : Int32) (x y z : VV) (p : Int32) (b : Bool) (lo hi q : Int64) : LNK (f_S_between v w t x y z p (bI b) lo hi q) (f_M_between r w t p b lo hi q) := by
  unfold f_S_between f_M_between f_M_between_4g f_M_between_35 f_M_between_58 f_M_between_63 f_M_between_77g f_M_between_91u f_M_between_100u f_M_between_111u f_M_between_120u f_M_between_121 f_M_between_124g f_M_between_133g
  by_cases hp : okp p
  · obtain ⟨i1, i2⟩ := ie_nI hp
    rw [np_yes hp okp0 okp0, if_pos ((rp_iff p).mpr hp), if_neg (show ¬ ((false, (0 : Int32)).1 = true) by decide), nothingSaid_eq, sayAll_eq]
    cases b
    · have hc := holds_all_S lo hi q
      rw [if_pos (show bI false = 0 from rfl), if_neg (show ¬ (false = true) by decide), if_neg (show ¬ (false = true) by decide), if_neg (show ¬ (false = true) by decide)]
      have hlt1 := lt_un q lo
      have hlt2 := lt_un hi q
      by_cases c : f_V_holds (f_V_saySigned allV lo hi) q = 0
      · rw [if_pos c]
        have hc' := hc.mp c
        rw [if_neg (show ¬ ((2 : Int32) ≤ 0) by decide)]
        by_cases c1 : q < lo
        · rw [if_pos c1]; exact lnk_no h t x y _ 2
        · rw [if_neg c1]
          by_cases c2 : hi < q
          · rw [if_pos c2]; exact lnk_no h t x y _ 2
          · exact absurd ⟨by have := mt hlt1.mpr c1; omega, by have := mt hlt2.mpr c2; omega⟩ hc'
      · rw [if_neg c]
        have hc' := Classical.not_not.mp (mt hc.mpr c)
        have c1 : ¬ q < lo := fun z => by have := hlt1.mp z; omega
        have c2 : ¬ hi < q := fun z => by have := hlt2.mp z; omega
        rw [if_neg c1, if_neg c2, if_pos (show (0 : Int32) ≤ 0 by decide), u5_up, u6_up]
        exact lnk_tail h t x y x y i2 (hld_S (hld_all q) hc'.1 hc'.2)
    · have hc := holds_all_U lo hi q
      rw [if_neg (show ¬ (bI true = 0) by decide), if_pos (show true = true from rfl), if_pos (show true = true from rfl), if_pos (show true = true from rfl)]
      have hlt1 := m_below1 q lo
      have hlt2 := m_below1 hi q
      by_cases c : f_V_holds (f_V_sayUnsigned allV lo hi) q = 0
      · rw [if_pos c]
        have hc' := hc.mp c
        rw [if_neg (show ¬ ((2 : Int32) ≤ 0) by decide)]
        by_cases c1 : f_M_below q lo = true
        · rw [if_pos c1]; exact lnk_no h t x y _ 2
        · rw [if_neg c1]
          by_cases c2 : f_M_below hi q = true
          · rw [if_pos c2]; exact lnk_no h t x y _ 2
          · exact absurd ⟨by have := mt hlt1.mpr c1; omega, by have := mt hlt2.mpr c2; omega⟩ hc'
      · rw [if_neg c]
        have hc' := Classical.not_not.mp (mt hc.mpr c)
        have c1 : ¬ f_M_below q lo = true := fun z => by have := hlt1.mp z; omega
        have c2 : ¬ f_M_below hi q = true := fun z => by have := hlt2.mp z; omega
        rw [if_neg c1, if_neg c2, if_pos (show (0 : Int32) ≤ 0 by decide), u3_up, u4_up]
        exact lnk_tail h t x y x y i2 (hld_U (hld_all q) hc'.1 hc'.2)
  · rw [np_no (fun z => hp z.1), if_neg (fun z => hp ((rp_iff p).mp z)), rp_1 hp, if_pos (show (true, (1 : Int32)).1 = true from rfl)]
    exact lnk_no h t x y z 1
theorem link_pattern {v : Nat → VV} {w : Nat → Int64} {r : Nat → VV} (h : INV v w r) (t : Int32) (x y z : VV) (p : Int32) (a b q : Int64) : LNK (f_S_pattern v w t x y z p a b q) (f_M_pattern r w t p a b q) := by
  unfold f_S_pattern f_M_pattern f_M_pattern_4g f_M_pattern_38 f_M_pattern_52g f_M_pattern_69u f_M_pattern_78u f_M_pattern_82g f_M_pattern_91g
  by_cases hp : okp p
  · obtain ⟨i1, i2⟩ := ie_nI hp
    rw [np_yes hp okp0 okp0, if_pos ((rp_iff p).mpr hp), if_neg (show ¬ ((false, (0 : Int32)).1 = true) by decide), nothingSaid_eq, sayAll_eq]
    have hc := holds_all_B a b q
    by_cases c : f_V_holds (f_V_sayBits allV a b) q = 0
    · rw [if_pos c, if_neg (hc.mp c), if_neg (show ¬ ((2 : Int32) ≤ 0) by decide)]
      exact lnk_no h t x y _ 2
    · rw [if_neg c, if_pos (Classical.not_not.mp (mt hc.mpr c)), if_pos (show (0 : Int32) ≤ 0 by decide), u1_up, u2_up]
      exact lnk_tail h t x y x y i2 (kn_of_holds (apart_say a b) c)
  · rw [np_no (fun z => hp z.1), if_neg (fun z => hp ((rp_iff p).mp z)), rp_1 hp, if_pos (show (true, (1 : Int32)).1 = true from rfl)]
    exact lnk_no h t x y z 1
theorem agree_19 (r : Nat → VV) (A Z : VV) : ∀ j, j < 16 → va_up (va_up r 19 A) 18 Z j = r j := fun j hj => by rw [up_ne _ _ (by omega), up_ne _ _ (by omega)]
theorem agree_20 (r : Nat → VV) (A B Z : VV) : ∀ j, j < 16 → va_up (va_up (va_up r 19 A) 20 B) 18 Z j = r j := fun j hj => by rw [up_ne _ _ (by omega), up_ne _ _ (by omega), up_ne _ _ (by omega)]
theorem cut_core {v : Nat → VV} {w : Nat → Int64} {r : Nat → VV} (h : INV v w r) (t : Int32) (x y X Y : VV) {P A : Nat} (hP : P < 16) (hA : A < 16) {n : Nat} (hn : n ≤ 64) : LNK (0, (f_S_write_z v w t x y (f_V_trim (v A) (nI n)) P (f_N_trimmed (w A) (nI n))).1, (f_S_write_z v w t x y (f_V_trim (v A) (nI n)) P (f_N_trimmed (w A) (nI n))).2.1, (f_S_write_z v w t x y (f_V_trim (v A) (nI n)) P (f_N_trimmed (w A) (nI n))).2.2, X, Y, f_V_trim (v A) (nI n)) (0, (f_M_put (f_M_cutRow r A 18 (nI n)) w t P 18 (w A &&& f_M_mask (nI n))).1, (f_M_put (f_M_cutRow r A 18 (nI n)) w t P 18 (w A &&& f_M_mask (nI n))).2.1, (f_M_put (f_M_cutRow r A 18 (nI n)) w t P 18 (w A &&& f_M_mask (nI n))).2.2) := by
  obtain ⟨h1, h2, h3⟩ := h A hA
  obtain ⟨g1, g2⟩ := trim_good h2 h3 hn
  rw [cut_eq r (by omega) (by decide) (by rw [h1]; exact h2) (by rw [h1]; exact h3) hn, mask_nI n hn, h1]
  unfold f_N_trimmed
  exact lnk_put h (agree_19 r _ _) t x y X Y hP (up_at _ _ _) g1 g2
theorem link_cut {v : Nat → VV} {w : Nat → Int64} {r : Nat → VV} (h : INV v w r) (t : Int32) (x y z : VV) (d a n : Int32) : LNK (f_S_cut v w t x y z d a n) (f_M_cut r w t d a n) := by
  unfold f_S_cut f_M_cut f_M_cut_4g f_M_cut_36 f_M_cut_41 f_M_cut_56g f_M_cut_74g f_V_take
  by_cases hd : okp d
  · rw [if_pos ((rp_iff d).mpr hd)]
    by_cases ha : okp a
    · obtain ⟨i1, i2⟩ := ie_nI hd
      obtain ⟨j1, j2⟩ := ie_nI ha
      rw [np_yes hd ha okp0, if_pos ((rp_iff a).mpr ha), if_neg (show ¬ ((false, (0 : Int32)).1 = true) by decide)]
      by_cases n1 : n = 8
      · rw [if_pos n1, if_pos n1, if_pos (show (0 : Int32) = 0 from rfl), show n = nI 8 from n1]; exact cut_core h t x y x y i2 j2 (n := 8) (by decide)
      rw [if_neg n1, if_neg n1]
      by_cases n2 : n = 16
      · rw [if_pos n2, if_pos n2, if_pos (show (0 : Int32) = 0 from rfl), show n = nI 16 from n2]; exact cut_core h t x y x y i2 j2 (n := 16) (by decide)
      rw [if_neg n2, if_neg n2]
      by_cases n3 : n = 32
      · rw [if_pos n3, if_pos n3, if_pos (show (0 : Int32) = 0 from rfl), show n = nI 32 from n3]; exact cut_core h t x y x y i2 j2 (n := 32) (by decide)
      rw [if_neg n3, if_neg n3]
      by_cases n4 : n = 64
      · rw [if_pos n4, if_pos n4, if_pos (show (0 : Int32) = 0 from rfl), show n = nI 64 from n4]; exact cut_core h t x y x y i2 j2 (n := 64) (by decide)
      rw [if_neg n4, if_neg n4, if_neg (show ¬ ((2 : Int32) = 0) by decide)]
      exact lnk_no h t x y _ 2
    · rw [np_no (fun z => ha z.2.1), if_neg (fun z => ha ((rp_iff a).mp z)), rp_1 ha, if_pos (show (true, (1 : Int32)).1 = true from rfl)]
      exact lnk_no h t x y _ 1
  · rw [np_no (fun z => hd z.1), if_neg (fun z => hd ((rp_iff d).mp z)), rp_1 hd, if_pos (show (true, (1 : Int32)).1 = true from rfl)]
    exact lnk_no h t x y z 1
theorem n_ext_shift {n : Nat} (hn : n < 64) (v : Int64) : f_N_extended v (nI n) = (v <<< (((64 : Int32) - nI n).toInt64 &&& 63)) >>> (((64 : Int32) - nI n).toInt64 &&& 63) := by
  unfold f_N_extended f_N_extended_14
  rw [if_pos (nI_lt64 hn)]
theorem ext_core {v : Nat → VV} {w : Nat → Int64} {r : Nat → VV} (h : INV v w r) (t : Int32) (x y X Y : VV) {P A : Nat} (hP : P < 16) (hA : A < 16) {n : Nat} (h0 : 0 < n) (hn : n ≤ 32) : LNK (0, (f_S_write_z v w t x y (f_V_signExtend (v A) (nI n)) P (f_N_extended (w A) (nI n))).1, (f_S_write_z v w t x y (f_V_signExtend (v A) (nI n)) P (f_N_extended (w A) (nI n))).2.1, (f_S_write_z v w t x y (f_V_signExtend (v A) (nI n)) P (f_N_extended (w A) (nI n))).2.2, X, Y, f_V_signExtend (v A) (nI n)) (0, (f_M_put (f_M_extendRow r A 18 (nI n)) w t P 18 (((w A) <<< (((64 : Int32) - nI n).toInt64 &&& 63)) >>> (((64 : Int32) - nI n).toInt64 &&& 63))).1, (f_M_put (f_M_extendRow r A 18 (nI n)) w t P 18 (((w A) <<< (((64 : Int32) - nI n).toInt64 &&& 63)) >>> (((64 : Int32) - nI n).toInt64 &&& 63))).2.1, (f_M_put (f_M_extendRow r A 18 (nI n)) w t P 18 (((w A) <<< (((64 : Int32) - nI n).toInt64 &&& 63)) >>> (((64 : Int32) - nI n).toInt64 &&& 63))).2.2) := by
  obtain ⟨h1, h2, h3⟩ := h A hA
  obtain ⟨g1, g2, -⟩ := ext_good h2 h3 h0 hn
  rw [ext_eq r (by omega) (by decide) (by rw [h1]; exact h2) (by rw [h1]; exact h3) h0 hn, h1, ← n_ext_shift (by omega)]
  exact lnk_put h (agree_20 r _ _ _) t x y X Y hP (up_at _ _ _) g1 g2
theorem link_extend {v : Nat → VV} {w : Nat → Int64} {r : Nat → VV} (h : INV v w r) (t : Int32) (x y z : VV) (d a n : Int32) : LNK (f_S_extend v w t x y z d a n) (f_M_extend r w t d a n) := by
  unfold f_S_extend f_M_extend f_M_extend_4g f_M_extend_30 f_M_extend_35 f_M_extend_50g f_M_extend_73g f_V_take
  by_cases hd : okp d
  · rw [if_pos ((rp_iff d).mpr hd)]
    by_cases ha : okp a
    · obtain ⟨i1, i2⟩ := ie_nI hd
      obtain ⟨j1, j2⟩ := ie_nI ha
      rw [np_yes hd ha okp0, if_pos ((rp_iff a).mpr ha), if_neg (show ¬ ((false, (0 : Int32)).1 = true) by decide)]
      by_cases n1 : n = 8
      · rw [if_pos n1, if_pos n1, if_pos (show (0 : Int32) = 0 from rfl), show n = nI 8 from n1]; exact ext_core h t x y x y i2 j2 (n := 8) (by decide) (by decide)
      rw [if_neg n1, if_neg n1]
      by_cases n2 : n = 16
      · rw [if_pos n2, if_pos n2, if_pos (show (0 : Int32) = 0 from rfl), show n = nI 16 from n2]; exact ext_core h t x y x y i2 j2 (n := 16) (by decide) (by decide)
      rw [if_neg n2, if_neg n2]
      by_cases n3 : n = 32
      · rw [if_pos n3, if_pos n3, if_pos (show (0 : Int32) = 0 from rfl), show n = nI 32 from n3]; exact ext_core h t x y x y i2 j2 (n := 32) (by decide) (by decide)
      rw [if_neg n3, if_neg n3, if_neg (show ¬ ((2 : Int32) = 0) by decide)]
      exact lnk_no h t x y _ 2
    · rw [np_no (fun z => ha z.2.1), if_neg (fun z => ha ((rp_iff a).mp z)), rp_1 ha, if_pos (show (true, (1 : Int32)).1 = true from rfl)]
      exact lnk_no h t x y _ 1
  · rw [np_no (fun z => hd z.1), if_neg (fun z => hd ((rp_iff d).mp z)), rp_1 hd, if_pos (show (true, (1 : Int32)).1 = true from rfl)]
    exact lnk_no h t x y z 1
theorem swap_core {v : Nat → VV} {w : Nat → Int64} {r : Nat → VV} (h : INV v w r) (t : Int32) (x y X Y : VV) {P A : Nat} (hP : P < 16) (hA : A < 16) {J : Nat} (hJ : J ≤ 8) : LNK (0, (f_S_write_z v w t x y (f_V_turnBytes (v A) (nI (8 * J))) P (f_N_turned (w A) (nI (8 * J)))).1, (f_S_write_z v w t x y (f_V_turnBytes (v A) (nI (8 * J))) P (f_N_turned (w A) (nI (8 * J)))).2.1, (f_S_write_z v w t x y (f_V_turnBytes (v A) (nI (8 * J))) P (f_N_turned (w A) (nI (8 * J)))).2.2, X, Y, f_V_turnBytes (v A) (nI (8 * J))) (0, (f_M_put (f_M_swapRow r A 18 (nI (8 * J))) w t P 18 (f_M_swapped (w A) (nI (8 * J)))).1, (f_M_put (f_M_swapRow r A 18 (nI (8 * J))) w t P 18 (f_M_swapped (w A) (nI (8 * J)))).2.1, (f_M_put (f_M_swapRow r A 18 (nI (8 * J))) w t P 18 (f_M_swapped (w A) (nI (8 * J)))).2.2) := by
  obtain ⟨h1, h2, h3⟩ := h A hA
  obtain ⟨g1, g2⟩ := turn_good h2 h3 hJ
  have h64 : nI (8 * J) ≤ 64 := (nI_leI (b := 64) (by omega) (by decide)).mpr (by omega)
  rw [swap_eq r (by omega) (by decide) (by rw [h1]; exact h2) (by rw [h1]; exact h3) hJ, h1, swapped_eq _ _ h64]
  exact lnk_put h (agree_20 r _ _ _) t x y X Y hP (up_at _ _ _) g1 g2
theorem link_swap {v : Nat → VV} {w : Nat → Int64} {r : Nat → VV} (h : INV v w r) (t : Int32) (x y z : VV) (d a n : Int32) : LNK (f_S_swap v w t x y z d a n) (f_M_swap r w t d a n) := by
  unfold f_S_swap f_M_swap f_M_swap_4g f_M_swap_30 f_M_swap_35 f_M_swap_50g f_M_swap_67g f_V_take
  by_cases hd : okp d
  · rw [if_pos ((rp_iff d).mpr hd)]
    by_cases ha : okp a
    · obtain ⟨i1, i2⟩ := ie_nI hd
      obtain ⟨j1, j2⟩ := ie_nI ha
      rw [np_yes hd ha okp0, if_pos ((rp_iff a).mpr ha), if_neg (show ¬ ((false, (0 : Int32)).1 = true) by decide)]
      by_cases n1 : n = 16
      · rw [if_pos n1, if_pos n1, if_pos (show (0 : Int32) = 0 from rfl), show n = nI (8 * 2) from n1]; exact swap_core h t x y x y i2 j2 (J := 2) (by decide)
      rw [if_neg n1, if_neg n1]
      by_cases n2 : n = 32
      · rw [if_pos n2, if_pos n2, if_pos (show (0 : Int32) = 0 from rfl), show n = nI (8 * 4) from n2]; exact swap_core h t x y x y i2 j2 (J := 4) (by decide)
      rw [if_neg n2, if_neg n2]
      by_cases n3 : n = 64
      · rw [if_pos n3, if_pos n3, if_pos (show (0 : Int32) = 0 from rfl), show n = nI (8 * 8) from n3]; exact swap_core h t x y x y i2 j2 (J := 8) (by decide)
      rw [if_neg n3, if_neg n3, if_neg (show ¬ ((2 : Int32) = 0) by decide)]
      exact lnk_no h t x y _ 2
    · rw [np_no (fun z => ha z.2.1), if_neg (fun z => ha ((rp_iff a).mp z)), rp_1 ha, if_pos (show (true, (1 : Int32)).1 = true from rfl)]
      exact lnk_no h t x y _ 1
  · rw [np_no (fun z => hd z.1), if_neg (fun z => hd ((rp_iff d).mp z)), rp_1 hd, if_pos (show (true, (1 : Int32)).1 = true from rfl)]
    exact lnk_no h t x y z 1
