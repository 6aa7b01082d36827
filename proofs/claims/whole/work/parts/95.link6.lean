/-! branch, and the reading methods -/
theorem write_x (v : Nat → VV) (w : Nat → Int64) (t : Int32) {x : VV} (y z : VV) (P : Nat) {q : Int64} (hg : good x) (hk : kn x q) : f_S_write_x v w t x y z P q = (va_up v P x, u8 w P q, t) := by
  unfold f_S_write_x f_V_take
  rw [if_neg (by rw [holds_kn hg hk]; decide)]
theorem write_y (v : Nat → VV) (w : Nat → Int64) (t : Int32) (x : VV) {y : VV} (z : VV) (P : Nat) {q : Int64} (hg : good y) (hk : kn y q) : f_S_write_y v w t x y z P q = (va_up v P y, u8 w P q, t) := by
  unfold f_S_write_y f_V_take
  rw [if_neg (by rw [holds_kn hg hk]; decide)]
/-- what branch leaves on both sides -/
theorem branch_core {v : Nat → VV} {w : Nat → Int64} {r : Nat → VV} (h : INV v w r) (t : Int32) (z : VV) (c : Int32) {A B : Nat} (hA : A < 16) (hB : B < 16) (hAB : ¬ A = B) (hs : f_C_isSo c (w A) (w B) = 1) {X Y : VV} (eX : (f_C_refine c (v A) (v B)).1 = X) (eY : (f_C_refine c (v A) (v B)).2 = Y) :
    f_S_write_x v w t X Y z A (w A) = (va_up v A X, u8 w A (w A), t) ∧ f_S_write_y (va_up v A X) (u8 w A (w A)) t X Y z B (u8 w A (w A) B) = (va_up (va_up v A X) B Y, u8 (u8 w A (w A)) B (u8 w A (w A) B), t) ∧ ∃ R : Nat → VV, f_M_put (f_M_canBe r c A B).2 w t A 16 (w A) = (R, u8 w A (w A), t) ∧ ∃ R' : Nat → VV, f_M_put R (u8 w A (w A)) t B 17 (u8 w A (w A) B) = (R', u8 (u8 w A (w A)) B (u8 w A (w A) B), t) ∧ INV (va_up (va_up v A X) B Y) (u8 (u8 w A (w A)) B (u8 w A (w A) B)) R' := by
  obtain ⟨a1, a2, a3⟩ := h A hA
  obtain ⟨b1, b2, b3⟩ := h B hB
  obtain ⟨⟨gX, kX⟩, gY, kY⟩ := refine_good (hld_good a2 a3) (hld_good b2 b3) hs
  obtain ⟨s1, s2⟩ := refine_same a2 b2 a3 b3 hs
  rw [eX] at gX kX s1
  rw [eY] at gY kY s2
  have eB : u8 w A (w A) B = w B := by unfold u8; rw [up_ne _ _ (fun q => hAB q.symm)]
  have rows := (canBe_rows c hA hB a1 b1 a2 b2).1
  rw [s1, s2] at rows
  have keep := canBe_keep (r := r) c hA hB (by rw [a1]; exact a2) (by rw [b1]; exact b2)
  have q16 : (f_M_canBe r c A B).2 16 = X := by rw [rows, up_ne _ _ (by decide), up_at]
  have q17 : (f_M_canBe r c A B).2 17 = Y := by rw [rows, up_at]
  refine ⟨write_x v w t Y z A gX kX, write_y _ _ t X z B gY (by rw [eB]; exact kY), va_up (f_M_canBe r c A B).2 A X, put_eq _ w t (by omega) q16 gX kX, va_up (va_up (f_M_canBe r c A B).2 A X) B Y, put_eq _ _ t (by omega) (by rw [up_ne _ _ (by omega), q17]) gY (by rw [eB]; exact kY), ?_⟩
  have i1 := INV_up h keep (P := A) gX kX
  exact INV_up i1 (fun j _ => rfl) (P := B) gY (by rw [eB]; exact kY)
theorem link_branch {v : Nat → VV} {w : Nat → Int64} {r : Nat → VV} (h : INV v w r) (t : Int32) (x y z : VV) (c a b : Int32) : (f_M_branch r w t c a b).2.1 = (f_S_branch v w t x y z c a b).1 ∧ ((f_S_branch v w t x y z c a b).1 = 0 → bI (f_M_branch r w t c a b).1 = (f_S_branch v w t x y z c a b).2.1) ∧ INV (f_S_branch v w t x y z c a b).2.2.1 (f_S_branch v w t x y z c a b).2.2.2.1 (f_M_branch r w t c a b).2.2.1 ∧ (f_M_branch r w t c a b).2.2.2.1 = (f_S_branch v w t x y z c a b).2.2.2.1 ∧ (f_M_branch r w t c a b).2.2.2.2 = (f_S_branch v w t x y z c a b).2.2.2.2.1 := by
  unfold f_S_branch f_M_branch f_M_branch_4g f_M_branch_28v f_M_branch_44 f_M_branch_46g f_M_branch_60g f_M_branch_73g f_V_take
  rcases nc_link c a b with ⟨e1, e2, ha, hb, c1, c2, c3⟩ | ⟨e1, e2⟩
  · rw [if_pos e1, e2, if_neg (show ¬ ((false, (0 : Int32)).1 = true) by decide), opp_eq c1 c2]
    obtain ⟨j1, j2⟩ := ie_nI ha
    obtain ⟨k1, k2⟩ := ie_nI hb
    have hAB : ¬ a.toNatClampNeg = b.toNatClampNeg := fun q => c3 (by rw [j1, k1, q])
    have es := isSo_eq c (w a.toNatClampNeg) (w b.toNatClampNeg)
    rcases isSo_01 c (w a.toNatClampNeg) (w b.toNatClampNeg) with s | s
    · have m : f_M_isSo c (w a.toNatClampNeg) (w b.toNatClampNeg) = true := by
        cases q : f_M_isSo c (w a.toNatClampNeg) (w b.toNatClampNeg)
        · rw [q, s] at es; exact absurd es (by decide)
        · rfl
      rw [if_neg (show ¬ f_C_isSo c (w a.toNatClampNeg) (w b.toNatClampNeg) = 0 by rw [s]; decide), if_pos m]
      obtain ⟨w1, w2, R, p1, R', p2, iv⟩ := branch_core h t z c j2 k2 hAB s rfl rfl
      rw [w1]
      dsimp only
      rw [w2, p1]
      dsimp only
      rw [p2]
      exact ⟨rfl, fun _ => es, iv, rfl, rfl⟩
    · have m : ¬ f_M_isSo c (w a.toNatClampNeg) (w b.toNatClampNeg) = true := fun q => by
        rw [q, s] at es; exact absurd es (by decide)
      rw [if_pos s, if_neg m]
      obtain ⟨w1, w2, R, p1, R', p2, iv⟩ := branch_core h t z (f_C_opposite c) j2 k2 hAB (opp_so c1 c2 s) rfl rfl
      rw [w1]
      dsimp only
      rw [w2, p1]
      dsimp only
      rw [p2]
      exact ⟨rfl, fun _ => es, iv, rfl, rfl⟩
  · rw [if_neg e1, e2, if_pos (show (true, f_S_requireComparison c a b).1 = true from rfl)]
    exact ⟨rfl, fun q => absurd q e1, h, rfl, rfl⟩
theorem xor_and0 {a b m : Int64} (ha : apart b m) : (a ^^^ b) &&& (m ^^^ (-1 : Int64)) = 0 ↔ a &&& (m ^^^ (-1 : Int64)) = b := by
  rw [← same_above, apart_not9 ha]
theorem link_within {v : Nat → VV} {w : Nat → Int64} {r : Nat → VV} (h : INV v w r) (t : Int32) (x y z : VV) (a b : Int32) : (f_M_within r a b).2 = (f_S_within v w t x y z a b).1 ∧ ((f_S_within v w t x y z a b).1 = 0 → bI (f_M_within r a b).1 = (f_S_within v w t x y z a b).2) := by
  unfold f_S_within f_M_within f_M_within_4g f_M_within_67 f_M_within_68 f_M_within_145
  by_cases ha : okp a
  · rw [if_pos ((rp_iff a).mpr ha)]
    by_cases hb : okp b
    · obtain ⟨j1, j2⟩ := ie_nI ha
      obtain ⟨k1, k2⟩ := ie_nI hb
      rw [np_yes ha hb okp0, if_pos ((rp_iff b).mpr hb), if_neg (show ¬ ((false, (0 : Int32)).1 = true) by decide)]
      rw [(h _ j2).1, (h _ k2).1]
      have hp := xor_and0 (a := (v a.toNatClampNeg).1) (good_apart (h _ k2).2.1)
      unfold f_V_covers f_V_covers_95
      generalize v a.toNatClampNeg = X at hp ⊢
      generalize v b.toNatClampNeg = Y at hp ⊢
      rw [if_neg (show ¬ (false = true) by decide), if_pos (show true = true from rfl)]
      have n1 := n_below0 X.2.2.1 Y.2.2.1
      have m1 := m_below1 X.2.2.1 Y.2.2.1
      have n2 := n_below0 Y.2.2.2.1 X.2.2.2.1
      have m2 := m_below1 Y.2.2.2.1 X.2.2.2.1
      by_cases q1 : X.2.1 &&& (Y.2.1 ^^^ (-1 : Int64)) = 0
      · rw [if_pos q1, if_pos q1]
        by_cases q2 : X.1 &&& (Y.2.1 ^^^ (-1 : Int64)) = Y.1
        · rw [if_pos q2, if_pos (hp.mpr q2)]
          by_cases q3 : un X.2.2.1 < un Y.2.2.1
          · rw [if_pos (m1.mpr q3), if_neg (fun z => n1.mp z q3)]; exact ⟨rfl, fun _ => rfl⟩
          rw [if_neg (fun z => q3 (m1.mp z)), if_pos (n1.mpr q3)]
          by_cases q4 : un Y.2.2.2.1 < un X.2.2.2.1
          · rw [if_pos (m2.mpr q4), if_neg (fun z => n2.mp z q4)]; exact ⟨rfl, fun _ => rfl⟩
          rw [if_neg (fun z => q4 (m2.mp z)), if_pos (n2.mpr q4)]
          by_cases q5 : X.2.2.2.2.1 < Y.2.2.2.2.1
          · rw [if_pos q5, if_pos q5]; exact ⟨rfl, fun _ => rfl⟩
          rw [if_neg q5, if_neg q5]
          by_cases q6 : Y.2.2.2.2.2.1 < X.2.2.2.2.2.1
          · rw [if_pos q6, if_pos q6]; exact ⟨rfl, fun _ => rfl⟩
          rw [if_neg q6, if_neg q6]; exact ⟨rfl, fun _ => rfl⟩
        · rw [if_neg q2, if_neg (fun z => q2 (hp.mp z))]; exact ⟨rfl, fun _ => rfl⟩
      · rw [if_neg q1, if_neg q1]; exact ⟨rfl, fun _ => rfl⟩
    · rw [np_no (fun z => hb z.2.1), if_neg (fun z => hb ((rp_iff b).mp z)), rp_1 hb, if_pos (show (true, (1 : Int32)).1 = true from rfl)]
      exact ⟨rfl, fun q => absurd (show (1 : Int32) = 0 from q) (by decide)⟩
  · rw [np_no (fun z => ha z.1), if_neg (fun z => ha ((rp_iff a).mp z)), rp_1 ha, if_pos (show (true, (1 : Int32)).1 = true from rfl)]
    exact ⟨rfl, fun q => absurd (show (1 : Int32) = 0 from q) (by decide)⟩
theorem link_has {v : Nat → VV} {w : Nat → Int64} {r : Nat → VV} (h : INV v w r) (t : Int32) (x y z : VV) (a : Int32) (n : Int64) : (f_M_has0 r a n).2 = (f_S_has v w t x y z a n).1 ∧ ((f_S_has v w t x y z a n).1 = 0 → bI (f_M_has0 r a n).1 = (f_S_has v w t x y z a n).2) := by
  unfold f_S_has f_M_has0 f_M_has0_4g f_M_has0_23
  by_cases ha : okp a
  · obtain ⟨j1, j2⟩ := ie_nI ha
    rw [if_pos ((rp_iff a).mpr ha), np_yes ha okp0 okp0, if_neg (show ¬ ((false, (0 : Int32)).1 = true) by decide)]
    obtain ⟨e1, e2, e3⟩ := h _ j2
    have m := m_isNumber r a.toNatClampNeg n (by rw [e1]; exact good_apart e2)
    rw [e1] at m
    rcases holds_01 (v a.toNatClampNeg) n with q | q
    · rw [if_pos (m.mpr q)]; exact ⟨rfl, fun _ => q.symm⟩
    · rw [if_neg (fun z => by have := m.mp z; rw [q] at this; exact absurd this (by decide))]; exact ⟨rfl, fun _ => q.symm⟩
  · rw [np_no (fun z => ha z.1), if_neg (fun z => ha ((rp_iff a).mp z)), rp_1 ha, if_pos (show (true, (1 : Int32)).1 = true from rfl)]
    exact ⟨rfl, fun q => absurd (show (1 : Int32) = 0 from q) (by decide)⟩
theorem link_least {v : Nat → VV} {w : Nat → Int64} {r : Nat → VV} (h : INV v w r) (t : Int32) (x y z : VV) (a : Int32) (b : Bool) : (f_M_least r a b).2 = (f_S_least v w t x y z a (bI b)).1 ∧ ((f_S_least v w t x y z a (bI b)).1 = 0 → (f_M_least r a b).1 = (f_S_least v w t x y z a (bI b)).2) := by
  unfold f_S_least f_M_least f_M_least_4g
  by_cases ha : okp a
  · obtain ⟨j1, j2⟩ := ie_nI ha
    rw [if_pos ((rp_iff a).mpr ha), np_yes ha okp0 okp0, if_neg (show ¬ ((false, (0 : Int32)).1 = true) by decide), (h _ j2).1]
    cases b
    · rw [if_pos (show bI false = 0 from rfl), if_neg (show ¬ (false = true) by decide)]; exact ⟨rfl, fun _ => rfl⟩
    · rw [if_neg (show ¬ bI true = 0 by decide), if_pos (show true = true from rfl)]; exact ⟨rfl, fun _ => rfl⟩
  · rw [np_no (fun z => ha z.1), if_neg (fun z => ha ((rp_iff a).mp z)), rp_1 ha, if_pos (show (true, (1 : Int32)).1 = true from rfl)]
    exact ⟨rfl, fun q => absurd (show (1 : Int32) = 0 from q) (by decide)⟩
theorem link_greatest {v : Nat → VV} {w : Nat → Int64} {r : Nat → VV} (h : INV v w r) (t : Int32) (x y z : VV) (a : Int32) (b : Bool) : (f_M_greatest r a b).2 = (f_S_greatest v w t x y z a (bI b)).1 ∧ ((f_S_greatest v w t x y z a (bI b)).1 = 0 → (f_M_greatest r a b).1 = (f_S_greatest v w t x y z a (bI b)).2) := by
  unfold f_S_greatest f_M_greatest f_M_greatest_4g
  by_cases ha : okp a
  · obtain ⟨j1, j2⟩ := ie_nI ha
    rw [if_pos ((rp_iff a).mpr ha), np_yes ha okp0 okp0, if_neg (show ¬ ((false, (0 : Int32)).1 = true) by decide), (h _ j2).1]
    cases b
    · rw [if_pos (show bI false = 0 from rfl), if_neg (show ¬ (false = true) by decide)]; exact ⟨rfl, fun _ => rfl⟩
    · rw [if_neg (show ¬ bI true = 0 by decide), if_pos (show true = true from rfl)]; exact ⟨rfl, fun _ => rfl⟩
  · rw [np_no (fun z => ha z.1), if_neg (fun z => ha ((rp_iff a).mp z)), rp_1 ha, if_pos (show (true, (1 : Int32)).1 = true from rfl)]
    exact ⟨rfl, fun q => absurd (show (1 : Int32) = 0 from q) (by decide)⟩
theorem link_unknown {v : Nat → VV} {w : Nat → Int64} {r : Nat → VV} (h : INV v w r) (t : Int32) (x y z : VV) (a : Int32) : (f_M_unknown r a).2 = (f_S_unknown v w t x y z a).1 ∧ ((f_S_unknown v w t x y z a).1 = 0 → (f_M_unknown r a).1 = (f_S_unknown v w t x y z a).2) := by
  unfold f_S_unknown f_M_unknown f_M_unknown_4g
  by_cases ha : okp a
  · obtain ⟨j1, j2⟩ := ie_nI ha
    rw [if_pos ((rp_iff a).mpr ha), np_yes ha okp0 okp0, if_neg (show ¬ ((false, (0 : Int32)).1 = true) by decide), (h _ j2).1]
    exact ⟨rfl, fun _ => rfl⟩
  · rw [np_no (fun z => ha z.1), if_neg (fun z => ha ((rp_iff a).mp z)), rp_1 ha, if_pos (show (true, (1 : Int32)).1 = true from rfl)]
    exact ⟨rfl, fun q => absurd (show (1 : Int32) = 0 from q) (by decide)⟩
theorem link_witness (v : Nat → VV) (w : Nat → Int64) (t : Int32) (x y z : VV) (a : Int32) : (f_M_witness w a).2 = (f_S_witness v w t x y z a).1 ∧ ((f_S_witness v w t x y z a).1 = 0 → (f_M_witness w a).1 = (f_S_witness v w t x y z a).2) := by
  unfold f_S_witness f_M_witness f_M_witness_4g
  by_cases ha : okp a
  · rw [if_pos ((rp_iff a).mpr ha), np_yes ha okp0 okp0, if_neg (show ¬ ((false, (0 : Int32)).1 = true) by decide)]
    exact ⟨rfl, fun _ => rfl⟩
  · rw [np_no (fun z => ha z.1), if_neg (fun z => ha ((rp_iff a).mp z)), rp_1 ha, if_pos (show (true, (1 : Int32)).1 = true from rfl)]
    exact ⟨rfl, fun q => absurd (show (1 : Int32) = 0 from q) (by decide)⟩
