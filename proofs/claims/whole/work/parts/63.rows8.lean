/-! a comparison, as the reference does it -/
def mQ (c : Int32) (x y : VV) : VV × VV := if c = 0 then (bothV x y, bothV y x) else if c = 1 then (loseV x (decide (y.2.2.1 = y.2.2.2.1)) y.2.2.1, loseV y (decide (x.2.2.1 = x.2.2.2.1)) x.2.2.1) else if c = 2 then (ordV1 x y.2.2.2.1 true, ordV2 y x.2.2.1 true) else if c = 3 then (ordV1 x y.2.2.2.1 false, ordV2 y x.2.2.1 false) else if c = 4 then (ordV2 x y.2.2.1 true, ordV1 y x.2.2.2.1 true) else if c = 5 then (ordV2 x y.2.2.1 false, ordV1 y x.2.2.2.1 false) else if c = 6 then (ordW1 x y.2.2.2.2.2.1 true, ordW2 y x.2.2.2.2.1 true) else if c = 7 then (ordW1 x y.2.2.2.2.2.1 false, ordW2 y x.2.2.2.2.1 false) else if c = 8 then (ordW2 x y.2.2.2.2.1 true, ordW1 y x.2.2.2.2.2.1 true) else if c = 9 then (ordW2 x y.2.2.2.2.1 false, ordW1 y x.2.2.2.2.2.1 false) else if c = 10 then (forceV (x.1, x.2.1, x.2.2.1, x.2.2.2.1, x.2.2.2.2.1, x.2.2.2.2.2.1, x.2.2.2.2.2.2 || decide ((x.1 ||| x.2.1) &&& (y.1 ||| y.2.1) = 0)) (if y.2.2.1 = y.2.2.2.1 ∧ f_M_isOneBit y.2.2.1 = true then y.2.2.1 else 0) 0, forceV y (if x.2.2.1 = x.2.2.2.1 ∧ f_M_isOneBit x.2.2.1 = true then x.2.2.1 else 0) 0) else (forceV (x.1, x.2.1, x.2.2.1, x.2.2.2.1, x.2.2.2.2.1, x.2.2.2.2.2.1, x.2.2.2.2.2.2 || !decide (x.1 &&& y.1 = 0)) 0 (if y.2.2.1 = y.2.2.2.1 then y.2.2.1 else 0), forceV y 0 (if x.2.2.1 = x.2.2.2.1 then x.2.2.1 else 0))
theorem rt_581 (r : Nat → VV) (c : Int32) (R : Nat → VV) {A B : VV} (hA : apart A.1 A.2.1) (hB : apart B.1 B.2.1) : f_M_refine_581 r c (va_up (va_up R 16 A) 17 B) = va_up (va_up R 16 (f_V_tighten A)) 17 (f_V_tighten B) := by
  unfold f_M_refine_581 f_M_refine_584g f_M_refine_590g
  have h16 : va_up (va_up R 16 A) 17 B 16 = A := rfl
  rw [m_tighten_eq _ 16 (by rw [h16]; exact hA), h16, up2 R (by decide), tight_up _ _ hB]
theorem b_both : ∀ a b c d : Bool, (b = true → a = false) → (d = true → c = false) → (b && d) = true → (a || c) = false := by decide
theorem bothV_apart {x y : VV} (hx : apart x.1 x.2.1) (hy : apart y.1 y.2.1) : apart (bothV x y).1 (bothV x y).2.1 := fun i hi ho => by
  have ho : tb (x.2.1 &&& y.2.1) i = true := ho
  show tb (x.1 ||| y.1) i = false
  rw [tb_and] at ho
  rw [tb_or]
  exact b_both _ _ _ _ (hx i hi) (hy i hi) ho
theorem loseV_apart {x : VV} (hx : apart x.1 x.2.1) (is : Bool) (n : Int64) : apart (loseV x is n).1 (loseV x is n).2.1 := by
  unfold loseV
  split
  · split <;> exact hx
  · exact hx
theorem b_force : ∀ a b o z : Bool, (b = true → a = false) → (b && !(o || z)) = true → (a || o) = false := by decide
theorem forceV_apart {x : VV} (hx : apart x.1 x.2.1) (on ze : Int64) : apart (forceV x on ze).1 (forceV x on ze).2.1 := fun i hi ho => by
  have ho : tb (x.2.1 &&& ((on ||| ze) ^^^ (-1 : Int64))) i = true := ho
  show tb (x.1 ||| on) i = false
  rw [tb_and, tb_not _ hi, tb_or] at ho
  rw [tb_or]
  exact b_force _ _ _ _ (hx i hi) ho
theorem ordV1_apart {x : VV} (h : apart x.1 x.2.1) (a : Int64) (b : Bool) : apart (ordV1 x a b).1 (ordV1 x a b).2.1 := by
  obtain ⟨x1, x2, x3, x4, x5, x6, x7⟩ := x
  have h : apart x1 x2 := h
  show apart x1 x2
  exact h
theorem ordV2_apart {x : VV} (h : apart x.1 x.2.1) (a : Int64) (b : Bool) : apart (ordV2 x a b).1 (ordV2 x a b).2.1 := by
  obtain ⟨x1, x2, x3, x4, x5, x6, x7⟩ := x
  have h : apart x1 x2 := h
  show apart x1 x2
  exact h
theorem ordW1_apart {x : VV} (h : apart x.1 x.2.1) (a : Int64) (b : Bool) : apart (ordW1 x a b).1 (ordW1 x a b).2.1 := by
  obtain ⟨x1, x2, x3, x4, x5, x6, x7⟩ := x
  have h : apart x1 x2 := h
  show apart x1 x2
  exact h
theorem ordW2_apart {x : VV} (h : apart x.1 x.2.1) (a : Int64) (b : Bool) : apart (ordW2 x a b).1 (ordW2 x a b).2.1 := by
  obtain ⟨x1, x2, x3, x4, x5, x6, x7⟩ := x
  have h : apart x1 x2 := h
  show apart x1 x2
  exact h
theorem mQ_apart (c : Int32) {x y : VV} (hx : apart x.1 x.2.1) (hy : apart y.1 y.2.1) : apart (mQ c x y).1.1 (mQ c x y).1.2.1 ∧ apart (mQ c x y).2.1 (mQ c x y).2.2.1 := by
  unfold mQ
  by_cases h0 : c = 0
  · rw [if_pos h0]; exact ⟨bothV_apart hx hy, bothV_apart hy hx⟩
  rw [if_neg h0]
  by_cases h1 : c = 1
  · rw [if_pos h1]; exact ⟨loseV_apart hx _ _, loseV_apart hy _ _⟩
  rw [if_neg h1]
  by_cases h2 : c = 2
  · rw [if_pos h2]; exact ⟨ordV1_apart hx _ _, ordV2_apart hy _ _⟩
  rw [if_neg h2]
  by_cases h3 : c = 3
  · rw [if_pos h3]; exact ⟨ordV1_apart hx _ _, ordV2_apart hy _ _⟩
  rw [if_neg h3]
  by_cases h4 : c = 4
  · rw [if_pos h4]; exact ⟨ordV2_apart hx _ _, ordV1_apart hy _ _⟩
  rw [if_neg h4]
  by_cases h5 : c = 5
  · rw [if_pos h5]; exact ⟨ordV2_apart hx _ _, ordV1_apart hy _ _⟩
  rw [if_neg h5]
  by_cases h6 : c = 6
  · rw [if_pos h6]; exact ⟨ordW1_apart hx _ _, ordW2_apart hy _ _⟩
  rw [if_neg h6]
  by_cases h7 : c = 7
  · rw [if_pos h7]; exact ⟨ordW1_apart hx _ _, ordW2_apart hy _ _⟩
  rw [if_neg h7]
  by_cases h8 : c = 8
  · rw [if_pos h8]; exact ⟨ordW2_apart hx _ _, ordW1_apart hy _ _⟩
  rw [if_neg h8]
  by_cases h9 : c = 9
  · rw [if_pos h9]; exact ⟨ordW2_apart hx _ _, ordW1_apart hy _ _⟩
  rw [if_neg h9]
  by_cases h10 : c = 10
  · rw [if_pos h10]; exact ⟨forceV_apart hx _ _, forceV_apart hy _ _⟩
  rw [if_neg h10]
  exact ⟨forceV_apart hx _ _, forceV_apart hy _ _⟩
theorem rr_89g (r : Nat → VV) (c : Int32) (R : Nat → VV) : f_M_refine_89g r c R = f_M_refine_581 r c R := by unfold f_M_refine_89g; exact Eq.refl _
theorem rr_130g (r : Nat → VV) (c : Int32) (R : Nat → VV) : f_M_refine_130g r c R = f_M_refine_581 r c R := by unfold f_M_refine_130g; exact Eq.refl _
theorem rr_156g (r : Nat → VV) (c : Int32) (R : Nat → VV) : f_M_refine_156g r c R = f_M_refine_581 r c R := by unfold f_M_refine_156g; exact Eq.refl _
theorem rr_182g (r : Nat → VV) (c : Int32) (R : Nat → VV) : f_M_refine_182g r c R = f_M_refine_581 r c R := by unfold f_M_refine_182g; exact Eq.refl _
theorem rr_208g (r : Nat → VV) (c : Int32) (R : Nat → VV) : f_M_refine_208g r c R = f_M_refine_581 r c R := by unfold f_M_refine_208g; exact Eq.refl _
theorem rr_234g (r : Nat → VV) (c : Int32) (R : Nat → VV) : f_M_refine_234g r c R = f_M_refine_581 r c R := by unfold f_M_refine_234g; exact Eq.refl _
theorem rr_260g (r : Nat → VV) (c : Int32) (R : Nat → VV) : f_M_refine_260g r c R = f_M_refine_581 r c R := by unfold f_M_refine_260g; exact Eq.refl _
theorem rr_286g (r : Nat → VV) (c : Int32) (R : Nat → VV) : f_M_refine_286g r c R = f_M_refine_581 r c R := by unfold f_M_refine_286g; exact Eq.refl _
theorem rr_312g (r : Nat → VV) (c : Int32) (R : Nat → VV) : f_M_refine_312g r c R = f_M_refine_581 r c R := by unfold f_M_refine_312g; exact Eq.refl _
theorem rr_338g (r : Nat → VV) (c : Int32) (R : Nat → VV) : f_M_refine_338g r c R = f_M_refine_581 r c R := by unfold f_M_refine_338g; exact Eq.refl _
theorem rr_479g (r : Nat → VV) (c : Int32) (R : Nat → VV) : f_M_refine_479g r c R = f_M_refine_581 r c R := by unfold f_M_refine_479g; exact Eq.refl _
theorem rr_578g (r : Nat → VV) (c : Int32) (R : Nat → VV) : f_M_refine_578g r c R = f_M_refine_581 r c R := by unfold f_M_refine_578g; exact Eq.refl _
theorem isSingle_dec (r : Nat → VV) (p : Nat) : f_M_isSingle r p = decide ((r p).2.2.1 = (r p).2.2.2.1) := by
  have := m_isSingle r p
  by_cases h : (r p).2.2.1 = (r p).2.2.2.1
  · rw [decide_eq_true h]; exact this.mpr h
  · rw [decide_eq_false h]
    cases q : f_M_isSingle r p
    · rfl
    · exact absurd (this.mp q) h
theorem rf_401 (r : Nat → VV) (c : Int32) (R : Nat → VV) (b : Bool) (x y : VV) (h16 : R 16 = x) (h17 : R 17 = y) (h19 : R 19 = x) (h20 : R 20 = y) : f_M_refine_401 r c b R = f_M_refine_581 r c (va_up (va_up R 16 (forceV (x.1, x.2.1, x.2.2.1, x.2.2.2.1, x.2.2.2.2.1, x.2.2.2.2.2.1, b) (if y.2.2.1 = y.2.2.2.1 ∧ f_M_isOneBit y.2.2.1 = true then y.2.2.1 else 0) 0)) 17 (forceV y (if x.2.2.1 = x.2.2.2.1 ∧ f_M_isOneBit x.2.2.1 = true then x.2.2.1 else 0) 0)) := by
  unfold f_M_refine_401 f_M_refine_401u f_M_refine_437 f_M_refine_438 f_M_refine_439g f_M_refine_477 f_M_refine_478
  have n20 : ¬ (20 : Nat) = 16 := by decide
  have n19 : ¬ (19 : Nat) = 16 := by decide
  have n17 : ¬ (17 : Nat) = 16 := by decide
  simp only [u7_at, h16, force_eq, up_at, up_up, up_ne _ _ n20, up_ne _ _ n19, up_ne _ _ n17, h19, h20, h17, m_isSingle, rr_479g]
  rcases Classical.propComplete (y.2.2.1 = y.2.2.2.1) with p | p <;> rcases Classical.propComplete (x.2.2.1 = x.2.2.2.1) with q | q <;> rcases Classical.propComplete (f_M_isOneBit y.2.2.1 = true) with s | s <;> rcases Classical.propComplete (f_M_isOneBit x.2.2.1 = true) with t | t <;> simp only [p, q, s, t, if_true, if_false, and_true, and_false, true_and, false_and, and_self]
theorem rf_526 (r : Nat → VV) (c : Int32) (R : Nat → VV) (b : Bool) (x y : VV) (h16 : R 16 = x) (h17 : R 17 = y) (h19 : R 19 = x) (h20 : R 20 = y) : f_M_refine_526 r c b R = f_M_refine_581 r c (va_up (va_up R 16 (forceV (x.1, x.2.1, x.2.2.1, x.2.2.2.1, x.2.2.2.2.1, x.2.2.2.2.2.1, b) 0 (if y.2.2.1 = y.2.2.2.1 then y.2.2.1 else 0))) 17 (forceV y 0 (if x.2.2.1 = x.2.2.2.1 then x.2.2.1 else 0))) := by
  unfold f_M_refine_526 f_M_refine_526u f_M_refine_551 f_M_refine_551g f_M_refine_578
  have n20 : ¬ (20 : Nat) = 16 := by decide
  have n19 : ¬ (19 : Nat) = 16 := by decide
  have n17 : ¬ (17 : Nat) = 16 := by decide
  simp only [u7_at, h16, force_eq, up_at, up_up, up_ne _ _ n20, up_ne _ _ n19, up_ne _ _ n17, h19, h20, h17, m_isSingle, rr_578g]
  rcases Classical.propComplete (y.2.2.1 = y.2.2.2.1) with p | p <;> rcases Classical.propComplete (x.2.2.1 = x.2.2.2.1) with q | q <;> simp only [p, q, if_true, if_false]
theorem m_refine_pre (r : Nat → VV) (c : Int32) (x y : VV) (h16 : r 16 = x) (h17 : r 17 = y) : f_M_refine r c = f_M_refine_581 r c (va_up (va_up (va_up (va_up r 19 x) 20 y) 16 (mQ c x y).1) 17 (mQ c x y).2) := by
  unfold f_M_refine f_M_refine_5g
  rw [copy_eq r (show ¬ (16 : Nat) = 19 by decide), h16, copy_eq _ (show ¬ (17 : Nat) = 20 by decide), show va_up r 19 x 17 = r 17 from rfl, h17]
  have e16 : va_up (va_up r 19 x) 20 y 16 = x := h16
  have e17 : va_up (va_up r 19 x) 20 y 17 = y := h17
  have e19 : va_up (va_up r 19 x) 20 y 19 = x := rfl
  have e20 : va_up (va_up r 19 x) 20 y 20 = y := rfl
  generalize va_up (va_up r 19 x) 20 y = R at e16 e17 e19 e20 ⊢
  have n2016 : ¬ (20 : Nat) = 16 := by decide
  have n1916 : ¬ (19 : Nat) = 16 := by decide
  have n1917 : ¬ (19 : Nat) = 17 := by decide
  have n1716 : ¬ (17 : Nat) = 16 := by decide
  have n1617 : ¬ (16 : Nat) = 17 := by decide
  unfold f_M_refine_13g mQ
  by_cases h0 : c = 0
  · rw [if_pos h0, if_pos h0]
    unfold f_M_refine_81g
    rw [rr_89g, both_eq R n2016, e16, e20, both_eq _ n1917, up_ne _ _ n1716, up_ne _ _ n1916, e17, e19]
  rw [if_neg h0, if_neg h0]
  by_cases h1 : c = 1
  · rw [if_pos h1, if_pos h1]
    unfold f_M_refine_111g
    rw [rr_130g, lose_eq, lose_eq, isSingle_dec, isSingle_dec, up_ne _ _ n1716, up_ne _ _ n1916, e16, e17, e19, e20]
  rw [if_neg h1, if_neg h1]
  by_cases h2 : c = 2
  · rw [if_pos h2, if_pos h2, rr_156g, order_eq R n1617, e16, e17, e19, e20]
  rw [if_neg h2, if_neg h2]
  by_cases h3 : c = 3
  · rw [if_pos h3, if_pos h3, rr_182g, order_eq R n1617, e16, e17, e19, e20]
  rw [if_neg h3, if_neg h3]
  by_cases h4 : c = 4
  · rw [if_pos h4, if_pos h4, rr_208g, order_eq R n1716, e16, e17, e19, e20, up_comm R n1716]
  rw [if_neg h4, if_neg h4]
  by_cases h5 : c = 5
  · rw [if_pos h5, if_pos h5, rr_234g, order_eq R n1716, e16, e17, e19, e20, up_comm R n1716]
  rw [if_neg h5, if_neg h5]
  by_cases h6 : c = 6
  · rw [if_pos h6, if_pos h6, rr_260g, orderL_eq R n1617, e16, e17, e19, e20]
  rw [if_neg h6, if_neg h6]
  by_cases h7 : c = 7
  · rw [if_pos h7, if_pos h7, rr_286g, orderL_eq R n1617, e16, e17, e19, e20]
  rw [if_neg h7, if_neg h7]
  by_cases h8 : c = 8
  · rw [if_pos h8, if_pos h8, rr_312g, orderL_eq R n1716, e16, e17, e19, e20, up_comm R n1716]
  rw [if_neg h8, if_neg h8]
  by_cases h9 : c = 9
  · rw [if_pos h9, if_pos h9, rr_338g, orderL_eq R n1716, e16, e17, e19, e20, up_comm R n1716]
  rw [if_neg h9, if_neg h9]
  by_cases h10 : c = 10
  · rw [if_pos h10, if_pos h10]
    unfold f_M_refine_396
    rw [rf_401 r c R _ x y e16 e17 e19 e20, rf_401 r c R _ x y e16 e17 e19 e20, e16, e19, e20]
    cases x.2.2.2.2.2.2
    · rcases Classical.propComplete ((x.1 ||| x.2.1) &&& (y.1 ||| y.2.1) = 0) with a | a <;> simp only [a, bFT, if_true, if_false, decide_true, decide_false, Bool.false_or]
    · simp only [if_true, Bool.true_or]
  rw [if_neg h10, if_neg h10]
  unfold f_M_refine_521
  rw [rf_526 r c R _ x y e16 e17 e19 e20, rf_526 r c R _ x y e16 e17 e19 e20, e16, e19, e20]
  cases x.2.2.2.2.2.2
  · rcases Classical.propComplete (x.1 &&& y.1 = 0) with a | a <;> simp only [a, bFT, if_true, if_false, decide_true, decide_false, Bool.false_or, Bool.not_true, Bool.not_false]
  · simp only [if_true, Bool.true_or]
theorem m_refine_eq (r : Nat → VV) (c : Int32) (x y : VV) (h16 : r 16 = x) (h17 : r 17 = y) (hx : apart x.1 x.2.1) (hy : apart y.1 y.2.1) : f_M_refine r c = va_up (va_up (va_up (va_up r 19 x) 20 y) 16 (f_V_tighten (mQ c x y).1)) 17 (f_V_tighten (mQ c x y).2) := by
  obtain ⟨a, b⟩ := mQ_apart c hx hy
  rw [m_refine_pre r c x y h16 h17, rt_581 _ _ _ a b]
