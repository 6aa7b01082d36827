/-! comparisons, as the reference does them -/
theorem up2 {α : Type} (f : Nat → α) {p q : Nat} (h : ¬ p = q) (A B C : α) : va_up (va_up (va_up f p A) q B) p C = va_up (va_up f p C) q B := by
  funext j
  unfold va_up
  by_cases h1 : j = p
  · have : ¬ j = q := fun w => h (h1.symm.trans w)
    rw [if_pos h1, if_neg this, if_pos h1]
  · rw [if_neg h1, if_neg h1]
    by_cases h2 : j = q
    · rw [if_pos h2, if_pos h2]
    · rw [if_neg h2, if_neg h2, if_neg h1]
theorem up_comm {α : Type} (f : Nat → α) {p q : Nat} (h : ¬ p = q) (A B : α) : va_up (va_up f p A) q B = va_up (va_up f q B) p A := by
  have := up2 (va_up f q B) h A B A
  funext j
  unfold va_up
  by_cases h1 : j = p
  · have : ¬ j = q := fun w => h (h1.symm.trans w)
    rw [if_neg this, if_pos h1, if_pos h1]
  · rw [if_neg h1, if_neg h1]
def bothV (x y : VV) : VV := (x.1 ||| y.1, x.2.1 &&& y.2.1, f_N_more x.2.2.1 y.2.2.1, f_N_less x.2.2.2.1 y.2.2.2.1, jmmax x.2.2.2.2.1 y.2.2.2.2.1, jmmin x.2.2.2.2.2.1 y.2.2.2.2.2.1, x.2.2.2.2.2.2 || !decide ((x.1 ^^^ y.1) &&& ((x.2.1 ^^^ (-1 : Int64)) &&& (y.2.1 ^^^ (-1 : Int64))) = 0))
theorem u7_at (r : Nat → VV) (p : Nat) (b : Bool) : u7 r p b = va_up r p ((r p).1, (r p).2.1, (r p).2.2.1, (r p).2.2.2.1, (r p).2.2.2.2.1, (r p).2.2.2.2.2.1, b) := rfl
theorem bo_178 (r : Nat → VV) {p q : Nat} (h : ¬ q = p) (a b c d e f : Int64) (g : Bool) : f_M_both_178u r p q (va_up r p (a, b, c, d, e, f, g)) = va_up r p (a, b, c, d, e, jmmin f (r q).2.2.2.2.2.1, g) := by
  unfold f_M_both_178u f_M_both_215 f_M_both_215u
  simp only [u6_up, up_at, up_ne _ _ h, ← jmin_lt]
  rcases Classical.propComplete (f < (r q).2.2.2.2.2.1) with c | c <;> simp only [c, if_true, if_false]
theorem bo_141 (r : Nat → VV) {p q : Nat} (h : ¬ q = p) (a b c d e f : Int64) (g : Bool) : f_M_both_141u r p q (va_up r p (a, b, c, d, e, f, g)) = va_up r p (a, b, c, d, jmmax e (r q).2.2.2.2.1, jmmin f (r q).2.2.2.2.2.1, g) := by
  have e1 : ∀ a b : Int64, jmmax a b = (if b < a then a else b) := fun a b => rfl
  unfold f_M_both_141u f_M_both_178
  simp only [u5_up, up_at, up_ne _ _ h, e1, bo_178 r h]
  rcases Classical.propComplete ((r q).2.2.2.2.1 < e) with c | c <;> simp only [c, if_true, if_false]
theorem bo_120 (r : Nat → VV) {p q : Nat} (h : ¬ q = p) (a b c d e f : Int64) (g : Bool) : f_M_both_120u r p q (va_up r p (a, b, c, d, e, f, g)) = va_up r p (a, b, c, f_N_less d (r q).2.2.2.1, jmmax e (r q).2.2.2.2.1, jmmin f (r q).2.2.2.2.2.1, g) := by
  unfold f_M_both_120u
  rw [up_at, up_ne _ _ h, less_eq, u4_up]
  exact bo_141 r h a b c _ e f g
theorem bo_99 (r : Nat → VV) {p q : Nat} (h : ¬ q = p) (a b c d e f : Int64) (g : Bool) : f_M_both_99u r p q (va_up r p (a, b, c, d, e, f, g)) = va_up r p (a, b, f_N_more c (r q).2.2.1, f_N_less d (r q).2.2.2.1, jmmax e (r q).2.2.2.2.1, jmmin f (r q).2.2.2.2.2.1, g) := by
  unfold f_M_both_99u
  rw [up_at, up_ne _ _ h, more_eq, u3_up]
  exact bo_120 r h a b _ d e f g
theorem bo_61 (r : Nat → VV) {p q : Nat} (h : ¬ q = p) (b : Bool) : f_M_both_61 r p q b = va_up r p ((r p).1 ||| (r q).1, (r p).2.1 &&& (r q).2.1, f_N_more (r p).2.2.1 (r q).2.2.1, f_N_less (r p).2.2.2.1 (r q).2.2.2.1, jmmax (r p).2.2.2.2.1 (r q).2.2.2.2.1, jmmin (r p).2.2.2.2.2.1 (r q).2.2.2.2.2.1, b) := by
  unfold f_M_both_61 f_M_both_61u f_M_both_80u
  simp only [u7_at, u1_up, u2_up, up_at, up_ne _ _ h, bo_99 r h]
theorem both_eq (r : Nat → VV) {p q : Nat} (h : ¬ q = p) : f_M_both r p q = va_up r p (bothV (r p) (r q)) := by
  unfold f_M_both f_M_both_21v f_M_both_56 bothV
  simp only [bo_61 r h]
  cases (r p).2.2.2.2.2.2
  · rcases Classical.propComplete (((r p).1 ^^^ (r q).1) &&& (((r p).2.1 ^^^ (-1 : Int64)) &&& ((r q).2.1 ^^^ (-1 : Int64))) = 0) with a | a <;> simp only [a, if_true, if_false, bFT, decide_true, decide_false, Bool.false_or, Bool.not_true, Bool.not_false]
  · simp only [if_true, Bool.true_or]
def loseV (x : VV) (is : Bool) (n : Int64) : VV := if is = true then (if x.2.2.1 = x.2.2.2.1 ∧ x.2.2.1 = n then (x.1, x.2.1, x.2.2.1, x.2.2.2.1, x.2.2.2.2.1, x.2.2.2.2.2.1, true) else (x.1, x.2.1, if x.2.2.1 = n then n + 1 else x.2.2.1, if x.2.2.2.1 = n then n - 1 else x.2.2.2.1, if x.2.2.2.2.1 = n then n + 1 else x.2.2.2.2.1, if x.2.2.2.2.2.1 = n then n - 1 else x.2.2.2.2.2.1, x.2.2.2.2.2.2)) else x
theorem u3_at (r : Nat → VV) (p : Nat) (b : Int64) : u3 r p b = va_up r p ((r p).1, (r p).2.1, b, (r p).2.2.2.1, (r p).2.2.2.2.1, (r p).2.2.2.2.2.1, (r p).2.2.2.2.2.2) := rfl
theorem lo_32 (r : Nat → VV) (p : Nat) (is : Bool) (n : Int64) : f_M_lose_32 r p is n = va_up r p ((r p).1, (r p).2.1, if (r p).2.2.1 = n then n + 1 else (r p).2.2.1, if (r p).2.2.2.1 = n then n - 1 else (r p).2.2.2.1, if (r p).2.2.2.2.1 = n then n + 1 else (r p).2.2.2.2.1, if (r p).2.2.2.2.2.1 = n then n - 1 else (r p).2.2.2.2.2.1, (r p).2.2.2.2.2.2) := by
  unfold f_M_lose_32 f_M_lose_60 f_M_lose_60u f_M_lose_89 f_M_lose_89u f_M_lose_118 f_M_lose_118u f_M_lose_147 f_M_lose_147u
  simp only [u3_at, u4_up, u5_up, u6_up, up_at]
  rcases Classical.propComplete ((r p).2.2.1 = n) with a | a <;> rcases Classical.propComplete ((r p).2.2.2.1 = n) with b | b <;> rcases Classical.propComplete ((r p).2.2.2.2.1 = n) with c | c <;> rcases Classical.propComplete ((r p).2.2.2.2.2.1 = n) with d | d <;> simp only [a, b, c, d, if_true, if_false]
theorem lose_eq (r : Nat → VV) (p : Nat) (is : Bool) (n : Int64) : f_M_lose r p is n = va_up r p (loseV (r p) is n) := by
  unfold f_M_lose f_M_lose_30u loseV
  simp only [lo_32, m_isSingle, u7_at]
  cases is
  · simp only [bFT, if_false]; exact (up_id r p).symm
  · rcases Classical.propComplete ((r p).2.2.1 = (r p).2.2.2.1) with a | a <;> rcases Classical.propComplete ((r p).2.2.1 = n) with b | b <;> simp only [a, b, if_true, if_false, and_true, and_false, true_and, false_and, and_self]
def ordV1 (x : VV) (hi : Int64) (st : Bool) : VV := (x.1, x.2.1, x.2.2.1, f_N_less x.2.2.2.1 (if st = true ∧ ¬ hi = 0 then hi - 1 else hi), x.2.2.2.2.1, x.2.2.2.2.2.1, x.2.2.2.2.2.2 || (st && decide (hi = 0)))
def ordV2 (y : VV) (lo : Int64) (st : Bool) : VV := (y.1, y.2.1, f_N_more y.2.2.1 (if st = true ∧ ¬ lo = -1 then lo + 1 else lo), y.2.2.2.1, y.2.2.2.2.1, y.2.2.2.2.2.1, y.2.2.2.2.2.2 || (st && decide (lo = -1)))
theorem order_eq (r : Nat → VV) {p q : Nat} (h : ¬ p = q) (hi lo : Int64) (st : Bool) : f_M_order r p q hi lo st = va_up (va_up r p (ordV1 (r p) hi st)) q (ordV2 (r q) lo st) := by
  have h' : ¬ q = p := fun w => h w.symm
  have w4 : ∀ (A B : VV) (x : Int64), u4 (va_up (va_up r p A) q B) p x = va_up (va_up r p (A.1, A.2.1, A.2.2.1, x, A.2.2.2.2.1, A.2.2.2.2.2.1, A.2.2.2.2.2.2)) q B := fun A B x => by
    unfold u4
    rw [up2 r h, up_ne _ _ h, up_at]
  unfold f_M_order f_M_order_25 f_M_order_29 f_M_order_30 f_M_order_30u f_M_order_59 f_M_order_63 f_M_order_64 f_M_order_64u f_M_order_93 f_M_order_94 f_M_order_97u f_M_order_130 f_M_order_132 f_M_order_135u ordV1 ordV2
  simp only [u7_at, up_at, up_ne _ _ h, up_ne _ _ h', w4, u3_up, less_eq, more_eq]
  cases (r p).2.2.2.2.2.2 <;> cases (r q).2.2.2.2.2.2 <;> cases st <;> rcases Classical.propComplete (hi = 0) with a | a <;> rcases Classical.propComplete (lo = -1) with b | b <;> simp only [a, b, bFT, bTF, if_true, if_false, not_true, not_false_iff, and_true, and_false, true_and, false_and, and_self, decide_true, decide_false, Bool.or_false, Bool.or_true, Bool.false_or, Bool.true_or, Bool.and_true, Bool.and_false, Bool.true_and, Bool.false_and, Bool.or_self, Bool.and_self]
def ordW1 (x : VV) (la : Int64) (st : Bool) : VV := (x.1, x.2.1, x.2.2.1, x.2.2.2.1, x.2.2.2.2.1, jmmin x.2.2.2.2.2.1 (if st = true ∧ ¬ la = -9223372036854775808 then la - 1 else la), x.2.2.2.2.2.2 || (st && decide (la = -9223372036854775808)))
def ordW2 (y : VV) (fi : Int64) (st : Bool) : VV := (y.1, y.2.1, y.2.2.1, y.2.2.2.1, jmmax y.2.2.2.2.1 (if st = true ∧ ¬ fi = 9223372036854775807 then fi + 1 else fi), y.2.2.2.2.2.1, y.2.2.2.2.2.2 || (st && decide (fi = 9223372036854775807)))
theorem orderL_112 (r R : Nat → VV) {p q : Nat} (h : ¬ p = q) (hi lo : Int64) (st : Bool) (A B : VV) (t f : Int64) : f_M_orderLongs_112 r p q hi lo st t f (va_up (va_up R p A) q B) = va_up (va_up R p (A.1, A.2.1, A.2.2.1, A.2.2.2.1, A.2.2.2.2.1, jmmin A.2.2.2.2.2.1 t, A.2.2.2.2.2.2)) q (B.1, B.2.1, B.2.2.1, B.2.2.2.1, jmmax B.2.2.2.2.1 f, B.2.2.2.2.2.1, B.2.2.2.2.2.2) := by
  have h' : ¬ q = p := fun w => h w.symm
  have w6 : ∀ (A B : VV) (x : Int64), u6 (va_up (va_up R p A) q B) p x = va_up (va_up R p (A.1, A.2.1, A.2.2.1, A.2.2.2.1, A.2.2.2.2.1, x, A.2.2.2.2.2.2)) q B := fun A B x => by
    unfold u6
    rw [up2 R h, up_ne _ _ h, up_at]
  have e1 : ∀ a b : Int64, jmmax a b = (if b < a then a else b) := fun a b => rfl
  have e2 : ∀ a b : Int64, jmmin a b = (if a < b then a else b) := fun a b => (jmin_lt a b).symm
  unfold f_M_orderLongs_112 f_M_orderLongs_142 f_M_orderLongs_142u f_M_orderLongs_171 f_M_orderLongs_171u
  simp only [up_at, up_ne _ _ h, up_ne _ _ h', w6, u5_up, e1, e2]
  rcases Classical.propComplete (A.2.2.2.2.2.1 < t) with a | a <;> rcases Classical.propComplete (f < B.2.2.2.2.1) with b | b <;> simp only [a, b, if_true, if_false]
theorem orderL_eq (r : Nat → VV) {p q : Nat} (h : ¬ p = q) (hi lo : Int64) (st : Bool) : f_M_orderLongs r p q hi lo st = va_up (va_up r p (ordW1 (r p) hi st)) q (ordW2 (r q) lo st) := by
  have h' : ¬ q = p := fun w => h w.symm
  unfold f_M_orderLongs f_M_orderLongs_27 f_M_orderLongs_31 f_M_orderLongs_32 f_M_orderLongs_32u f_M_orderLongs_61 f_M_orderLongs_65 f_M_orderLongs_66 f_M_orderLongs_66u f_M_orderLongs_86 f_M_orderLongs_87 f_M_orderLongs_110 ordW1 ordW2
  simp only [u7_at, up_at, up_ne _ _ h, up_ne _ _ h', orderL_112 r r h]
  cases (r p).2.2.2.2.2.2 <;> cases (r q).2.2.2.2.2.2 <;> cases st <;> rcases Classical.propComplete (hi = -9223372036854775808) with a | a <;> rcases Classical.propComplete (lo = 9223372036854775807) with b | b <;> simp only [a, b, bFT, bTF, if_true, if_false, not_true, not_false_iff, and_true, and_false, true_and, false_and, and_self, decide_true, decide_false, Bool.or_false, Bool.or_true, Bool.false_or, Bool.true_or, Bool.and_true, Bool.and_false, Bool.true_and, Bool.false_and, Bool.or_self, Bool.and_self]
def forceV (x : VV) (on ze : Int64) : VV := (x.1 ||| on, x.2.1 &&& ((on ||| ze) ^^^ (-1 : Int64)), x.2.2.1, x.2.2.2.1, x.2.2.2.2.1, x.2.2.2.2.2.1, x.2.2.2.2.2.2 || !decide (x.1 &&& ze = 0) || !decide (((x.1 ||| x.2.1) ^^^ (-1 : Int64)) &&& on = 0))
theorem force_eq (r : Nat → VV) (p : Nat) (on ze : Int64) : f_M_force r p on ze = va_up r p (forceV (r p) on ze) := by
  unfold f_M_force f_M_force_52 f_M_force_57 f_M_force_57u f_M_force_71u f_M_force_92u forceV
  simp only [u7_at, u1_up, u2_up, up_at]
  cases (r p).2.2.2.2.2.2 <;> rcases Classical.propComplete ((r p).1 &&& ze = 0) with a | a <;> rcases Classical.propComplete ((((r p).1 ||| (r p).2.1) ^^^ (-1 : Int64)) &&& on = 0) with b | b <;> simp only [a, b, bFT, bTF, if_true, if_false, decide_true, decide_false, Bool.or_false, Bool.or_true, Bool.false_or, Bool.true_or, Bool.not_true, Bool.not_false, Bool.or_self]
