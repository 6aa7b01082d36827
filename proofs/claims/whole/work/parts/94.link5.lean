/-! branch, decided and the reading methods -/
theorem nc_yes {c a b : Int32} (ha : okp a) (hb : okp b) (h1 : ¬ c < 0) (h2 : c ≤ 11) (h3 : ¬ a = b) : f_M_noComparison c a b = (false, 0) := by
  unfold f_M_noComparison f_M_noComparison_4g f_M_noComparison_33
  rw [np_yes ha hb okp0, if_neg (show ¬ ((false, (0 : Int32)).1 = true) by decide), if_neg h1, if_neg (show ¬ (11 : Int32) < c by rw [Int32.lt_iff_toInt_lt]; rw [Int32.le_iff_toInt_le] at h2; omega), if_neg, if_pos (by decide)]
  rw [← (ie_nI ha).1, ← (ie_nI hb).1]; exact h3
theorem nc_no1 {c a b : Int32} (h : ¬ (okp a ∧ okp b)) : f_M_noComparison c a b = (true, 1) := by
  unfold f_M_noComparison f_M_noComparison_4g
  rw [np_no (fun z => h ⟨z.1, z.2.1⟩), if_pos (show (true, (1 : Int32)).1 = true from rfl)]
theorem nc_no2 {c a b : Int32} (ha : okp a) (hb : okp b) (h : c < 0 ∨ ¬ c ≤ 11 ∨ a = b) : f_M_noComparison c a b = (true, 2) := by
  have e28 : ∀ k, f_M_noComparison_28 c a b k = (true, 2) := fun k => by unfold f_M_noComparison_28 f_M_noComparison_33; rw [if_neg (by decide)]
  unfold f_M_noComparison f_M_noComparison_4g
  rw [np_yes ha hb okp0, if_neg (show ¬ ((false, (0 : Int32)).1 = true) by decide)]
  simp only [e28]
  by_cases c1 : c < 0
  · rw [if_pos c1]
  rw [if_neg c1]
  by_cases c2 : (11 : Int32) < c
  · rw [if_pos c2]
  rw [if_neg c2]
  have c3 : a = b := by
    rcases h with h | h | h
    · exact absurd h c1
    · exact absurd (by rw [Int32.le_iff_toInt_le]; rw [Int32.lt_iff_toInt_lt] at c2; omega) h
    · exact h
  rw [if_pos (by rw [c3])]
/-- the test of a comparison: both say the same -/
theorem nc_link (c a b : Int32) : (f_S_requireComparison c a b = 0 ∧ f_M_noComparison c a b = (false, 0) ∧ okp a ∧ okp b ∧ ¬ c < 0 ∧ c ≤ 11 ∧ ¬ a = b) ∨ (¬ f_S_requireComparison c a b = 0 ∧ f_M_noComparison c a b = (true, f_S_requireComparison c a b)) := by
  unfold f_S_requireComparison
  by_cases ha : okp a
  · rw [if_pos ((rp_iff a).mpr ha)]
    by_cases hb : okp b
    · rw [if_pos ((rp_iff b).mpr hb)]
      by_cases c1 : c < 0
      · rw [if_pos c1, nc_no2 ha hb (Or.inl c1)]; exact Or.inr ⟨by decide, rfl⟩
      rw [if_neg c1]
      by_cases c2 : c ≤ 11
      · rw [if_pos c2]
        by_cases c3 : a = b
        · rw [if_pos c3, nc_no2 ha hb (Or.inr (Or.inr c3))]; exact Or.inr ⟨by decide, rfl⟩
        · rw [if_neg c3, nc_yes ha hb c1 c2 c3]; exact Or.inl ⟨rfl, rfl, ha, hb, c1, c2, c3⟩
      · rw [if_neg c2, nc_no2 ha hb (Or.inr (Or.inl c2))]; exact Or.inr ⟨by decide, rfl⟩
    · rw [if_neg (fun z => hb ((rp_iff b).mp z)), rp_1 hb, nc_no1 (fun z => hb z.2)]; exact Or.inr ⟨by decide, rfl⟩
  · rw [if_neg (fun z => ha ((rp_iff a).mp z)), rp_1 ha, nc_no1 (fun z => ha z.1)]; exact Or.inr ⟨by decide, rfl⟩
theorem bI_below (p q : Int64) : bI (f_M_below p q) = f_N_below p q := by
  rw [m_below, n_below]
  by_cases h : un p < un q
  · rw [if_pos h, decide_eq_true h]; rfl
  · rw [if_neg h, decide_eq_false h]; rfl
theorem bI_nbelow (p q : Int64) : bI (if f_M_below p q = true then false else true) = if f_N_below p q = 0 then 1 else 0 := by
  by_cases h : un p < un q
  · rw [if_pos ((m_below1 p q).mpr h), if_neg (fun z => (n_below0 p q).mp z h)]; rfl
  · rw [if_neg (fun z => h ((m_below1 p q).mp z)), if_pos ((n_below0 p q).mpr h)]; rfl
theorem bI_if {P : Prop} [Decidable P] : bI (if P then true else false) = (if P then 1 else 0) ∧ bI (if P then false else true) = (if P then 0 else 1) := by
  by_cases h : P
  · rw [if_pos h, if_pos h, if_pos h, if_pos h]; exact ⟨rfl, rfl⟩
  · rw [if_neg h, if_neg h, if_neg h, if_neg h]; exact ⟨rfl, rfl⟩
theorem isSo_eq (c : Int32) (v w : Int64) : bI (f_M_isSo c v w) = f_C_isSo c v w := by
  unfold f_M_isSo f_C_isSo
  by_cases h0 : c = 0
  · rw [if_pos h0, if_pos h0]; exact bI_if.1
  rw [if_neg h0, if_neg h0]
  by_cases h1 : c = 1
  · rw [if_pos h1, if_pos h1]; exact bI_if.2
  rw [if_neg h1, if_neg h1]
  by_cases h2 : c = 2
  · rw [if_pos h2, if_pos h2]; exact bI_below v w
  rw [if_neg h2, if_neg h2]
  by_cases h3 : c = 3
  · rw [if_pos h3, if_pos h3]; exact bI_nbelow w v
  rw [if_neg h3, if_neg h3]
  by_cases h4 : c = 4
  · rw [if_pos h4, if_pos h4]; exact bI_below w v
  rw [if_neg h4, if_neg h4]
  by_cases h5 : c = 5
  · rw [if_pos h5, if_pos h5]; exact bI_nbelow v w
  rw [if_neg h5, if_neg h5]
  by_cases h6 : c = 6
  · rw [if_pos h6, if_pos h6]; exact bI_if.1
  rw [if_neg h6, if_neg h6]
  by_cases h7 : c = 7
  · rw [if_pos h7, if_pos h7]; exact bI_if.2
  rw [if_neg h7, if_neg h7]
  by_cases h8 : c = 8
  · rw [if_pos h8, if_pos h8]; exact bI_if.1
  rw [if_neg h8, if_neg h8]
  by_cases h9 : c = 9
  · rw [if_pos h9, if_pos h9]; exact bI_if.2
  rw [if_neg h9, if_neg h9]
  by_cases h10 : c = 10
  · rw [if_pos h10, if_pos h10]; exact bI_if.2
  rw [if_neg h10, if_neg h10]
  exact bI_if.1
theorem c12 : ∀ n, n < 12 → f_M_opposite (nI n) = f_C_opposite (nI n) := by decide +kernel
theorem c_nI {c : Int32} (h1 : ¬ c < 0) (h2 : c ≤ 11) : ∃ n, n < 12 ∧ c = nI n := by
  have e0 : (0 : Int32).toInt = 0 := by decide
  have e11 : (11 : Int32).toInt = 11 := by decide
  have e1 : 0 ≤ c.toInt := by rw [Int32.lt_iff_toInt_lt, e0] at h1; omega
  have e2 : c.toInt ≤ 11 := by rw [Int32.le_iff_toInt_le, e11] at h2; exact h2
  refine ⟨c.toInt.toNat, by omega, Int32.toInt_inj.mp ?_⟩
  rw [nI_toInt (by omega)]; omega
theorem opp_eq {c : Int32} (h1 : ¬ c < 0) (h2 : c ≤ 11) : f_M_opposite c = f_C_opposite c := by
  obtain ⟨n, hn, e⟩ := c_nI h1 h2
  rw [e]; exact c12 n hn
theorem opp_list : f_C_opposite 0 = 1 ∧ f_C_opposite 1 = 0 ∧ f_C_opposite 2 = 5 ∧ f_C_opposite 3 = 4 ∧ f_C_opposite 4 = 3 ∧ f_C_opposite 5 = 2 ∧ f_C_opposite 6 = 9 ∧ f_C_opposite 7 = 8 ∧ f_C_opposite 8 = 7 ∧ f_C_opposite 9 = 6 ∧ f_C_opposite 10 = 11 ∧ f_C_opposite 11 = 10 := by decide
theorem so_neg {P : Prop} [Decidable P] : ((if P then (1 : Int32) else 0) = 0 → (if P then (0 : Int32) else 1) = 1) ∧ ((if P then (0 : Int32) else 1) = 0 → (if P then (1 : Int32) else 0) = 1) := by
  by_cases h : P
  · rw [if_pos h, if_pos h]; exact ⟨fun z => absurd z (by decide), fun _ => rfl⟩
  · rw [if_neg h, if_neg h]; exact ⟨fun _ => rfl, fun z => absurd z (by decide)⟩
theorem nb_neg (p q : Int64) : (f_N_below p q = 0 → (if f_N_below p q = 0 then (1 : Int32) else 0) = 1) ∧ ((if f_N_below p q = 0 then (1 : Int32) else 0) = 0 → f_N_below p q = 1) := by
  rw [n_below]
  by_cases h : un p < un q
  · rw [if_pos h]; exact ⟨fun z => absurd z (by decide), fun _ => rfl⟩
  · rw [if_neg h]; exact ⟨fun _ => rfl, fun z => absurd z (by decide)⟩
theorem so_0 (v w : Int64) : f_C_isSo 0 v w = if v = w then 1 else 0 := by unfold f_C_isSo; rw [if_pos (show (0 : Int32) = 0 from rfl)]
theorem so_1 (v w : Int64) : f_C_isSo 1 v w = if v = w then 0 else 1 := by unfold f_C_isSo; rw [if_neg (show ¬ (1 : Int32) = 0 by decide), if_pos (show (1 : Int32) = 1 from rfl)]
theorem so_2 (v w : Int64) : f_C_isSo 2 v w = f_N_below v w := by unfold f_C_isSo; rw [if_neg (show ¬ (2 : Int32) = 0 by decide), if_neg (show ¬ (2 : Int32) = 1 by decide), if_pos (show (2 : Int32) = 2 from rfl)]
theorem so_3 (v w : Int64) : f_C_isSo 3 v w = if f_N_below w v = 0 then 1 else 0 := by unfold f_C_isSo; rw [if_neg (show ¬ (3 : Int32) = 0 by decide), if_neg (show ¬ (3 : Int32) = 1 by decide), if_neg (show ¬ (3 : Int32) = 2 by decide), if_pos (show (3 : Int32) = 3 from rfl)]
theorem so_4 (v w : Int64) : f_C_isSo 4 v w = f_N_below w v := by unfold f_C_isSo; rw [if_neg (show ¬ (4 : Int32) = 0 by decide), if_neg (show ¬ (4 : Int32) = 1 by decide), if_neg (show ¬ (4 : Int32) = 2 by decide), if_neg (show ¬ (4 : Int32) = 3 by decide), if_pos (show (4 : Int32) = 4 from rfl)]
theorem so_5 (v w : Int64) : f_C_isSo 5 v w = if f_N_below v w = 0 then 1 else 0 := by unfold f_C_isSo; rw [if_neg (show ¬ (5 : Int32) = 0 by decide), if_neg (show ¬ (5 : Int32) = 1 by decide), if_neg (show ¬ (5 : Int32) = 2 by decide), if_neg (show ¬ (5 : Int32) = 3 by decide), if_neg (show ¬ (5 : Int32) = 4 by decide), if_pos (show (5 : Int32) = 5 from rfl)]
theorem so_6 (v w : Int64) : f_C_isSo 6 v w = if v < w then 1 else 0 := by unfold f_C_isSo; rw [if_neg (show ¬ (6 : Int32) = 0 by decide), if_neg (show ¬ (6 : Int32) = 1 by decide), if_neg (show ¬ (6 : Int32) = 2 by decide), if_neg (show ¬ (6 : Int32) = 3 by decide), if_neg (show ¬ (6 : Int32) = 4 by decide), if_neg (show ¬ (6 : Int32) = 5 by decide), if_pos (show (6 : Int32) = 6 from rfl)]
theorem so_7 (v w : Int64) : f_C_isSo 7 v w = if w < v then 0 else 1 := by unfold f_C_isSo; rw [if_neg (show ¬ (7 : Int32) = 0 by decide), if_neg (show ¬ (7 : Int32) = 1 by decide), if_neg (show ¬ (7 : Int32) = 2 by decide), if_neg (show ¬ (7 : Int32) = 3 by decide), if_neg (show ¬ (7 : Int32) = 4 by decide), if_neg (show ¬ (7 : Int32) = 5 by decide), if_neg (show ¬ (7 : Int32) = 6 by decide), if_pos (show (7 : Int32) = 7 from rfl)]
theorem so_8 (v w : Int64) : f_C_isSo 8 v w = if w < v then 1 else 0 := by unfold f_C_isSo; rw [if_neg (show ¬ (8 : Int32) = 0 by decide), if_neg (show ¬ (8 : Int32) = 1 by decide), if_neg (show ¬ (8 : Int32) = 2 by decide), if_neg (show ¬ (8 : Int32) = 3 by decide), if_neg (show ¬ (8 : Int32) = 4 by decide), if_neg (show ¬ (8 : Int32) = 5 by decide), if_neg (show ¬ (8 : Int32) = 6 by decide), if_neg (show ¬ (8 : Int32) = 7 by decide), if_pos (show (8 : Int32) = 8 from rfl)]
theorem so_9 (v w : Int64) : f_C_isSo 9 v w = if v < w then 0 else 1 := by unfold f_C_isSo; rw [if_neg (show ¬ (9 : Int32) = 0 by decide), if_neg (show ¬ (9 : Int32) = 1 by decide), if_neg (show ¬ (9 : Int32) = 2 by decide), if_neg (show ¬ (9 : Int32) = 3 by decide), if_neg (show ¬ (9 : Int32) = 4 by decide), if_neg (show ¬ (9 : Int32) = 5 by decide), if_neg (show ¬ (9 : Int32) = 6 by decide), if_neg (show ¬ (9 : Int32) = 7 by decide), if_neg (show ¬ (9 : Int32) = 8 by decide), if_pos (show (9 : Int32) = 9 from rfl)]
theorem so_10 (v w : Int64) : f_C_isSo 10 v w = if v &&& w = 0 then 0 else 1 := by unfold f_C_isSo; rw [if_neg (show ¬ (10 : Int32) = 0 by decide), if_neg (show ¬ (10 : Int32) = 1 by decide), if_neg (show ¬ (10 : Int32) = 2 by decide), if_neg (show ¬ (10 : Int32) = 3 by decide), if_neg (show ¬ (10 : Int32) = 4 by decide), if_neg (show ¬ (10 : Int32) = 5 by decide), if_neg (show ¬ (10 : Int32) = 6 by decide), if_neg (show ¬ (10 : Int32) = 7 by decide), if_neg (show ¬ (10 : Int32) = 8 by decide), if_neg (show ¬ (10 : Int32) = 9 by decide), if_pos (show (10 : Int32) = 10 from rfl)]
theorem so_11 (v w : Int64) : f_C_isSo 11 v w = if v &&& w = 0 then 1 else 0 := by unfold f_C_isSo; rw [if_neg (show ¬ (11 : Int32) = 0 by decide), if_neg (show ¬ (11 : Int32) = 1 by decide), if_neg (show ¬ (11 : Int32) = 2 by decide), if_neg (show ¬ (11 : Int32) = 3 by decide), if_neg (show ¬ (11 : Int32) = 4 by decide), if_neg (show ¬ (11 : Int32) = 5 by decide), if_neg (show ¬ (11 : Int32) = 6 by decide), if_neg (show ¬ (11 : Int32) = 7 by decide), if_neg (show ¬ (11 : Int32) = 8 by decide), if_neg (show ¬ (11 : Int32) = 9 by decide), if_neg (show ¬ (11 : Int32) = 10 by decide)]
theorem c_cases {c : Int32} (h1 : ¬ c < 0) (h2 : c ≤ 11) : c = 0 ∨ c = 1 ∨ c = 2 ∨ c = 3 ∨ c = 4 ∨ c = 5 ∨ c = 6 ∨ c = 7 ∨ c = 8 ∨ c = 9 ∨ c = 10 ∨ c = 11 := by
  obtain ⟨n, hn, e⟩ := c_nI h1 h2
  have : n = 0 ∨ n = 1 ∨ n = 2 ∨ n = 3 ∨ n = 4 ∨ n = 5 ∨ n = 6 ∨ n = 7 ∨ n = 8 ∨ n = 9 ∨ n = 10 ∨ n = 11 := by omega
  rcases this with q | q | q | q | q | q | q | q | q | q | q | q <;> rw [q] at e
  · exact Or.inl e
  · exact Or.inr (Or.inl e)
  · exact Or.inr (Or.inr (Or.inl e))
  · exact Or.inr (Or.inr (Or.inr (Or.inl e)))
  · exact Or.inr (Or.inr (Or.inr (Or.inr (Or.inl e))))
  · exact Or.inr (Or.inr (Or.inr (Or.inr (Or.inr (Or.inl e)))))
  · exact Or.inr (Or.inr (Or.inr (Or.inr (Or.inr (Or.inr (Or.inl e))))))
  · exact Or.inr (Or.inr (Or.inr (Or.inr (Or.inr (Or.inr (Or.inr (Or.inl e)))))))
  · exact Or.inr (Or.inr (Or.inr (Or.inr (Or.inr (Or.inr (Or.inr (Or.inr (Or.inl e))))))))
  · exact Or.inr (Or.inr (Or.inr (Or.inr (Or.inr (Or.inr (Or.inr (Or.inr (Or.inr (Or.inl e)))))))))
  · exact Or.inr (Or.inr (Or.inr (Or.inr (Or.inr (Or.inr (Or.inr (Or.inr (Or.inr (Or.inr (Or.inl e))))))))))
  · exact Or.inr (Or.inr (Or.inr (Or.inr (Or.inr (Or.inr (Or.inr (Or.inr (Or.inr (Or.inr (Or.inr (e)))))))))))
/-- where a comparison isn't so, its opposite is -/
theorem opp_so {c : Int32} (h1 : ¬ c < 0) (h2 : c ≤ 11) {v w : Int64} (h : f_C_isSo c v w = 0) : f_C_isSo (f_C_opposite c) v w = 1 := by
  obtain ⟨o0, o1, o2, o3, o4, o5, o6, o7, o8, o9, o10, o11⟩ := opp_list
  rcases c_cases h1 h2 with e | e | e | e | e | e | e | e | e | e | e | e <;> rw [e] at h ⊢
  · rw [o0, so_1]; rw [so_0] at h; exact so_neg.1 h
  · rw [o1, so_0]; rw [so_1] at h; exact so_neg.2 h
  · rw [o2, so_5]; rw [so_2] at h; exact (nb_neg v w).1 h
  · rw [o3, so_4]; rw [so_3] at h; exact (nb_neg w v).2 h
  · rw [o4, so_3]; rw [so_4] at h; exact (nb_neg w v).1 h
  · rw [o5, so_2]; rw [so_5] at h; exact (nb_neg v w).2 h
  · rw [o6, so_9]; rw [so_6] at h; exact so_neg.1 h
  · rw [o7, so_8]; rw [so_7] at h; exact so_neg.2 h
  · rw [o8, so_7]; rw [so_8] at h; exact so_neg.1 h
  · rw [o9, so_6]; rw [so_9] at h; exact so_neg.2 h
  · rw [o10, so_11]; rw [so_10] at h; exact so_neg.2 h
  · rw [o11, so_10]; rw [so_11] at h; exact so_neg.1 h
/-- what the reference's canBe leaves -/
theorem canBe_rows {r : Nat → VV} (c : Int32) {A B : Nat} (hA : A < 16) (hB : B < 16) {X Y : VV} (eA : r A = X) (eB : r B = Y) (gX : good X) (gY : good Y) : (f_M_canBe r c A B).2 = va_up (va_up (va_up (va_up (va_up (va_up r 16 X) 17 Y) 19 X) 20 Y) 16 (f_V_tighten (mQ c X Y).1)) 17 (f_V_tighten (mQ c X Y).2) ∧ ((f_M_canBe r c A B).1 = true ↔ ¬ ((f_C_refine c X Y).1.2.2.2.2.2.2 = true ∨ (f_C_refine c X Y).2.2.2.2.2.2.2 = true)) := by
  have e : f_M_refine (f_M_copy (f_M_copy r A 16) B 17) c = va_up (va_up (va_up (va_up (va_up (va_up r 16 X) 17 Y) 19 X) 20 Y) 16 (f_V_tighten (mQ c X Y).1)) 17 (f_V_tighten (mQ c X Y).2) := by
    rw [copy_eq r (show ¬ A = 16 by omega), copy_eq _ (show ¬ B = 17 by omega), up_ne _ _ (show ¬ B = 16 by omega), eA, eB]
    exact m_refine_eq _ c X Y rfl rfl (good_apart gX) (good_apart gY)
  have hf := refine_flags c gX gY
  unfold f_M_canBe f_M_canBe_4g f_M_canBe_11g f_M_canBe_16g f_M_canBe_43
  rw [e]
  have q16 : va_up (va_up (va_up (va_up (va_up (va_up r 16 X) 17 Y) 19 X) 20 Y) 16 (f_V_tighten (mQ c X Y).1)) 17 (f_V_tighten (mQ c X Y).2) 16 = f_V_tighten (mQ c X Y).1 := by rw [up_ne _ _ (by decide), up_at]
  have q17 : va_up (va_up (va_up (va_up (va_up (va_up r 16 X) 17 Y) 19 X) 20 Y) 16 (f_V_tighten (mQ c X Y).1)) 17 (f_V_tighten (mQ c X Y).2) 17 = f_V_tighten (mQ c X Y).2 := up_at _ _ _
  rw [q16, q17, ← hf]
  by_cases h1 : (f_V_tighten (mQ c X Y).1).2.2.2.2.2.2 = true
  · rw [if_pos h1]; exact ⟨rfl, ⟨fun z => (by cases z), fun z => absurd (Or.inl h1) z⟩⟩
  · rw [if_neg h1]
    by_cases h2 : (f_V_tighten (mQ c X Y).2).2.2.2.2.2.2 = true
    · rw [if_pos h2]; exact ⟨rfl, ⟨fun z => (by cases z), fun z => absurd (Or.inr h2) z⟩⟩
    · rw [if_neg h2]; exact ⟨rfl, ⟨fun _ => (fun z => z.elim h1 h2), fun _ => rfl⟩⟩
theorem canBe_keep {r : Nat → VV} (c : Int32) {A B : Nat} (hA : A < 16) (hB : B < 16) (gX : good (r A)) (gY : good (r B)) : ∀ j, j < 16 → (f_M_canBe r c A B).2 j = r j := fun j hj => by
  rw [(canBe_rows c hA hB rfl rfl gX gY).1, up_ne _ _ (by omega), up_ne _ _ (by omega), up_ne _ _ (by omega), up_ne _ _ (by omega), up_ne _ _ (by omega), up_ne _ _ (by omega)]
theorem bI_0 (b : Bool) : bI b = 0 ↔ ¬ b = true := by cases b <;> decide
theorem canBe_S {v : Nat → VV} (w : Nat → Int64) (t : Int32) (x y z : VV) (c : Int32) (A B : Nat) : (f_S_canBe v w t x y z c A B).1 = 0 ↔ ((f_C_refine c (v A) (v B)).1.2.2.2.2.2.2 = true ∨ (f_C_refine c (v A) (v B)).2.2.2.2.2.2.2 = true) := by
  unfold f_S_canBe f_V_take
  generalize f_C_refine c (v A) (v B) = P
  simp only [bI_0]
  by_cases h1 : P.1.2.2.2.2.2.2 = true
  · rw [if_neg (fun z => z h1)]; exact ⟨fun _ => Or.inl h1, fun _ => rfl⟩
  · rw [if_pos h1]
    by_cases h2 : P.2.2.2.2.2.2.2 = true
    · rw [if_neg (fun z => z h2)]; exact ⟨fun _ => Or.inr h2, fun _ => rfl⟩
    · rw [if_pos h2]; exact ⟨fun z => absurd (show (1 : Int32) = 0 from z) (by decide), fun z => z.elim (fun q => absurd q h1) (fun q => absurd q h2)⟩
theorem canBe_link {v : Nat → VV} {w : Nat → Int64} {r : Nat → VV} (h : INV v w r) (w' : Nat → Int64) (t : Int32) (x y z : VV) (c : Int32) {A B : Nat} (hA : A < 16) (hB : B < 16) : ((f_M_canBe r c A B).1 = true ↔ ¬ (f_S_canBe v w' t x y z c A B).1 = 0) ∧ INV v w (f_M_canBe r c A B).2 := by
  obtain ⟨a1, a2, a3⟩ := h A hA
  obtain ⟨b1, b2, b3⟩ := h B hB
  refine ⟨?_, fun j hj => ?_⟩
  · rw [(canBe_rows c hA hB a1 b1 a2 b2).2, canBe_S]
  · rw [canBe_keep c hA hB (by rw [a1]; exact a2) (by rw [b1]; exact b2) j hj]
    exact h j hj
theorem link_decided {v : Nat → VV} {w : Nat → Int64} {r : Nat → VV} (h : INV v w r) (t : Int32) (x y z : VV) (c a b : Int32) : (f_M_decided r c a b).2.1 = (f_S_decided v w t x y z c a b).1 ∧ ((f_S_decided v w t x y z c a b).1 = 0 → (f_M_decided r c a b).1 = (f_S_decided v w t x y z c a b).2.1) ∧ INV v w (f_M_decided r c a b).2.2 ∧ (f_S_decided v w t x y z c a b).2.2.1 = v ∧ (f_S_decided v w t x y z c a b).2.2.2.1 = w ∧ (f_S_decided v w t x y z c a b).2.2.2.2.1 = t := by
  unfold f_S_decided f_M_decided f_M_decided_4g f_M_decided_16g f_M_decided_33g
  rcases nc_link c a b with ⟨e1, e2, ha, hb, c1, c2, c3⟩ | ⟨e1, e2⟩
  · rw [if_pos e1, e2, if_neg (show ¬ ((false, (0 : Int32)).1 = true) by decide), opp_eq c1 c2]
    obtain ⟨j1, j2⟩ := ie_nI ha
    obtain ⟨k1, k2⟩ := ie_nI hb
    obtain ⟨l1, l2⟩ := canBe_link h w t x y z c j2 k2
    obtain ⟨m1, m2⟩ := canBe_link l2 w t (f_S_canBe v w t x y z c a.toNatClampNeg b.toNatClampNeg).2.1 (f_S_canBe v w t x y z c a.toNatClampNeg b.toNatClampNeg).2.2 z (f_C_opposite c) j2 k2
    by_cases g1 : (f_S_canBe v w t x y z c a.toNatClampNeg b.toNatClampNeg).1 = 0
    · rw [if_pos g1, if_neg (fun q => l1.mp q g1)]; exact ⟨rfl, fun _ => rfl, l2, rfl, rfl, rfl⟩
    · rw [if_neg g1, if_pos (l1.mpr g1)]
      by_cases g2 : (f_S_canBe v w t (f_S_canBe v w t x y z c a.toNatClampNeg b.toNatClampNeg).2.1 (f_S_canBe v w t x y z c a.toNatClampNeg b.toNatClampNeg).2.2 z (f_C_opposite c) a.toNatClampNeg b.toNatClampNeg).1 = 0
      · rw [if_pos g2, if_neg (fun q => m1.mp q g2)]; exact ⟨rfl, fun _ => rfl, m2, rfl, rfl, rfl⟩
      · rw [if_neg g2, if_pos (m1.mpr g2)]; exact ⟨rfl, fun _ => rfl, m2, rfl, rfl, rfl⟩
  · rw [if_neg e1, e2, if_pos (show (true, f_S_requireComparison c a b).1 = true from rfl)]
    exact ⟨rfl, fun q => absurd q e1, h, rfl, rfl, rfl⟩
