/-! comparisons: both say the same, or both leave nothing -/
def bad (P : VV × VV) : Prop := P.1.2.2.2.2.2.2 = true ∨ P.2.2.2.2.2.2.2 = true
theorem mk7 {a b c d e f a' b' c' d' e' f' : Int64} {g g' : Bool} (h1 : a = a') (h2 : b = b') (h3 : c = c') (h4 : d = d') (h5 : e = e') (h6 : f = f') (h7 : g = g') : ((a, b, c, d, e, f, g) : VV) = (a', b', c', d', e', f', g') := by
  rw [h1, h2, h3, h4, h5, h6, h7]
theorem and_assoc9 (a b c : Int64) : a &&& (b &&& c) = a &&& b &&& c := tb_ext (fun i hi => by rw [tb_and, tb_and, tb_and, tb_and, Bool.and_assoc])
theorem and_comm9 (a b : Int64) : a &&& b = b &&& a := tb_ext (fun i hi => by rw [tb_and, tb_and, Bool.and_comm])
theorem or_comm9 (a b : Int64) : a ||| b = b ||| a := tb_ext (fun i hi => by rw [tb_or, tb_or, Bool.or_comm])
theorem xor_comm9 (a b : Int64) : a ^^^ b = b ^^^ a := tb_ext (fun i hi => by rw [tb_xor, tb_xor, Bool.xor_comm])
theorem more_comm (a b : Int64) : f_N_more a b = f_N_more b a := un_inj (by rw [un_more, un_more, Nat.max_comm])
theorem less_comm (a b : Int64) : f_N_less a b = f_N_less b a := un_inj (by rw [un_less, un_less, Nat.min_comm])
theorem jmax_comm (a b : Int64) : jmmax a b = jmmax b a := ti_inj (by rw [ti_jmax, ti_jmax, Int.max_comm])
theorem jmin_comm (a b : Int64) : jmmin a b = jmmin b a := ti_inj (by rw [ti_jmin, ti_jmin, Int.min_comm])
theorem both_eqV {x y : VV} (hx : apart x.1 x.2.1) (hy : apart y.1 y.2.1) (fx : x.2.2.2.2.2.2 = false) : bothV x y = eqV x y := by
  unfold bothV eqV
  refine mk7 ?_ rfl rfl rfl rfl rfl ?_
  · exact (apart_not9 (bothV_apart hx hy)).symm
  · rw [and_assoc9, fx]
    by_cases h : (x.1 ^^^ y.1) &&& (x.2.1 ^^^ (-1 : Int64)) &&& (y.2.1 ^^^ (-1 : Int64)) = 0
    · rw [if_pos h, decide_eq_true h]; rfl
    · rw [if_neg h, decide_eq_false h]; rfl
theorem both_comm {x y : VV} (fx : x.2.2.2.2.2.2 = false) (fy : y.2.2.2.2.2.2 = false) : bothV y x = bothV x y := by
  unfold bothV
  refine mk7 (or_comm9 _ _) (and_comm9 _ _) (more_comm _ _) (less_comm _ _) (jmax_comm _ _) (jmin_comm _ _) ?_
  rw [fx, fy, xor_comm9 y.1 x.1, and_comm9 (y.2.1 ^^^ (-1 : Int64))]
theorem lose_leave {x : VV} (hx : good x) (v : Int64) : (if x.2.2.1 = x.2.2.2.1 ∧ x.2.2.1 = v then (x.1, x.2.1, x.2.2.1, x.2.2.2.1, x.2.2.2.2.1, x.2.2.2.2.2.1, true) else (x.1, x.2.1, if x.2.2.1 = v then v + 1 else x.2.2.1, if x.2.2.2.1 = v then v - 1 else x.2.2.2.1, if x.2.2.2.2.1 = v then v + 1 else x.2.2.2.2.1, if x.2.2.2.2.2.1 = v then v - 1 else x.2.2.2.2.2.1, x.2.2.2.2.2.2)) = f_C_leaveOut x v := by
  obtain ⟨s1, s2⟩ := good_single hx
  have c : (x.2.2.1 = x.2.2.2.1 ∧ x.2.2.1 = v) ↔ (x.2.1 = 0 ∧ x.1 = v) := by
    constructor
    · rintro ⟨a, b⟩
      have h0 := s1.mpr a
      exact ⟨h0, (s2 h0).trans b⟩
    · rintro ⟨a, b⟩
      exact ⟨s1.mp a, (s2 a).symm.trans b⟩
  rw [leave_eq]
  by_cases h : x.2.1 = 0 ∧ x.1 = v
  · rw [if_pos h, if_pos (c.mpr h)]
  · rw [if_neg h, if_neg (fun w => h (c.mp w))]
    unfold loV
    refine mk7 rfl rfl ?_ ?_ ?_ ?_ rfl
    · split
      · rename_i q; rw [q]
      · rfl
    · split
      · rename_i q; rw [q]
      · rfl
    · split
      · rename_i q; rw [q]
      · rfl
    · split
      · rename_i q; rw [q]
      · rfl
theorem lose_part {x y : VV} (hx : good x) (hy : good y) : loseV x (decide (y.2.2.1 = y.2.2.2.1)) y.2.2.1 = if y.2.1 = 0 then f_C_leaveOut x y.1 else x := by
  obtain ⟨s1, s2⟩ := good_single hy
  unfold loseV
  by_cases h : y.2.1 = 0
  · rw [if_pos h, if_pos (decide_eq_true (s1.mp h)), lose_leave hx, s2 h]
  · rw [if_neg h, if_neg (fun w => h (s1.mpr (of_decide_eq_true w)))]
theorem ordV1_bad {x : VV} {h : Int64} (e : h = 0) : (ordV1 x h true).2.2.2.2.2.2 = true := by
  unfold ordV1
  rw [decide_eq_true e]
  exact Bool.or_true _
theorem ordV2_bad {x : VV} {h : Int64} (e : h = -1) : (ordV2 x h true).2.2.2.2.2.2 = true := by
  unfold ordV2
  rw [decide_eq_true e]
  exact Bool.or_true _
theorem ordW1_bad {x : VV} {h : Int64} (e : h = -9223372036854775808) : (ordW1 x h true).2.2.2.2.2.2 = true := by
  unfold ordW1
  rw [decide_eq_true e]
  exact Bool.or_true _
theorem ordW2_bad {x : VV} {h : Int64} (e : h = 9223372036854775807) : (ordW2 x h true).2.2.2.2.2.2 = true := by
  unfold ordW2
  rw [decide_eq_true e]
  exact Bool.or_true _
theorem ordS_cmp (x y : VV) : (ordV1 x y.2.2.2.1 true, ordV2 y x.2.2.1 true) = f_C_orderStrictly x y ∨ (((ordV1 x y.2.2.2.1 true).2.2.2.2.2.2 = true ∨ (ordV2 y x.2.2.1 true).2.2.2.2.2.2 = true) ∧ ((f_C_orderStrictly x y).1.2.2.2.2.2.2 = true ∨ (f_C_orderStrictly x y).2.2.2.2.2.2.2 = true)) := by
  by_cases a : y.2.2.2.1 = 0
  · exact Or.inr ⟨Or.inl (ordV1_bad a), ordS_bad (Or.inl a)⟩
  · by_cases b : x.2.2.1 = -1
    · exact Or.inr ⟨Or.inr (ordV2_bad b), ordS_bad (Or.inr b)⟩
    · left
      rw [ordS_eq a b]
      unfold ordV1 ordV2
      rw [if_pos ⟨rfl, a⟩, if_pos ⟨rfl, b⟩, decide_eq_false a, decide_eq_false b]
      refine congr (congrArg Prod.mk (mk7 rfl rfl rfl rfl rfl rfl ?_)) (mk7 rfl rfl rfl rfl rfl rfl ?_)
      · exact Bool.or_false _
      · exact Bool.or_false _
theorem ordT_cmp (x y : VV) : (ordW1 x y.2.2.2.2.2.1 true, ordW2 y x.2.2.2.2.1 true) = f_C_orderSignedStrictly x y ∨ (((ordW1 x y.2.2.2.2.2.1 true).2.2.2.2.2.2 = true ∨ (ordW2 y x.2.2.2.2.1 true).2.2.2.2.2.2 = true) ∧ ((f_C_orderSignedStrictly x y).1.2.2.2.2.2.2 = true ∨ (f_C_orderSignedStrictly x y).2.2.2.2.2.2.2 = true)) := by
  by_cases a : y.2.2.2.2.2.1 = -9223372036854775808
  · exact Or.inr ⟨Or.inl (ordW1_bad a), ordT_bad (Or.inl a)⟩
  · by_cases b : x.2.2.2.2.1 = 9223372036854775807
    · exact Or.inr ⟨Or.inr (ordW2_bad b), ordT_bad (Or.inr b)⟩
    · left
      rw [ordT_eq a b]
      unfold ordW1 ordW2
      rw [if_pos ⟨rfl, a⟩, if_pos ⟨rfl, b⟩, decide_eq_false a, decide_eq_false b]
      refine congr (congrArg Prod.mk (mk7 rfl rfl rfl rfl rfl rfl ?_)) (mk7 rfl rfl rfl rfl rfl rfl ?_)
      · exact Bool.or_false _
      · exact Bool.or_false _
theorem ord_cmp (x y : VV) : (ordV1 x y.2.2.2.1 false, ordV2 y x.2.2.1 false) = f_C_order x y := by
  unfold ordV1 ordV2 f_C_order f_C_order_30r
  rw [if_neg (fun w => by cases w.1), if_neg (fun w => by cases w.1)]
  refine congr (congrArg Prod.mk (mk7 rfl rfl rfl rfl rfl rfl ?_)) (mk7 rfl rfl rfl rfl rfl rfl ?_)
  · exact Bool.or_false _
  · exact Bool.or_false _
theorem ordU_cmp (x y : VV) : (ordW1 x y.2.2.2.2.2.1 false, ordW2 y x.2.2.2.2.1 false) = f_C_orderSigned x y := by
  unfold ordW1 ordW2 f_C_orderSigned f_C_orderSigned_30r
  rw [if_neg (fun w => by cases w.1), if_neg (fun w => by cases w.1)]
  refine congr (congrArg Prod.mk (mk7 rfl rfl rfl rfl rfl rfl ?_)) (mk7 rfl rfl rfl rfl rfl rfl ?_)
  · exact Bool.or_false _
  · exact Bool.or_false _
theorem or_0 (a : Int64) : a ||| 0 = a := tb_ext (fun i hi => by rw [tb_or, tb_0, Bool.or_false])
theorem zero_or (a : Int64) : 0 ||| a = a := tb_ext (fun i hi => by rw [tb_or, tb_0, Bool.false_or])
theorem and_0 (a : Int64) : a &&& 0 = 0 := tb_ext (fun i hi => by rw [tb_and, tb_0, Bool.and_false])
theorem and_m1 (a : Int64) : a &&& (0 ^^^ (-1 : Int64)) = a := tb_ext (fun i hi => by rw [tb_and, tb_not _ hi, tb_0]; simp)
theorem force_none (x : VV) : forceV x 0 0 = x := by
  unfold forceV
  rw [or_0, or_0, and_m1, and_0, and_0]
  exact (mk7 rfl rfl rfl rfl rfl rfl (by rw [decide_eq_true rfl]; simp)).trans (eta7 x)
theorem b_ones : ∀ a b o : Bool, (b = true → a = false) → ((a || o) && !(b && !o)) = (a || o) := by decide
theorem force_ones {x : VV} (hx : apart x.1 x.2.1) {on : Int64} (h : ((x.1 ||| x.2.1) ^^^ (-1 : Int64)) &&& on = 0) : forceV x on 0 = f_V_sayBits x (x.1 ||| on) (x.2.1 &&& (on ^^^ (-1 : Int64))) := by
  rw [sayB]
  unfold forceV
  rw [or_0, and_0, h]
  refine mk7 ?_ rfl rfl rfl rfl rfl (by rw [decide_eq_true rfl]; simp)
  apply tb_ext
  intro i hi
  rw [tb_and, tb_not _ hi, tb_and, tb_not _ hi, tb_or]
  exact (b_ones _ _ _ (hx i hi)).symm
theorem b_zeros : ∀ a b z : Bool, (b = true → a = false) → (a && !(b && !z)) = a := by decide
theorem force_zeros {x : VV} (hx : apart x.1 x.2.1) {ze : Int64} (h : x.1 &&& ze = 0) : forceV x 0 ze = f_V_sayBits x x.1 (x.2.1 &&& (ze ^^^ (-1 : Int64))) := by
  rw [sayB]
  unfold forceV
  rw [or_0, zero_or, and_0, h]
  refine mk7 ?_ rfl rfl rfl rfl rfl (by rw [decide_eq_true rfl]; simp)
  apply tb_ext
  intro i hi
  rw [tb_and, tb_not _ hi, tb_and, tb_not _ hi]
  exact (b_zeros _ _ _ (hx i hi)).symm
/-- one bit that both may have -/
theorem poss_one {p w : Int64} (h1 : f_M_isOneBit w = true) (h : ¬ p &&& w = 0) : (p ^^^ (-1 : Int64)) &&& w = 0 := by
  obtain ⟨k, hk, ht⟩ := one_tb h1
  obtain ⟨j, hj, hjt⟩ := tb_ne0 h
  rw [tb_and, ht j hj, Bool.and_eq_true, decide_eq_true_iff] at hjt
  rw [tb_eq0]
  intro i hi
  rw [tb_and, tb_not _ hi, ht i hi]
  by_cases q : i = k
  · rw [q, ← hjt.2, hjt.1]; rfl
  · rw [decide_eq_false q, Bool.and_false]
theorem one_cmp {x y : VV} (hx : good x) (hy : good y) (h : ¬ (x.1 ||| x.2.1) &&& (y.1 ||| y.2.1) = 0) : forceV x (if y.2.2.1 = y.2.2.2.1 ∧ f_M_isOneBit y.2.2.1 = true then y.2.2.1 else 0) 0 = if y.2.1 = 0 ∧ f_M_isOneBit y.1 = true then f_V_sayBits x (x.1 ||| y.1) (x.2.1 &&& (y.1 ^^^ (-1 : Int64))) else x := by
  obtain ⟨s1, s2⟩ := good_single hy
  by_cases c : y.2.1 = 0 ∧ f_M_isOneBit y.1 = true
  · have e := s2 c.1
    rw [if_pos c, if_pos ⟨s1.mp c.1, by rw [← e]; exact c.2⟩, ← e]
    refine force_ones (good_apart hx) (poss_one c.2 ?_)
    rw [c.1, or_0] at h
    exact h
  · rw [if_neg c, if_neg (fun w => c ⟨s1.mpr w.1, by rw [s2 (s1.mpr w.1)]; exact w.2⟩), force_none]
theorem none_cmp {x y : VV} (hx : good x) (hy : good y) (h : x.1 &&& y.1 = 0) : forceV x 0 (if y.2.2.1 = y.2.2.2.1 then y.2.2.1 else 0) = if y.2.1 = 0 then f_V_sayBits x x.1 (x.2.1 &&& (y.1 ^^^ (-1 : Int64))) else x := by
  obtain ⟨s1, s2⟩ := good_single hy
  by_cases c : y.2.1 = 0
  · have e := s2 c
    rw [if_pos c, if_pos (s1.mp c), ← e]
    exact force_zeros (good_apart hx) h
  · rw [if_neg c, if_neg (fun w => c (s1.mpr w)), force_none]
theorem flag_set {x : VV} (b : Bool) (h : b = false) (hf : x.2.2.2.2.2.2 = false) : ((x.1, x.2.1, x.2.2.1, x.2.2.2.1, x.2.2.2.2.1, x.2.2.2.2.2.1, x.2.2.2.2.2.2 || b) : VV) = x := by
  rw [h, Bool.or_false]
theorem force_bad {x : VV} (a b c d e f : Int64) (on ze : Int64) : (forceV (a, b, c, d, e, f, true) on ze).2.2.2.2.2.2 = true := by
  unfold forceV
  simp only [Bool.true_or]
theorem cmp_eq (c : Int32) {x y : VV} (hx : good x) (hy : good y) : mQ c x y = cP c x y ∨ (bad (mQ c x y) ∧ bad (cP c x y)) := by
  have aX := good_apart hx
  have aY := good_apart hy
  have fX := good_flag hx
  have fY := good_flag hy
  unfold bad mQ cP
  by_cases h0 : c = 0
  · rw [if_pos h0, if_pos h0]
    left
    rw [both_comm fX fY, both_eqV aX aY fX, eq_eq]
  rw [if_neg h0, if_neg h0]
  by_cases h1 : c = 1
  · rw [if_pos h1, if_pos h1]
    left
    rw [lose_part hx hy, lose_part hy hx, part_eq]
  rw [if_neg h1, if_neg h1]
  by_cases h2 : c = 2
  · rw [if_pos h2, if_pos h2]; exact ordS_cmp x y
  rw [if_neg h2, if_neg h2]
  by_cases h3 : c = 3
  · rw [if_pos h3, if_pos h3]; exact Or.inl (ord_cmp x y)
  rw [if_neg h3, if_neg h3]
  by_cases h4 : c = 4
  · rw [if_pos h4, if_pos h4]
    rcases ordS_cmp y x with q | ⟨q1, q2⟩
    · left; rw [← q]
    · exact Or.inr ⟨q1.symm, q2.symm⟩
  rw [if_neg h4, if_neg h4]
  by_cases h5 : c = 5
  · rw [if_pos h5, if_pos h5]; left; rw [← ord_cmp y x]
  rw [if_neg h5, if_neg h5]
  by_cases h6 : c = 6
  · rw [if_pos h6, if_pos h6]; exact ordT_cmp x y
  rw [if_neg h6, if_neg h6]
  by_cases h7 : c = 7
  · rw [if_pos h7, if_pos h7]; exact Or.inl (ordU_cmp x y)
  rw [if_neg h7, if_neg h7]
  by_cases h8 : c = 8
  · rw [if_pos h8, if_pos h8]
    rcases ordT_cmp y x with q | ⟨q1, q2⟩
    · left; rw [← q]
    · exact Or.inr ⟨q1.symm, q2.symm⟩
  rw [if_neg h8, if_neg h8]
  by_cases h9 : c = 9
  · rw [if_pos h9, if_pos h9]; left; rw [← ordU_cmp y x]
  rw [if_neg h9, if_neg h9]
  by_cases h10 : c = 10
  · rw [if_pos h10, if_pos h10, sb_eq]
    by_cases q : (x.1 ||| x.2.1) &&& (y.1 ||| y.2.1) = 0
    · right
      rw [if_pos q, decide_eq_true q, Bool.or_true]
      exact ⟨Or.inl (force_bad (x := x) _ _ _ _ _ _ _ _), Or.inl rfl⟩
    · left
      rw [if_neg q, flag_set _ (decide_eq_false q) fX, one_cmp hx hy q, one_cmp hy hx (fun w => q (by rw [← w, and_comm9]))]
  rw [if_neg h10, if_neg h10, snb_eq aX]
  by_cases q : x.1 &&& y.1 = 0
  · left
    rw [if_pos q, flag_set _ (by rw [decide_eq_true q]; rfl) fX, none_cmp hx hy q, none_cmp hy hx (by rw [← q, and_comm9])]
  · right
    rw [if_neg q, decide_eq_false q, Bool.not_false, Bool.or_true]
    exact ⟨Or.inl (force_bad (x := x) _ _ _ _ _ _ _ _), Or.inl rfl⟩
theorem tighten_flag {z : VV} (h : z.2.2.2.2.2.2 = true) : f_V_tighten z = z := by
  unfold f_V_tighten
  rw [if_neg]
  rw [h]; decide
/-- both can be, or neither -/
theorem refine_flags (c : Int32) {x y : VV} (hx : good x) (hy : good y) : ((f_V_tighten (mQ c x y).1).2.2.2.2.2.2 = true ∨ (f_V_tighten (mQ c x y).2).2.2.2.2.2.2 = true) ↔ ((f_C_refine c x y).1.2.2.2.2.2.2 = true ∨ (f_C_refine c x y).2.2.2.2.2.2.2 = true) := by
  rw [refine_pre]
  rcases cmp_eq c hx hy with h | ⟨h1, h2⟩
  · rw [h]
  · constructor
    · intro _
      rcases h2 with q | q
      · left; show (f_V_tighten (cP c x y).1).2.2.2.2.2.2 = true; rw [tighten_flag q]; exact q
      · right; show (f_V_tighten (cP c x y).2).2.2.2.2.2.2 = true; rw [tighten_flag q]; exact q
    · intro _
      rcases h1 with q | q
      · left; rw [tighten_flag q]; exact q
      · right; rw [tighten_flag q]; exact q
/-- where the comparison is so, both make the same -/
theorem refine_same {c : Int32} {x y : VV} {v w : Int64} (hx : good x) (hy : good y) (hv : kn x v) (hw : kn y w) (h : f_C_isSo c v w = 1) : f_V_tighten (mQ c x y).1 = (f_C_refine c x y).1 ∧ f_V_tighten (mQ c x y).2 = (f_C_refine c x y).2 := by
  obtain ⟨a, b⟩ := cP_hld (hld_good hx hv) (hld_good hy hw) h
  rw [refine_pre]
  rcases cmp_eq c hx hy with q | ⟨q1, q2⟩
  · rw [q]; exact ⟨rfl, rfl⟩
  · rcases q2 with q2 | q2
    · rw [a.2.1] at q2; cases q2
    · rw [b.2.1] at q2; cases q2
