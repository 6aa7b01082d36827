/-! comparisons: what the class says of both, before it is made tight -/
theorem rf_62g (c : Int32) (x y : VV) (G : VV × VV) : f_C_refine_62g c x y G = (f_V_tighten G.1, f_V_tighten G.2) := by unfold f_C_refine_62g f_C_refine_153 f_C_refine_154g f_C_refine_158g; exact congr (congrArg Prod.mk (congrArg f_V_tighten (eta7 G.1))) (congrArg f_V_tighten (eta7 G.2))
theorem rf_70g (c : Int32) (x y : VV) (G : VV × VV) : f_C_refine_70g c x y G = (f_V_tighten G.1, f_V_tighten G.2) := by unfold f_C_refine_70g f_C_refine_153 f_C_refine_154g f_C_refine_158g; exact congr (congrArg Prod.mk (congrArg f_V_tighten (eta7 G.1))) (congrArg f_V_tighten (eta7 G.2))
theorem rf_78g (c : Int32) (x y : VV) (G : VV × VV) : f_C_refine_78g c x y G = (f_V_tighten G.1, f_V_tighten G.2) := by unfold f_C_refine_78g f_C_refine_153 f_C_refine_154g f_C_refine_158g; exact congr (congrArg Prod.mk (congrArg f_V_tighten (eta7 G.1))) (congrArg f_V_tighten (eta7 G.2))
theorem rf_86g (c : Int32) (x y : VV) (G : VV × VV) : f_C_refine_86g c x y G = (f_V_tighten G.1, f_V_tighten G.2) := by unfold f_C_refine_86g f_C_refine_153 f_C_refine_154g f_C_refine_158g; exact congr (congrArg Prod.mk (congrArg f_V_tighten (eta7 G.1))) (congrArg f_V_tighten (eta7 G.2))
theorem rf_94g (c : Int32) (x y : VV) (G : VV × VV) : f_C_refine_94g c x y G = (f_V_tighten G.2, f_V_tighten G.1) := by unfold f_C_refine_94g f_C_refine_153 f_C_refine_154g f_C_refine_158g; exact congr (congrArg Prod.mk (congrArg f_V_tighten (eta7 G.2))) (congrArg f_V_tighten (eta7 G.1))
theorem rf_102g (c : Int32) (x y : VV) (G : VV × VV) : f_C_refine_102g c x y G = (f_V_tighten G.2, f_V_tighten G.1) := by unfold f_C_refine_102g f_C_refine_153 f_C_refine_154g f_C_refine_158g; exact congr (congrArg Prod.mk (congrArg f_V_tighten (eta7 G.2))) (congrArg f_V_tighten (eta7 G.1))
theorem rf_110g (c : Int32) (x y : VV) (G : VV × VV) : f_C_refine_110g c x y G = (f_V_tighten G.1, f_V_tighten G.2) := by unfold f_C_refine_110g f_C_refine_153 f_C_refine_154g f_C_refine_158g; exact congr (congrArg Prod.mk (congrArg f_V_tighten (eta7 G.1))) (congrArg f_V_tighten (eta7 G.2))
theorem rf_118g (c : Int32) (x y : VV) (G : VV × VV) : f_C_refine_118g c x y G = (f_V_tighten G.1, f_V_tighten G.2) := by unfold f_C_refine_118g f_C_refine_153 f_C_refine_154g f_C_refine_158g; exact congr (congrArg Prod.mk (congrArg f_V_tighten (eta7 G.1))) (congrArg f_V_tighten (eta7 G.2))
theorem rf_126g (c : Int32) (x y : VV) (G : VV × VV) : f_C_refine_126g c x y G = (f_V_tighten G.2, f_V_tighten G.1) := by unfold f_C_refine_126g f_C_refine_153 f_C_refine_154g f_C_refine_158g; exact congr (congrArg Prod.mk (congrArg f_V_tighten (eta7 G.2))) (congrArg f_V_tighten (eta7 G.1))
theorem rf_134g (c : Int32) (x y : VV) (G : VV × VV) : f_C_refine_134g c x y G = (f_V_tighten G.2, f_V_tighten G.1) := by unfold f_C_refine_134g f_C_refine_153 f_C_refine_154g f_C_refine_158g; exact congr (congrArg Prod.mk (congrArg f_V_tighten (eta7 G.2))) (congrArg f_V_tighten (eta7 G.1))
theorem rf_142g (c : Int32) (x y : VV) (G : VV × VV) : f_C_refine_142g c x y G = (f_V_tighten G.1, f_V_tighten G.2) := by unfold f_C_refine_142g f_C_refine_153 f_C_refine_154g f_C_refine_158g; exact congr (congrArg Prod.mk (congrArg f_V_tighten (eta7 G.1))) (congrArg f_V_tighten (eta7 G.2))
theorem rf_150g (c : Int32) (x y : VV) (G : VV × VV) : f_C_refine_150g c x y G = (f_V_tighten G.1, f_V_tighten G.2) := by unfold f_C_refine_150g f_C_refine_153 f_C_refine_154g f_C_refine_158g; exact congr (congrArg Prod.mk (congrArg f_V_tighten (eta7 G.1))) (congrArg f_V_tighten (eta7 G.2))
def cP (c : Int32) (x y : VV) : VV × VV := if c = 0 then f_C_equate x y else if c = 1 then f_C_part x y else if c = 2 then f_C_orderStrictly x y else if c = 3 then f_C_order x y else if c = 4 then ((f_C_orderStrictly y x).2, (f_C_orderStrictly y x).1) else if c = 5 then ((f_C_order y x).2, (f_C_order y x).1) else if c = 6 then f_C_orderSignedStrictly x y else if c = 7 then f_C_orderSigned x y else if c = 8 then ((f_C_orderSignedStrictly y x).2, (f_C_orderSignedStrictly y x).1) else if c = 9 then ((f_C_orderSigned y x).2, (f_C_orderSigned y x).1) else if c = 10 then f_C_shareBit x y else f_C_shareNoBit x y
theorem refine_pre (c : Int32) (x y : VV) : f_C_refine c x y = (f_V_tighten (cP c x y).1, f_V_tighten (cP c x y).2) := by
  unfold f_C_refine cP
  by_cases h0 : c = 0
  · rw [if_pos h0, if_pos h0, rf_62g]
  rw [if_neg h0, if_neg h0]
  by_cases h1 : c = 1
  · rw [if_pos h1, if_pos h1, rf_70g]
  rw [if_neg h1, if_neg h1]
  by_cases h2 : c = 2
  · rw [if_pos h2, if_pos h2, rf_78g]
  rw [if_neg h2, if_neg h2]
  by_cases h3 : c = 3
  · rw [if_pos h3, if_pos h3, rf_86g]
  rw [if_neg h3, if_neg h3]
  by_cases h4 : c = 4
  · rw [if_pos h4, if_pos h4, rf_94g]
  rw [if_neg h4, if_neg h4]
  by_cases h5 : c = 5
  · rw [if_pos h5, if_pos h5, rf_102g]
  rw [if_neg h5, if_neg h5]
  by_cases h6 : c = 6
  · rw [if_pos h6, if_pos h6, rf_110g]
  rw [if_neg h6, if_neg h6]
  by_cases h7 : c = 7
  · rw [if_pos h7, if_pos h7, rf_118g]
  rw [if_neg h7, if_neg h7]
  by_cases h8 : c = 8
  · rw [if_pos h8, if_pos h8, rf_126g]
  rw [if_neg h8, if_neg h8]
  by_cases h9 : c = 9
  · rw [if_pos h9, if_pos h9, rf_134g]
  rw [if_neg h9, if_neg h9]
  by_cases h10 : c = 10
  · rw [if_pos h10, if_pos h10, rf_142g]
  rw [if_neg h10, if_neg h10]
  rw [rf_150g]
theorem b_eq : ∀ a b c d m : Bool, (b = false → m = a) → (d = false → m = c) → (b = true → a = false) → (d = true → c = false) → (b && d) = false → m = (a || c) := by decide
def eqV (x y : VV) : VV := ((x.1 ||| y.1) &&& ((x.2.1 &&& y.2.1) ^^^ (-1 : Int64)), x.2.1 &&& y.2.1, f_N_more x.2.2.1 y.2.2.1, f_N_less x.2.2.2.1 y.2.2.2.1, jmmax x.2.2.2.2.1 y.2.2.2.2.1, jmmin x.2.2.2.2.2.1 y.2.2.2.2.2.1, if (x.1 ^^^ y.1) &&& (x.2.1 ^^^ (-1 : Int64)) &&& (y.2.1 ^^^ (-1 : Int64)) = 0 then x.2.2.2.2.2.2 else true)
theorem eq_37 (x y : VV) (a b c d e g : Int64) (f : Bool) : f_C_equate_37 x y a b c d e g f = (((a ||| y.1) &&& ((b &&& y.2.1) ^^^ (-1 : Int64)), b &&& y.2.1, f_N_more c y.2.2.1, f_N_less d y.2.2.2.1, jmmax e y.2.2.2.2.1, jmmin g y.2.2.2.2.2.1, f), ((a ||| y.1) &&& ((b &&& y.2.1) ^^^ (-1 : Int64)), b &&& y.2.1, f_N_more c y.2.2.1, f_N_less d y.2.2.2.1, jmmax e y.2.2.2.2.1, jmmin g y.2.2.2.2.2.1, f)) := by
  unfold f_C_equate_37 f_C_equate_56g f_C_equate_82g f_C_equate_108g f_C_equate_113g f_V_take
  rw [sayB, sayU, sayS]
theorem eq_eq (x y : VV) : f_C_equate x y = (eqV x y, eqV x y) := by
  unfold f_C_equate eqV
  rw [eq_37, eq_37]
  by_cases h : (x.1 ^^^ y.1) &&& (x.2.1 ^^^ (-1 : Int64)) &&& (y.2.1 ^^^ (-1 : Int64)) = 0
  · simp only [if_pos h]
  · simp only [if_neg h]
theorem b_eq0 : ∀ a b c d m : Bool, (b = false → m = a) → (d = false → m = c) → ((a ^^ c) && !b && !d) = false := by decide
theorem eqV_hld {x y : VV} {v : Int64} (hx : hld x v) (hy : hld y v) : hld (eqV x y) v := by
  have h0 : (x.1 ^^^ y.1) &&& (x.2.1 ^^^ (-1 : Int64)) &&& (y.2.1 ^^^ (-1 : Int64)) = 0 := by
    rw [tb_eq0]
    intro i hi
    rw [tb_and, tb_and, tb_not _ hi, tb_not _ hi, tb_xor]
    exact b_eq0 _ _ _ _ _ (hx.2.2.1 i hi) (hy.2.2.1 i hi)
  unfold eqV
  rw [if_pos h0]
  refine hld_mk' hx.2.1 (apart_say _ _) (mat_say (fun i hi ho => ?_)) ?_ ?_ ?_ ?_
  · rw [tb_and] at ho
    rw [tb_or]
    exact b_eq _ _ _ _ _ (hx.2.2.1 i hi) (hy.2.2.1 i hi) (hx.1 i hi) (hy.1 i hi) ho
  · rw [un_more]; exact Nat.max_le.mpr ⟨hx.2.2.2.1, hy.2.2.2.1⟩
  · rw [un_less]; exact Nat.le_min.mpr ⟨hx.2.2.2.2.1, hy.2.2.2.2.1⟩
  · rw [ti_jmax]; exact Int.max_le.mpr ⟨hx.2.2.2.2.2.1, hy.2.2.2.2.2.1⟩
  · rw [ti_jmin]; exact Int.le_min.mpr ⟨hx.2.2.2.2.2.2, hy.2.2.2.2.2.2⟩
theorem eq_hld {x y : VV} {v : Int64} (hx : hld x v) (hy : hld y v) : hld (f_C_equate x y).1 v ∧ hld (f_C_equate x y).2 v := by
  have h := eqV_hld hx hy
  rw [eq_eq]
  generalize eqV x y = T at h ⊢
  exact ⟨h, h⟩
theorem un_succ {a b : Int64} (h : un a ≤ un b) (hn : ¬ a = b) : un (a + 1) ≤ un b := by
  have h1 := un_lt b
  have h2 : ¬ un a = un b := fun q => hn (un_inj q)
  rw [un_add, un_1]; omega
theorem un_pred {a b : Int64} (h : un b ≤ un a) (hn : ¬ a = b) : un b ≤ un (a - 1) := by
  have h1 := un_lt a
  have h2 : ¬ un a = un b := fun q => hn (un_inj q)
  rw [un_sub, un_1]; omega
theorem ti_succ {a b : Int64} (h : a.toInt ≤ b.toInt) (hn : ¬ a = b) : (a + 1).toInt ≤ b.toInt := by
  have h1 := ti_lo a
  have h3 := ti_hi b
  have h2 : ¬ a.toInt = b.toInt := fun q => hn (ti_inj q)
  have h4 : (1 : Int64).toInt = 1 := by decide
  rw [ti_add_in (by rw [h4]; omega), h4]; omega
theorem ti_pred {a b : Int64} (h : b.toInt ≤ a.toInt) (hn : ¬ a = b) : b.toInt ≤ (a - 1).toInt := by
  have h1 := ti_lo b
  have h3 := ti_hi a
  have h2 : ¬ a.toInt = b.toInt := fun q => hn (ti_inj q)
  have h4 : (1 : Int64).toInt = 1 := by decide
  rw [ti_sub_in (by rw [h4]; omega), h4]; omega
/-- a number is left out -/
def loV (x : VV) (v : Int64) : VV := (x.1, x.2.1, if x.2.2.1 = v then x.2.2.1 + 1 else x.2.2.1, if x.2.2.2.1 = v then x.2.2.2.1 - 1 else x.2.2.2.1, if x.2.2.2.2.1 = v then x.2.2.2.2.1 + 1 else x.2.2.2.2.1, if x.2.2.2.2.2.1 = v then x.2.2.2.2.2.1 - 1 else x.2.2.2.2.2.1, x.2.2.2.2.2.2)
theorem leave_22 (x : VV) (v : Int64) : f_C_leaveOut_22 x v = loV x v := by
  unfold f_C_leaveOut_22 f_C_leaveOut_41 f_C_leaveOut_60 f_C_leaveOut_79 f_C_leaveOut_98r loV
  by_cases a : x.2.2.1 = v <;> by_cases b : x.2.2.2.1 = v <;> by_cases c : x.2.2.2.2.1 = v <;> by_cases d : x.2.2.2.2.2.1 = v <;> simp only [a, b, c, d, if_true, if_false]
theorem leave_eq (x : VV) (v : Int64) : f_C_leaveOut x v = if x.2.1 = 0 ∧ x.1 = v then (x.1, x.2.1, x.2.2.1, x.2.2.2.1, x.2.2.2.2.1, x.2.2.2.2.2.1, true) else loV x v := by
  unfold f_C_leaveOut
  simp only [n_isSingle, leave_22]
  by_cases a : x.2.1 = 0 <;> by_cases b : x.1 = v <;> simp only [a, b, not_true, not_false_iff, if_true, if_false, true_and, false_and, and_true, and_false]
theorem lo_hld {x : VV} {m v : Int64} (hx : hld x m) (hn : ¬ m = v) : hld (loV x v) m := by
  unfold loV
  refine hld_mk' hx.2.1 hx.1 hx.2.2.1 ?_ ?_ ?_ ?_
  · split
    · rename_i q; exact un_succ hx.2.2.2.1 (fun w => hn (w.symm.trans q))
    · exact hx.2.2.2.1
  · split
    · rename_i q; exact un_pred hx.2.2.2.2.1 (fun w => hn (w.symm.trans q))
    · exact hx.2.2.2.2.1
  · split
    · rename_i q; exact ti_succ hx.2.2.2.2.2.1 (fun w => hn (w.symm.trans q))
    · exact hx.2.2.2.2.2.1
  · split
    · rename_i q; exact ti_pred hx.2.2.2.2.2.2 (fun w => hn (w.symm.trans q))
    · exact hx.2.2.2.2.2.2
theorem hld_single {x : VV} {m : Int64} (hx : hld x m) (h : x.2.1 = 0) : m = x.1 := tb_ext (fun i hi => hx.2.2.1 i hi (by rw [h]; exact tb_0 i))
theorem leave_hld {x : VV} {m v : Int64} (hx : hld x m) (hn : ¬ m = v) : hld (f_C_leaveOut x v) m := by
  rw [leave_eq]
  refine hld_if (fun c => ?_) (fun _ => lo_hld hx hn)
  exact absurd ((hld_single hx c.1).trans c.2) hn
theorem part_eq (x y : VV) : f_C_part x y = (if y.2.1 = 0 then f_C_leaveOut x y.1 else x, if x.2.1 = 0 then f_C_leaveOut y x.1 else y) := by
  unfold f_C_part f_C_part_4v f_C_part_22g f_C_part_25 f_C_part_31g
  simp only [n_isSingle]
  rcases Classical.propComplete (y.2.1 = 0) with a | a <;> rcases Classical.propComplete (x.2.1 = 0) with b | b <;> simp only [a, b, not_true, not_false_iff, if_true, if_false]
theorem part_hld {x y : VV} {v w : Int64} (hx : hld x v) (hy : hld y w) (hn : ¬ v = w) : hld (f_C_part x y).1 v ∧ hld (f_C_part x y).2 w := by
  rw [part_eq]
  refine ⟨hld_if (fun c => ?_) (fun _ => hx), hld_if (fun c => ?_) (fun _ => hy)⟩
  · rw [← hld_single hy c]; exact leave_hld hx hn
  · rw [← hld_single hx c]; exact leave_hld hy (fun q => hn q.symm)
theorem hld_set_h {x : VV} {m H : Int64} (hx : hld x m) (h : un m ≤ un H) : hld (x.1, x.2.1, x.2.2.1, H, x.2.2.2.2.1, x.2.2.2.2.2.1, x.2.2.2.2.2.2) m := hld_mk' hx.2.1 hx.1 hx.2.2.1 hx.2.2.2.1 h hx.2.2.2.2.2.1 hx.2.2.2.2.2.2
theorem hld_set_l {x : VV} {m H : Int64} (hx : hld x m) (h : un H ≤ un m) : hld (x.1, x.2.1, H, x.2.2.2.1, x.2.2.2.2.1, x.2.2.2.2.2.1, x.2.2.2.2.2.2) m := hld_mk' hx.2.1 hx.1 hx.2.2.1 h hx.2.2.2.2.1 hx.2.2.2.2.2.1 hx.2.2.2.2.2.2
theorem hld_set_g {x : VV} {m H : Int64} (hx : hld x m) (h : m.toInt ≤ H.toInt) : hld (x.1, x.2.1, x.2.2.1, x.2.2.2.1, x.2.2.2.2.1, H, x.2.2.2.2.2.2) m := hld_mk' hx.2.1 hx.1 hx.2.2.1 hx.2.2.2.1 hx.2.2.2.2.1 hx.2.2.2.2.2.1 h
theorem hld_set_s {x : VV} {m H : Int64} (hx : hld x m) (h : H.toInt ≤ m.toInt) : hld (x.1, x.2.1, x.2.2.1, x.2.2.2.1, H, x.2.2.2.2.2.1, x.2.2.2.2.2.2) m := hld_mk' hx.2.1 hx.1 hx.2.2.1 hx.2.2.2.1 hx.2.2.2.2.1 h hx.2.2.2.2.2.2
theorem ordS_eq {x y : VV} (h1 : ¬ y.2.2.2.1 = 0) (h2 : ¬ x.2.2.1 = -1) : f_C_orderStrictly x y = ((x.1, x.2.1, x.2.2.1, f_N_less x.2.2.2.1 (y.2.2.2.1 - 1), x.2.2.2.2.1, x.2.2.2.2.2.1, x.2.2.2.2.2.2), (y.1, y.2.1, f_N_more y.2.2.1 (x.2.2.1 + 1), y.2.2.2.1, y.2.2.2.2.1, y.2.2.2.2.2.1, y.2.2.2.2.2.2)) := by
  unfold f_C_orderStrictly f_C_orderStrictly_34 f_C_orderStrictly_70r
  rw [if_neg h1, if_neg h2]
theorem ordS_bad {x y : VV} (h : y.2.2.2.1 = 0 ∨ x.2.2.1 = -1) : (f_C_orderStrictly x y).1.2.2.2.2.2.2 = true ∨ (f_C_orderStrictly x y).2.2.2.2.2.2.2 = true := by
  unfold f_C_orderStrictly f_C_orderStrictly_34 f_C_orderStrictly_70r
  by_cases a : y.2.2.2.1 = 0
  · rw [if_pos a]; left; split <;> rfl
  · rw [if_neg a]
    rcases h with h | h
    · exact absurd h a
    · rw [if_pos h]; right; rfl
theorem ordS_not {x y : VV} {v w : Int64} (hx : hld x v) (hy : hld y w) (h : un v < un w) : ¬ y.2.2.2.1 = 0 ∧ ¬ x.2.2.1 = -1 := by
  have a := hx.2.2.2.1
  have b := hy.2.2.2.2.1
  have c := un_lt w
  refine ⟨fun q => ?_, fun q => ?_⟩
  · rw [q, un_0] at b; omega
  · rw [q, un_m1] at a; omega
theorem ordS_hld {x y : VV} {v w : Int64} (hx : hld x v) (hy : hld y w) (h : un v < un w) : hld (f_C_orderStrictly x y).1 v ∧ hld (f_C_orderStrictly x y).2 w := by
  obtain ⟨n1, n2⟩ := ordS_not hx hy h
  have a1 := hx.2.2.2.1
  have a2 := hx.2.2.2.2.1
  have b1 := hy.2.2.2.1
  have b2 := hy.2.2.2.2.1
  have l1 := un_lt x.2.2.1
  have l2 := un_lt y.2.2.2.1
  have l3 := un_lt w
  rw [ordS_eq n1 n2]
  refine ⟨hld_set_h hx ?_, hld_set_l hy ?_⟩
  · rw [un_less, un_sub, un_1]; omega
  · rw [un_more, un_add, un_1]; omega
theorem ord_hld {x y : VV} {v w : Int64} (hx : hld x v) (hy : hld y w) (h : un v ≤ un w) : hld (f_C_order x y).1 v ∧ hld (f_C_order x y).2 w := by
  have a1 := hx.2.2.2.1
  have a2 := hx.2.2.2.2.1
  have b1 := hy.2.2.2.1
  have b2 := hy.2.2.2.2.1
  unfold f_C_order f_C_order_30r
  refine ⟨hld_set_h hx ?_, hld_set_l hy ?_⟩
  · rw [un_less]; omega
  · rw [un_more]; omega
theorem ordT_eq {x y : VV} (h1 : ¬ y.2.2.2.2.2.1 = -9223372036854775808) (h2 : ¬ x.2.2.2.2.1 = 9223372036854775807) : f_C_orderSignedStrictly x y = ((x.1, x.2.1, x.2.2.1, x.2.2.2.1, x.2.2.2.2.1, jmmin x.2.2.2.2.2.1 (y.2.2.2.2.2.1 - 1), x.2.2.2.2.2.2), (y.1, y.2.1, y.2.2.1, y.2.2.2.1, jmmax y.2.2.2.2.1 (x.2.2.2.2.1 + 1), y.2.2.2.2.2.1, y.2.2.2.2.2.2)) := by
  unfold f_C_orderSignedStrictly f_C_orderSignedStrictly_36 f_C_orderSignedStrictly_72r
  rw [if_neg h1, if_neg h2]
theorem ordT_bad {x y : VV} (h : y.2.2.2.2.2.1 = -9223372036854775808 ∨ x.2.2.2.2.1 = 9223372036854775807) : (f_C_orderSignedStrictly x y).1.2.2.2.2.2.2 = true ∨ (f_C_orderSignedStrictly x y).2.2.2.2.2.2.2 = true := by
  unfold f_C_orderSignedStrictly f_C_orderSignedStrictly_36 f_C_orderSignedStrictly_72r
  by_cases a : y.2.2.2.2.2.1 = -9223372036854775808
  · rw [if_pos a]; left; split <;> rfl
  · rw [if_neg a]
    rcases h with h | h
    · exact absurd h a
    · rw [if_pos h]; right; rfl
theorem ordT_not {x y : VV} {v w : Int64} (hx : hld x v) (hy : hld y w) (h : v.toInt < w.toInt) : ¬ y.2.2.2.2.2.1 = -9223372036854775808 ∧ ¬ x.2.2.2.2.1 = 9223372036854775807 := by
  have a := hx.2.2.2.2.2.1
  have b := hy.2.2.2.2.2.2
  have c := ti_lo v
  have d := ti_hi w
  refine ⟨fun q => ?_, fun q => ?_⟩
  · rw [q, ti_min] at b; omega
  · rw [q, ti_max] at a; omega
theorem ordT_hld {x y : VV} {v w : Int64} (hx : hld x v) (hy : hld y w) (h : v.toInt < w.toInt) : hld (f_C_orderSignedStrictly x y).1 v ∧ hld (f_C_orderSignedStrictly x y).2 w := by
  obtain ⟨n1, n2⟩ := ordT_not hx hy h
  have a1 := hx.2.2.2.2.2.1
  have a2 := hx.2.2.2.2.2.2
  have b1 := hy.2.2.2.2.2.1
  have b2 := hy.2.2.2.2.2.2
  have l1 := ti_hi w
  have l2 := ti_lo v
  have h4 : (1 : Int64).toInt = 1 := by decide
  have l4 := ti_lo x.2.2.2.2.1
  have l5 := ti_hi y.2.2.2.2.2.1
  rw [ordT_eq n1 n2]
  refine ⟨hld_set_g hx ?_, hld_set_s hy ?_⟩
  · rw [ti_jmin, ti_sub_in (by rw [h4]; omega), h4]; omega
  · rw [ti_jmax, ti_add_in (by rw [h4]; omega), h4]; omega
theorem ordU_hld {x y : VV} {v w : Int64} (hx : hld x v) (hy : hld y w) (h : v.toInt ≤ w.toInt) : hld (f_C_orderSigned x y).1 v ∧ hld (f_C_orderSigned x y).2 w := by
  have a1 := hx.2.2.2.2.2.1
  have a2 := hx.2.2.2.2.2.2
  have b1 := hy.2.2.2.2.2.1
  have b2 := hy.2.2.2.2.2.2
  unfold f_C_orderSigned f_C_orderSigned_30r
  refine ⟨hld_set_g hx ?_, hld_set_s hy ?_⟩
  · rw [ti_jmin]; omega
  · rw [ti_jmax]; omega
