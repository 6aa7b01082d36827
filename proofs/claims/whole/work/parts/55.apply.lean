/-! an operation: both make the same, and the witness stays -/
theorem tight_up (r : Nat → VV) (p : Nat) {Z : VV} (h : apart Z.1 Z.2.1) : f_M_tighten (va_up r p Z) p = va_up r p (f_V_tighten Z) := by
  rw [m_tighten_eq _ _ (by rw [up_at]; exact h), up_at, up_up]
theorem rest_eq (a b : Int64) : f_M_rest a b = a - f_N_quotient a b * b := by
  unfold f_M_rest
  by_cases h : b = 0
  · rw [if_pos h]
    apply un_inj
    rw [un_rest, h, un_0, Nat.mod_zero]
  · rw [if_neg h, quo_eq]
theorem and_most' {M : Int32} (hM : M = 63 ∨ M = 31) (v : Int64) : v.toInt32 &&& M = (v &&& M.toInt64).toInt32 := by
  obtain ⟨S, -, h1, h2⟩ := and_most hM v
  rw [h1, h2]
theorem reckon_eq (op : Int32) (v w : Int64) {M : Int32} (hM : M = 63 ∨ M = 31) : f_M_reckon op v w M = f_O_reckon op v w M := by
  unfold f_M_reckon f_M_reckon_5v f_O_reckon f_O_reckon_6v
  rw [and_most' hM, quo_eq, rest_eq]
/-- the sayings before they are made tight -/
def preV (op : Int32) (x y : VV) (M : Int32) : VV :=
  if op = 0 then f_O_addition allV x y else if op = 1 then f_O_subtraction allV x y else if op = 2 then f_O_multiplication allV x y else if op = 3 then f_O_division allV x y else if op = 4 then f_O_remainder allV x y
  else if op = 5 then (x.1 &&& y.1 &&& (((x.1 ||| x.2.1) &&& (y.1 ||| y.2.1) &&& ((x.1 &&& y.1) ^^^ (-1 : Int64))) ^^^ (-1 : Int64)), (x.1 ||| x.2.1) &&& (y.1 ||| y.2.1) &&& ((x.1 &&& y.1) ^^^ (-1 : Int64)), allV.2.2.1, f_N_less x.2.2.2.1 y.2.2.2.1, allV.2.2.2.2)
  else if op = 6 then ((x.1 ||| y.1) &&& (((x.2.1 ||| y.2.1) &&& ((x.1 ||| y.1) ^^^ (-1 : Int64))) ^^^ (-1 : Int64)), (x.2.1 ||| y.2.1) &&& ((x.1 ||| y.1) ^^^ (-1 : Int64)), f_N_more x.2.2.1 y.2.2.1, allV.2.2.2)
  else if op = 7 then f_V_sayBits allV (x.1 ^^^ y.1) (x.2.1 ||| y.2.1) else if op = 8 then f_O_shift allV 8 x y M else if op = 9 then f_O_shift allV 9 x y M else if op = 10 then f_O_shift allV 10 x y M else y
theorem eta7 (Z : VV) : (Z.1, Z.2.1, Z.2.2.1, Z.2.2.2.1, Z.2.2.2.2.1, Z.2.2.2.2.2.1, Z.2.2.2.2.2.2) = Z := rfl
theorem mk_67g (z : VV) (op : Int32) (x y : VV) (M : Int32) (Z : VV) : f_O_make_67g z op x y M Z = f_V_tighten Z := by unfold f_O_make_67g f_O_make_269 f_O_make_270g; exact congrArg f_V_tighten (eta7 Z)
theorem mk_76g (z : VV) (op : Int32) (x y : VV) (M : Int32) (Z : VV) : f_O_make_76g z op x y M Z = f_V_tighten Z := by unfold f_O_make_76g f_O_make_269 f_O_make_270g; exact congrArg f_V_tighten (eta7 Z)
theorem mk_85g (z : VV) (op : Int32) (x y : VV) (M : Int32) (Z : VV) : f_O_make_85g z op x y M Z = f_V_tighten Z := by unfold f_O_make_85g f_O_make_269 f_O_make_270g; exact congrArg f_V_tighten (eta7 Z)
theorem mk_94g (z : VV) (op : Int32) (x y : VV) (M : Int32) (Z : VV) : f_O_make_94g z op x y M Z = f_V_tighten Z := by unfold f_O_make_94g f_O_make_269 f_O_make_270g; exact congrArg f_V_tighten (eta7 Z)
theorem mk_103g (z : VV) (op : Int32) (x y : VV) (M : Int32) (Z : VV) : f_O_make_103g z op x y M Z = f_V_tighten Z := by unfold f_O_make_103g f_O_make_269 f_O_make_270g; exact congrArg f_V_tighten (eta7 Z)
theorem mk_246g (z : VV) (op : Int32) (x y : VV) (M : Int32) (Z : VV) : f_O_make_246g z op x y M Z = f_V_tighten Z := by unfold f_O_make_246g f_O_make_269 f_O_make_270g; exact congrArg f_V_tighten (eta7 Z)
theorem mk_258g (z : VV) (op : Int32) (x y : VV) (M : Int32) (Z : VV) : f_O_make_258g z op x y M Z = f_V_tighten Z := by unfold f_O_make_258g f_O_make_269 f_O_make_270g; exact congrArg f_V_tighten (eta7 Z)
theorem mk_266g (z : VV) (op : Int32) (x y : VV) (M : Int32) (Z : VV) : f_O_make_266g z op x y M Z = f_V_tighten Z := by unfold f_O_make_266g f_O_make_269 f_O_make_270g; exact congrArg f_V_tighten (eta7 Z)
theorem ap_65g (r : Nat → VV) (op M : Int32) (R : Nat → VV) : f_M_apply_65g r op M R = f_M_tighten R 18 := by unfold f_M_apply_65g f_M_apply_152 f_M_apply_155g; exact Eq.refl _
theorem ap_72g (r : Nat → VV) (op M : Int32) (R : Nat → VV) : f_M_apply_72g r op M R = f_M_tighten R 18 := by unfold f_M_apply_72g f_M_apply_152 f_M_apply_155g; exact Eq.refl _
theorem ap_79g (r : Nat → VV) (op M : Int32) (R : Nat → VV) : f_M_apply_79g r op M R = f_M_tighten R 18 := by unfold f_M_apply_79g f_M_apply_152 f_M_apply_155g; exact Eq.refl _
theorem ap_86g (r : Nat → VV) (op M : Int32) (R : Nat → VV) : f_M_apply_86g r op M R = f_M_tighten R 18 := by unfold f_M_apply_86g f_M_apply_152 f_M_apply_155g; exact Eq.refl _
theorem ap_93g (r : Nat → VV) (op M : Int32) (R : Nat → VV) : f_M_apply_93g r op M R = f_M_tighten R 18 := by unfold f_M_apply_93g f_M_apply_152 f_M_apply_155g; exact Eq.refl _
theorem ap_100g (r : Nat → VV) (op M : Int32) (R : Nat → VV) : f_M_apply_100g r op M R = f_M_tighten R 18 := by unfold f_M_apply_100g f_M_apply_152 f_M_apply_155g; exact Eq.refl _
theorem ap_107g (r : Nat → VV) (op M : Int32) (R : Nat → VV) : f_M_apply_107g r op M R = f_M_tighten R 18 := by unfold f_M_apply_107g f_M_apply_152 f_M_apply_155g; exact Eq.refl _
theorem ap_114g (r : Nat → VV) (op M : Int32) (R : Nat → VV) : f_M_apply_114g r op M R = f_M_tighten R 18 := by unfold f_M_apply_114g f_M_apply_152 f_M_apply_155g; exact Eq.refl _
theorem ap_122g (r : Nat → VV) (op M : Int32) (R : Nat → VV) : f_M_apply_122g r op M R = f_M_tighten R 18 := by unfold f_M_apply_122g f_M_apply_152 f_M_apply_155g; exact Eq.refl _
theorem ap_130g (r : Nat → VV) (op M : Int32) (R : Nat → VV) : f_M_apply_130g r op M R = f_M_tighten R 18 := by unfold f_M_apply_130g f_M_apply_152 f_M_apply_155g; exact Eq.refl _
theorem ap_138g (r : Nat → VV) (op M : Int32) (R : Nat → VV) : f_M_apply_138g r op M R = f_M_tighten R 18 := by unfold f_M_apply_138g f_M_apply_152 f_M_apply_155g; exact Eq.refl _
theorem ap_149g (r : Nat → VV) (op M : Int32) (R : Nat → VV) : f_M_apply_149g r op M R = f_M_tighten R 18 := by unfold f_M_apply_149g f_M_apply_152 f_M_apply_155g; exact Eq.refl _
theorem mk_152g (z : VV) (op : Int32) (x y : VV) (M : Int32) (Z : VV) : f_O_make_152g z op x y M Z = f_V_tighten (Z.1, Z.2.1, Z.2.2.1, f_N_less x.2.2.2.1 y.2.2.2.1, Z.2.2.2.2) := by unfold f_O_make_152g f_O_make_269 f_O_make_270g; exact Eq.refl _
theorem mk_206g (z : VV) (op : Int32) (x y : VV) (M : Int32) (Z : VV) : f_O_make_206g z op x y M Z = f_V_tighten (Z.1, Z.2.1, f_N_more x.2.2.1 y.2.2.1, Z.2.2.2) := by unfold f_O_make_206g f_O_make_269 f_O_make_270g; exact Eq.refl _
theorem make_pre (z : VV) (op : Int32) (x y : VV) (M : Int32) : f_O_make z op x y M = f_V_tighten (preV op x y M) := by
  unfold f_O_make f_O_make_1g preV
  rw [sayAll_eq]
  by_cases h0 : op = 0
  · rw [if_pos h0, if_pos h0, mk_67g]
  rw [if_neg h0, if_neg h0]
  by_cases h1 : op = 1
  · rw [if_pos h1, if_pos h1, mk_76g]
  rw [if_neg h1, if_neg h1]
  by_cases h2 : op = 2
  · rw [if_pos h2, if_pos h2, mk_85g]
  rw [if_neg h2, if_neg h2]
  by_cases h3 : op = 3
  · rw [if_pos h3, if_pos h3, mk_94g]
  rw [if_neg h3, if_neg h3]
  by_cases h4 : op = 4
  · rw [if_pos h4, if_pos h4, mk_103g]
  rw [if_neg h4, if_neg h4]
  by_cases h5 : op = 5
  · rw [if_pos h5, if_pos h5, mk_152g, sayB]
  rw [if_neg h5, if_neg h5]
  by_cases h6 : op = 6
  · rw [if_pos h6, if_pos h6, mk_206g, sayB]
  rw [if_neg h6, if_neg h6]
  by_cases h7 : op = 7
  · rw [if_pos h7, if_pos h7, mk_246g]
  rw [if_neg h7, if_neg h7]
  by_cases h8 : op = 8
  · rw [if_pos h8, if_pos h8, h8, mk_258g]
  rw [if_neg h8, if_neg h8]
  by_cases h9 : op = 9
  · rw [if_pos h9, if_pos h9, h9, mk_258g]
  rw [if_neg h9, if_neg h9]
  by_cases h10 : op = 10
  · rw [if_pos h10, if_pos h10, h10, mk_258g]
  rw [if_neg h10, if_neg h10]
  rw [mk_266g]
  unfold f_V_take
  exact Eq.refl _
theorem pre_hld (op : Int32) {x y : VV} {v w : Int64} (hx : hld x v) (hy : hld y w) {M : Int32} (hM : M = 63 ∨ M = 31) : hld (preV op x y M) (f_O_reckon op v w M) := by
  unfold preV f_O_reckon f_O_reckon_6v
  by_cases h0 : op = 0
  · rw [if_pos h0, if_pos h0]; exact add_hld hx hy (hld_all _)
  rw [if_neg h0, if_neg h0]
  by_cases h1 : op = 1
  · rw [if_pos h1, if_pos h1]; exact sub_hld hx hy (hld_all _)
  rw [if_neg h1, if_neg h1]
  by_cases h2 : op = 2
  · rw [if_pos h2, if_pos h2]; exact mul_hld hx hy (hld_all _)
  rw [if_neg h2, if_neg h2]
  by_cases h3 : op = 3
  · rw [if_pos h3, if_pos h3]; exact div_hld hx hy (hld_all _)
  rw [if_neg h3, if_neg h3]
  by_cases h4 : op = 4
  · rw [if_pos h4, if_pos h4]; exact rem_hld hx hy (hld_all _)
  rw [if_neg h4, if_neg h4]
  by_cases h5 : op = 5
  · rw [if_pos h5, if_pos h5]; exact and_hld hx hy (hld_all _)
  rw [if_neg h5, if_neg h5]
  by_cases h6 : op = 6
  · rw [if_pos h6, if_pos h6]; exact or_hld hx hy (hld_all _)
  rw [if_neg h6, if_neg h6]
  by_cases h7 : op = 7
  · rw [if_pos h7, if_pos h7]; exact xor_hld hx hy (hld_all _)
  rw [if_neg h7, if_neg h7]
  by_cases h8 : op = 8
  · rw [if_pos h8, if_pos h8]
    obtain ⟨S, hS, e, q⟩ := shift_cases (x := x) hy hM allV 8
    rw [e]
    rcases q with q | ⟨t, u, t1, t2, t3, q⟩
    · rw [q]; exact shiftBy8 hx hS (hld_all _)
    · rw [q]; exact shift74_8 hx M t1 t2 t3 (hld_all _)
  rw [if_neg h8, if_neg h8]
  by_cases h9 : op = 9
  · rw [if_pos h9, if_pos h9]
    obtain ⟨S, hS, e, q⟩ := shift_cases (x := x) hy hM allV 9
    rw [e]
    rcases q with q | ⟨t, u, t1, t2, t3, q⟩
    · rw [q]; exact shiftBy9 hx hS (hld_all _)
    · rw [q]; exact shift74_9 hx M t1 t2 t3 (hld_all _)
  rw [if_neg h9, if_neg h9]
  by_cases h10 : op = 10
  · rw [if_pos h10, if_pos h10]
    obtain ⟨S, hS, e, q⟩ := shift_cases (x := x) hy hM allV 10
    rw [e]
    rcases q with q | ⟨t, u, t1, t2, t3, q⟩
    · rw [q]; exact shiftBy10 hx hS (hld_all _)
    · rw [q]; exact shift74_10 hx M t1 t2 t3 (hld_all _)
  rw [if_neg h10, if_neg h10]
  exact hy
theorem make_good (z : VV) (op : Int32) {x y : VV} {v w : Int64} (hx : good x) (hv : kn x v) (hy : good y) (hw : kn y w) {M : Int32} (hM : M = 63 ∨ M = 31) : good (f_O_make z op x y M) ∧ kn (f_O_make z op x y M) (f_O_reckon op v w M) := by
  rw [make_pre]
  exact hld_tighten (pre_hld op (hld_good hx hv) (hld_good hy hw) hM)
theorem apply_pre (r : Nat → VV) (op : Int32) {v w : Int64} (hx : good (r 16)) (hv : kn (r 16) v) (hy : good (r 17)) (hw : kn (r 17) w) {M : Int32} (hM : M = 63 ∨ M = 31) (z : VV) : f_M_apply r op M = va_up r 18 (f_O_make z op (r 16) (r 17) M) := by
  have ha := (pre_hld op (hld_good hx hv) (hld_good hy hw) hM).1
  have aX := good_apart hx
  have aY := good_apart hy
  rw [make_pre, ← tight_up r 18 ha]
  clear ha
  unfold f_M_apply f_M_apply_3g preV
  rw [nothingSaid_eq]
  by_cases h0 : op = 0
  · rw [if_pos h0, if_pos h0, m_add_eq r allV aX aY, ap_65g]
  rw [if_neg h0, if_neg h0]
  by_cases h1 : op = 1
  · rw [if_pos h1, if_pos h1, m_subtract_eq r allV aX aY, ap_72g]
  rw [if_neg h1, if_neg h1]
  by_cases h2 : op = 2
  · rw [if_pos h2, if_pos h2, m_multiply_eq r allV, ap_79g]
  rw [if_neg h2, if_neg h2]
  by_cases h3 : op = 3
  · rw [if_pos h3, if_pos h3, m_divide_eq r allV, ap_86g]
  rw [if_neg h3, if_neg h3]
  by_cases h4 : op = 4
  · rw [if_pos h4, if_pos h4, m_remain_eq r allV, ap_93g]
  rw [if_neg h4, if_neg h4]
  by_cases h5 : op = 5
  · rw [if_pos h5, if_pos h5, m_and_eq r allV]; rw [ap_100g]; simp only [sayB]
  rw [if_neg h5, if_neg h5]
  by_cases h6 : op = 6
  · rw [if_pos h6, if_pos h6, m_or_eq r allV]; rw [ap_107g]; simp only [sayB]
  rw [if_neg h6, if_neg h6]
  by_cases h7 : op = 7
  · rw [if_pos h7, if_pos h7, m_xor_eq r allV, ap_114g]
  rw [if_neg h7, if_neg h7]
  by_cases h8 : op = 8
  · rw [if_pos h8, if_pos h8, m_left_eq r allV aX M hM hy, ap_122g]
  rw [if_neg h8, if_neg h8]
  by_cases h9 : op = 9
  · rw [if_pos h9, if_pos h9, m_right_eq r allV aX M hM hy, ap_130g]
  rw [if_neg h9, if_neg h9]
  by_cases h10 : op = 10
  · rw [if_pos h10, if_pos h10, m_signedRight_eq r allV aX M hM hy, ap_138g]
  rw [if_neg h10, if_neg h10, copy_eq _ (show ¬ (17 : Nat) = 18 by decide), up_up]
  rw [ap_149g, up18_17]
