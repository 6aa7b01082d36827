/-! a bit in both, no bit in both -/
theorem bc_one (v : Int64) : f_Lo_bitCount v = 1 ↔ f_M_isOneBit v = true := by
  rw [bc1_iff v (fun r hr => (bc_bit r hr).1), onebit_iff]
theorem one_tb {v : Int64} (h : f_M_isOneBit v = true) : ∃ k, k < 64 ∧ ∀ i, i < 64 → tb v i = decide (i = k) := by
  obtain ⟨k, hk, e⟩ := (onebit_iff v).mp h
  have : v = (1 : Int64) <<< ((nI k).toInt64 &&& 63) := un_inj (by rw [e, un_bit k hk])
  exact ⟨k, hk, fun i hi => by rw [this]; exact tb_bit k hk i hi⟩
theorem sb_eq (x y : VV) : f_C_shareBit x y = if (x.1 ||| x.2.1) &&& (y.1 ||| y.2.1) = 0 then ((x.1, x.2.1, x.2.2.1, x.2.2.2.1, x.2.2.2.2.1, x.2.2.2.2.2.1, true), (y.1, y.2.1, y.2.2.1, y.2.2.2.1, y.2.2.2.2.1, y.2.2.2.2.2.1, true)) else (if y.2.1 = 0 ∧ f_M_isOneBit y.1 = true then f_V_sayBits x (x.1 ||| y.1) (x.2.1 &&& (y.1 ^^^ (-1 : Int64))) else x, if x.2.1 = 0 ∧ f_M_isOneBit x.1 = true then f_V_sayBits y (y.1 ||| x.1) (y.2.1 &&& (x.1 ^^^ (-1 : Int64))) else y) := by
  unfold f_C_shareBit f_C_shareBit_57 f_C_shareBit_58 f_C_shareBit_105g f_C_shareBit_108 f_C_shareBit_129g
  simp only [n_isSingle, bc_one, i10, if_true, if_false]
  rcases Classical.propComplete ((x.1 ||| x.2.1) &&& (y.1 ||| y.2.1) = 0) with a | a
  · simp only [a, if_true]
  · rcases Classical.propComplete (x.2.1 = 0) with b | b <;> rcases Classical.propComplete (y.2.1 = 0) with c | c <;> rcases Classical.propComplete (f_M_isOneBit x.1 = true) with d | d <;> rcases Classical.propComplete (f_M_isOneBit y.1 = true) with e | e <;> simp only [a, b, c, d, e, not_true, not_false_iff, if_true, if_false, and_true, and_false, true_and, false_and, and_self]
theorem b_poss : ∀ a b m : Bool, (b = false → m = a) → m = true → (a || b) = true := by decide
theorem b_known : ∀ a b m : Bool, (b = false → m = a) → (b = true → a = false) → a = true → m = true := by decide
theorem b_one : ∀ a b c m k : Bool, (b = false → m = a) → (c = true → m = true) → (b && !c) = false → m = (a || c) := by decide
theorem b_none : ∀ a b c m : Bool, (b = false → m = a) → (b = true → a = false) → (c = true → m = false) → (b && !c) = false → m = a := by decide
theorem oneB_hld {x : VV} {v w : Int64} (hx : hld x v) (h : ¬ v &&& w = 0) (hw : f_M_isOneBit w = true) : hld (f_V_sayBits x (x.1 ||| w) (x.2.1 &&& (w ^^^ (-1 : Int64)))) v := by
  obtain ⟨k, hk, ht⟩ := one_tb hw
  obtain ⟨j, hj, hjt⟩ := tb_ne0 h
  rw [tb_and, ht j hj, Bool.and_eq_true, decide_eq_true_iff] at hjt
  refine hld_B hx (fun i hi ho => ?_)
  rw [tb_and, tb_not _ hi] at ho
  rw [tb_or]
  refine b_one _ _ _ _ true (hx.2.2.1 i hi) (fun q => ?_) ho
  rw [ht i hi, decide_eq_true_iff] at q
  rw [q, ← hjt.2]; exact hjt.1
theorem shareBit_hld {x y : VV} {v w : Int64} (hx : hld x v) (hy : hld y w) (h : ¬ v &&& w = 0) : (¬ (x.1 ||| x.2.1) &&& (y.1 ||| y.2.1) = 0) ∧ hld (f_C_shareBit x y).1 v ∧ hld (f_C_shareBit x y).2 w := by
  have hn : ¬ (x.1 ||| x.2.1) &&& (y.1 ||| y.2.1) = 0 := by
    obtain ⟨j, hj, hjt⟩ := tb_ne0 h
    intro q
    have := tb_eq0.mp q j hj
    rw [tb_and, Bool.and_eq_true] at hjt
    rw [tb_and, tb_or, tb_or, b_poss _ _ _ (hx.2.2.1 j hj) hjt.1, b_poss _ _ _ (hy.2.2.1 j hj) hjt.2] at this
    cases this
  refine ⟨hn, ?_⟩
  rw [sb_eq, if_neg hn]
  refine ⟨hld_if (fun c => ?_) (fun _ => hx), hld_if (fun c => ?_) (fun _ => hy)⟩
  · rw [hld_single hy c.1] at h
    exact oneB_hld hx h c.2
  · rw [hld_single hx c.1] at h
    exact oneB_hld hy (fun q => h (by rw [← q]; exact tb_ext (fun i hi => by rw [tb_and, tb_and, Bool.and_comm]))) c.2
theorem snb_eq {x y : VV} (hx : apart x.1 x.2.1) : f_C_shareNoBit x y = if x.1 &&& y.1 = 0 then (if y.2.1 = 0 then f_V_sayBits x x.1 (x.2.1 &&& (y.1 ^^^ (-1 : Int64))) else x, if x.2.1 = 0 then f_V_sayBits y y.1 (y.2.1 &&& (x.1 ^^^ (-1 : Int64))) else y) else ((x.1, x.2.1, x.2.2.1, x.2.2.2.1, x.2.2.2.2.1, x.2.2.2.2.2.1, true), (y.1, y.2.1, y.2.2.1, y.2.2.2.1, y.2.2.2.2.1, y.2.2.2.2.2.1, true)) := by
  have e : x.1 &&& ((x.2.1 &&& (y.1 ^^^ (-1 : Int64))) ^^^ (-1 : Int64)) = x.1 := tb_ext (fun i hi => by
    have := hx i hi
    rw [tb_and, tb_not _ hi, tb_and, tb_not _ hi]
    revert this
    generalize tb x.1 i = a; generalize tb x.2.1 i = b; generalize tb y.1 i = c
    revert a b c; decide)
  unfold f_C_shareNoBit f_C_shareNoBit_29v f_C_shareNoBit_55g f_C_shareNoBit_58 f_C_shareNoBit_80g
  simp only [n_isSingle]
  rcases Classical.propComplete (x.1 &&& y.1 = 0) with a | a
  · rcases Classical.propComplete (x.2.1 = 0) with b | b <;> rcases Classical.propComplete (y.2.1 = 0) with c | c <;> simp only [a, b, c, not_true, not_false_iff, if_true, if_false, sayB, e]
  · simp only [a, if_false]
theorem noB_hld {x : VV} {v w : Int64} (hx : hld x v) (h : v &&& w = 0) : hld (f_V_sayBits x x.1 (x.2.1 &&& (w ^^^ (-1 : Int64)))) v := by
  refine hld_B hx (fun i hi ho => ?_)
  rw [tb_and, tb_not _ hi] at ho
  refine b_none _ _ _ _ (hx.2.2.1 i hi) (hx.1 i hi) (fun q => ?_) ho
  have := tb_eq0.mp h i hi
  rw [tb_and, q] at this
  simpa using this
theorem shareNoBit_hld {x y : VV} {v w : Int64} (hx : hld x v) (hy : hld y w) (h : v &&& w = 0) : x.1 &&& y.1 = 0 ∧ hld (f_C_shareNoBit x y).1 v ∧ hld (f_C_shareNoBit x y).2 w := by
  have hn : x.1 &&& y.1 = 0 := by
    apply Classical.byContradiction
    intro q
    obtain ⟨j, hj, hjt⟩ := tb_ne0 q
    rw [tb_and, Bool.and_eq_true] at hjt
    have := tb_eq0.mp h j hj
    rw [tb_and, b_known _ _ _ (hx.2.2.1 j hj) (hx.1 j hj) hjt.1, b_known _ _ _ (hy.2.2.1 j hj) (hy.1 j hj) hjt.2] at this
    cases this
  refine ⟨hn, ?_⟩
  rw [snb_eq hx.1, if_pos hn]
  refine ⟨hld_if (fun c => ?_) (fun _ => hx), hld_if (fun c => ?_) (fun _ => hy)⟩
  · rw [hld_single hy c] at h
    exact noB_hld hx h
  · rw [hld_single hx c] at h
    exact noB_hld hy (by rw [← h]; exact tb_ext (fun i hi => by rw [tb_and, tb_and, Bool.and_comm]))
/-- a comparison that is so of two numbers keeps them -/
theorem cP_hld {c : Int32} {x y : VV} {v w : Int64} (hx : hld x v) (hy : hld y w) (h : f_C_isSo c v w = 1) : hld (cP c x y).1 v ∧ hld (cP c x y).2 w := by
  have hb : ∀ p q : Int64, f_N_below p q = 1 → un p < un q := fun p q e => by
    rw [n_below] at e
    by_cases z : un p < un q
    · exact z
    · rw [if_neg z] at e; cases e
  have hb0 : ∀ (p q : Int64), (if f_N_below p q = 0 then (1 : Int32) else 0) = 1 → un q ≤ un p := fun p q e => by
    by_cases z : f_N_below p q = 0
    · have := (n_below0 _ _).mp z; omega
    · rw [if_neg z] at e; cases e
  have hi1 : ∀ (P : Prop) [Decidable P], (if P then (1 : Int32) else 0) = 1 → P := fun P _ e => by
    by_cases z : P
    · exact z
    · rw [if_neg z] at e; cases e
  have hi0 : ∀ (P : Prop) [Decidable P], (if P then (0 : Int32) else 1) = 1 → ¬ P := fun P _ e z => by
    rw [if_pos z] at e; cases e
  unfold f_C_isSo at h
  unfold cP
  by_cases h0 : c = 0
  · rw [if_pos h0] at h ⊢
    have e := hi1 _ h
    subst e
    exact eq_hld hx hy
  rw [if_neg h0] at h ⊢
  by_cases h1 : c = 1
  · rw [if_pos h1] at h ⊢; exact part_hld hx hy (hi0 _ h)
  rw [if_neg h1] at h ⊢
  by_cases h2 : c = 2
  · rw [if_pos h2] at h ⊢; exact ordS_hld hx hy (hb _ _ h)
  rw [if_neg h2] at h ⊢
  by_cases h3 : c = 3
  · rw [if_pos h3] at h ⊢; exact ord_hld hx hy (hb0 _ _ h)
  rw [if_neg h3] at h ⊢
  by_cases h4 : c = 4
  · rw [if_pos h4] at h ⊢; exact And.symm (ordS_hld hy hx (hb _ _ h))
  rw [if_neg h4] at h ⊢
  by_cases h5 : c = 5
  · rw [if_pos h5] at h ⊢; exact And.symm (ord_hld hy hx (hb0 _ _ h))
  rw [if_neg h5] at h ⊢
  by_cases h6 : c = 6
  · rw [if_pos h6] at h ⊢; exact ordT_hld hx hy ((lt_un _ _).mp (hi1 _ h))
  rw [if_neg h6] at h ⊢
  by_cases h7 : c = 7
  · rw [if_pos h7] at h ⊢; exact ordU_hld hx hy (by have := mt (lt_un _ _).mpr (hi0 _ h); omega)
  rw [if_neg h7] at h ⊢
  by_cases h8 : c = 8
  · rw [if_pos h8] at h ⊢; exact And.symm (ordT_hld hy hx ((lt_un _ _).mp (hi1 _ h)))
  rw [if_neg h8] at h ⊢
  by_cases h9 : c = 9
  · rw [if_pos h9] at h ⊢; exact And.symm (ordU_hld hy hx (by have := mt (lt_un _ _).mpr (hi0 _ h); omega))
  rw [if_neg h9] at h ⊢
  by_cases h10 : c = 10
  · rw [if_pos h10] at h ⊢; exact (shareBit_hld hx hy (hi0 _ h)).2
  rw [if_neg h10] at h ⊢
  exact (shareNoBit_hld hx hy (hi1 _ h)).2
theorem refine_good {c : Int32} {x y : VV} {v w : Int64} (hx : hld x v) (hy : hld y w) (h : f_C_isSo c v w = 1) : (good (f_C_refine c x y).1 ∧ kn (f_C_refine c x y).1 v) ∧ (good (f_C_refine c x y).2 ∧ kn (f_C_refine c x y).2 w) := by
  obtain ⟨a, b⟩ := cP_hld hx hy h
  rw [refine_pre]
  generalize cP c x y = P at a b
  exact ⟨hld_tighten a, hld_tighten b⟩
