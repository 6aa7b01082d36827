/-! joining and widening -/
def spO (x y : VV) : Int64 := x.2.1 ||| y.2.1 ||| (x.1 ^^^ y.1)
def spP (x y : VV) (far : Int32) : VV := (x.1 &&& (spO x y ^^^ (-1 : Int64)), spO x y,
  if f_N_below y.2.2.1 x.2.2.1 = 0 then x.2.2.1 else if far = 0 then y.2.2.1 else 0,
  if f_N_below x.2.2.2.1 y.2.2.2.1 = 0 then x.2.2.2.1 else if far = 0 then y.2.2.2.1 else -1,
  if y.2.2.2.2.1 < x.2.2.2.2.1 then (if far = 0 then y.2.2.2.2.1 else -9223372036854775808) else x.2.2.2.2.1,
  if x.2.2.2.2.2.1 < y.2.2.2.2.2.1 then (if far = 0 then y.2.2.2.2.2.1 else 9223372036854775807) else x.2.2.2.2.2.1, x.2.2.2.2.2.2)
theorem sp_119 (x y : VV) (far : Int32) (a b c d e f : Int64) (g : Bool) : f_V_spread_119 x y far a b c d e f g = f_V_tighten (a, b, c, d, e, if f < y.2.2.2.2.2.1 then (if far = 0 then y.2.2.2.2.2.1 else 9223372036854775807) else f, g) := by
  unfold f_V_spread_119 f_V_spread_146 f_V_spread_149 f_V_spread_150g
  split
  · split <;> exact Eq.refl _
  · exact Eq.refl _
theorem sp_89 (x y : VV) (far : Int32) (a b c d e f : Int64) (g : Bool) : f_V_spread_89 x y far a b c d e f g = f_V_tighten (a, b, c, d, if y.2.2.2.2.1 < e then (if far = 0 then y.2.2.2.2.1 else -9223372036854775808) else e, if f < y.2.2.2.2.2.1 then (if far = 0 then y.2.2.2.2.2.1 else 9223372036854775807) else f, g) := by
  unfold f_V_spread_89 f_V_spread_116
  simp only [sp_119]
  by_cases h : y.2.2.2.2.1 < e
  · simp only [if_pos h]
    by_cases h' : far = 0
    · simp only [if_pos h']
    · simp only [if_neg h']
  · simp only [if_neg h]
theorem sp_57 (x y : VV) (far : Int32) (a b c d e f : Int64) (g : Bool) : f_V_spread_57 x y far a b c d e f g = f_V_tighten (a, b, c, if f_N_below d y.2.2.2.1 = 0 then d else if far = 0 then y.2.2.2.1 else -1, if y.2.2.2.2.1 < e then (if far = 0 then y.2.2.2.2.1 else -9223372036854775808) else e, if f < y.2.2.2.2.2.1 then (if far = 0 then y.2.2.2.2.2.1 else 9223372036854775807) else f, g) := by
  unfold f_V_spread_57 f_V_spread_86
  simp only [sp_89]
  by_cases h : f_N_below d y.2.2.2.1 = 0
  · simp only [if_pos h]
  · simp only [if_neg h]
    by_cases h' : far = 0
    · simp only [if_pos h']
    · simp only [if_neg h']
theorem spread_pre (x y : VV) (far : Int32) : f_V_spread x y far = f_V_tighten (spP x y far) := by
  unfold f_V_spread f_V_spread_24g f_V_spread_54 spP spO
  simp only [sp_57, sayB]
  by_cases h : f_N_below y.2.2.1 x.2.2.1 = 0
  · simp only [if_pos h]
  · simp only [if_neg h]
    by_cases h' : far = 0
    · simp only [if_pos h']
    · simp only [if_neg h']
theorem b_join : ∀ a b c d m : Bool, ((b = false → m = a) ∨ (d = false → m = c)) → (b || d || (a ^^ c)) = false → m = a := by decide
theorem hld_mk' {b o l h s g n : Int64} {f : Bool} (hf : f = false) (ha : apart b o) (hm : mat b o n) (h1 : un l ≤ un n) (h2 : un n ≤ un h) (h3 : s.toInt ≤ n.toInt) (h4 : n.toInt ≤ g.toInt) : hld (b, o, l, h, s, g, f) n := ⟨ha, hf, hm, h1, h2, h3, h4⟩
theorem spread_hld {x y : VV} {v : Int64} (far : Int32) (hf : x.2.2.2.2.2.2 = false) (h : kn x v ∨ kn y v) : hld (spP x y far) v := by
  have u1' := un_lt v
  have v1 := ti_lo v
  have v2 := ti_hi v
  unfold spP
  refine hld_mk' hf (apart_say _ _) (mat_say (fun i hi ho => ?_)) ?_ ?_ ?_ ?_
  · unfold spO at ho
    simp only [tb_or, tb_xor] at ho
    refine b_join _ _ _ _ _ ?_ ho
    rcases h with h | h
    · exact Or.inl (h.1 i hi)
    · exact Or.inr (h.1 i hi)
  · by_cases c : f_N_below y.2.2.1 x.2.2.1 = 0
    · rw [if_pos c]
      have := (n_below0 _ _).mp c
      rcases h with h | h
      · exact h.2.1
      · have := h.2.1; omega
    · rw [if_neg c]
      have c' := Classical.not_not.mp (mt (n_below0 _ _).mpr c)
      split
      · rcases h with h | h
        · have := h.2.1; omega
        · exact h.2.1
      · rw [un_0]; omega
  · by_cases c : f_N_below x.2.2.2.1 y.2.2.2.1 = 0
    · rw [if_pos c]
      have := (n_below0 _ _).mp c
      rcases h with h | h
      · exact h.2.2.1
      · have := h.2.2.1; omega
    · rw [if_neg c]
      have c' := Classical.not_not.mp (mt (n_below0 _ _).mpr c)
      split
      · rcases h with h | h
        · have := h.2.2.1; omega
        · exact h.2.2.1
      · rw [un_m1]; omega
  · by_cases c : y.2.2.2.2.1 < x.2.2.2.2.1
    · rw [if_pos c]
      have c' := (lt_un _ _).mp c
      split
      · rcases h with h | h
        · have := h.2.2.2.1; omega
        · exact h.2.2.2.1
      · rw [ti_min]; exact v1
    · rw [if_neg c]
      have c' := mt (lt_un _ _).mpr c
      rcases h with h | h
      · exact h.2.2.2.1
      · have := h.2.2.2.1; omega
  · by_cases c : x.2.2.2.2.2.1 < y.2.2.2.2.2.1
    · rw [if_pos c]
      have c' := (lt_un _ _).mp c
      split
      · rcases h with h | h
        · have := h.2.2.2.2; omega
        · exact h.2.2.2.2
      · rw [ti_max]; omega
    · rw [if_neg c]
      have c' := mt (lt_un _ _).mpr c
      rcases h with h | h
      · exact h.2.2.2.2
      · have := h.2.2.2.2; omega
theorem spread_good {x y : VV} {v : Int64} (far : Int32) (hx : good x) (h : kn x v ∨ kn y v) : good (f_V_spread x y far) ∧ kn (f_V_spread x y far) v := by
  rw [spread_pre]
  exact hld_tighten (spread_hld far (good_flag hx) h)
/-! one number, all numbers, the number 0 -/
theorem good_all : good allV := by
  have h : ∀ n, kn allV n := fun n => (hld_all n).2.2
  refine ⟨⟨h _, h _, h _, h _⟩, fun n _ => (h n).2, fun i hi => ⟨fun _ => ⟨0, -1, h _, h _, ?_⟩, fun _ => ?_⟩, fun n _ => (h n).1, (hld_all 0).1, rfl⟩
  · rw [tb_0, tb_m1 hi]; decide
  · exact tb_m1 hi
theorem good_one (v : Int64) : good (v, 0, v, v, v, v, false) := by
  have h : ∀ n, kn (v, 0, v, v, v, v, false) n → n = v := fun n hn => un_inj (Nat.le_antisymm hn.2.2.1 hn.2.1)
  have hv : kn (v, 0, v, v, v, v, false) v := ⟨fun _ _ _ => rfl, Nat.le_refl _, Nat.le_refl _, Int.le_refl _, Int.le_refl _⟩
  refine ⟨⟨hv, hv, hv, hv⟩, fun n hn => hn.2, fun i hi => ⟨fun w => ?_, fun ⟨x, y, hx, hy, hxy⟩ => ?_⟩, fun n hn => hn.1, fun i hi w => ?_, rfl⟩
  · have w : tb 0 i = true := w
    rw [tb_0] at w; cases w
  · rw [h x hx, h y hy] at hxy; exact absurd rfl hxy
  · have w : tb 0 i = true := w
    rw [tb_0] at w; cases w
theorem kn_one (v n : Int64) : kn (v, 0, v, v, v, v, false) n ↔ n = v := ⟨fun hn => un_inj (Nat.le_antisymm hn.2.2.1 hn.2.1), fun h => by
  rw [h]; exact ⟨fun _ _ _ => rfl, Nat.le_refl _, Nat.le_refl _, Int.le_refl _, Int.le_refl _⟩⟩
theorem tighten_one (v : Int64) : f_V_tighten (f_V_sayBits allV v 0) = (v, 0, v, v, v, v, false) := by
  have hh : hld (f_V_sayBits allV v 0) v := hld_B (hld_all v) (fun _ _ _ => rfl)
  obtain ⟨hg, hk⟩ := tighten_good hh.1 hh.2.1 ⟨v, hh.2.2⟩
  have e : ∀ n, kn (f_V_tighten (f_V_sayBits allV v 0)) n ↔ kn (v, 0, v, v, v, v, false) n := fun n => by
    rw [hk, kn_one]
    refine ⟨fun h => tb_ext (fun i hi => ?_), fun h => by rw [h]; exact hh.2.2⟩
    have := h.1 i hi (tb_0 i)
    rw [this]
    show tb (v &&& (0 ^^^ (-1 : Int64))) i = tb v i
    rw [tb_and, tb_not _ hi, tb_0]; simp
  have e' : kn (f_V_tighten (f_V_sayBits allV v 0)) = kn (v, 0, v, v, v, v, false) := funext (fun n => propext (e n))
  have hg' : tgt (kn (v, 0, v, v, v, v, false)) (f_V_tighten (f_V_sayBits allV v 0)) := e' ▸ hg
  exact tgt_unique hg' (good_one v)
theorem single_eq (r : Nat → VV) (p : Nat) (v : Int64) : f_M_single r p v = va_up r p (v, 0, v, v, v, v, false) := by
  unfold f_M_single f_M_single_6u f_M_single_13u f_M_single_20u f_M_single_27u f_M_single_34u f_M_single_41u f_M_single_48u
  have : u1 r p v = va_up r p (v, (r p).2) := rfl
  rw [this, u2_up, u3_up, u4_up, u5_up, u6_up, u7_up]
/-! what is held -/
theorem m_isNumber (r : Nat → VV) (p : Nat) (n : Int64) (hd : apart (r p).1 (r p).2.1) : f_M_isNumber r p n = true ↔ f_V_holds (r p) n = 1 := by
  unfold f_M_isNumber f_M_isNumber_83 f_V_holds f_V_holds_69
  simp only [m_below, n_below]
  generalize r p = z
  cases hz : z.2.2.2.2.2.2
  · rcases Classical.propComplete (n &&& (z.2.1 ^^^ (-1 : Int64)) = z.1) with a | a <;> rcases Classical.propComplete (un n < un z.2.2.1) with b | b <;> rcases Classical.propComplete (un z.2.2.2.1 < un n) with c | c <;> rcases Classical.propComplete (n < z.2.2.2.2.1) with d | d <;> rcases Classical.propComplete (z.2.2.2.2.2.1 < n) with e | e <;> simp only [a, b, c, d, e, decide_true, decide_false, if_true, if_false, bTF, bFT, i10, i01, bI, Bool.false_eq_true]
  · simp [bI]
theorem holds_kn {z : VV} (h : good z) {n : Int64} (hn : kn z n) : f_V_holds z n = 1 := by
  rw [n_holds _ (good_apart h), if_pos ⟨good_flag h, hn⟩]
theorem holds_01 (z : VV) (n : Int64) : f_V_holds z n = 1 ∨ f_V_holds z n = 0 := by
  unfold f_V_holds f_V_holds_69
  repeat' split
  all_goals first | exact Or.inl rfl | exact Or.inr rfl
theorem good_kn {z : VV} (h : good z) {n : Int64} : f_V_holds z n = 1 ↔ kn z n := by
  rw [n_holds _ (good_apart h)]
  by_cases q : z.2.2.2.2.2.2 = false ∧ kn z n
  · rw [if_pos q]; exact ⟨fun _ => q.2, fun _ => rfl⟩
  · rw [if_neg q]; exact ⟨fun w => absurd w (by decide), fun w => absurd ⟨good_flag h, w⟩ q⟩
