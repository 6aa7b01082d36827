/-! what a saying holds: a witness stays among the numbers -/
def hld (z : VV) (n : Int64) : Prop := apart z.1 z.2.1 ∧ z.2.2.2.2.2.2 = false ∧ kn z n
theorem hld_good {z : VV} {n : Int64} (h : good z) (hn : kn z n) : hld z n := ⟨good_apart h, good_flag h, hn⟩
theorem hld_tighten {z : VV} {n : Int64} (h : hld z n) : good (f_V_tighten z) ∧ kn (f_V_tighten z) n := by
  obtain ⟨a, b⟩ := tighten_good h.1 h.2.1 ⟨n, h.2.2⟩
  exact ⟨a, (b n).mpr h.2.2⟩
theorem ti_min : (-9223372036854775808 : Int64).toInt = -2 ^ 63 := by decide
theorem ti_max : (9223372036854775807 : Int64).toInt = 2 ^ 63 - 1 := by decide
theorem apart_say (v o : Int64) : apart (v &&& (o ^^^ (-1 : Int64))) o := fun i hi ho => by
  rw [tb_and, tb_not _ hi, ho]; simp
theorem mat_say {v o n : Int64} (h : ∀ i, i < 64 → tb o i = false → tb n i = tb v i) : mat (v &&& (o ^^^ (-1 : Int64))) o n := fun i hi ho => by
  rw [tb_and, tb_not _ hi, ho, h i hi ho]; simp
theorem hld_mk {b o l h s g n : Int64} (ha : apart b o) (hm : mat b o n) (h1 : un l ≤ un n) (h2 : un n ≤ un h) (h3 : s.toInt ≤ n.toInt) (h4 : n.toInt ≤ g.toInt) : hld (b, o, l, h, s, g, false) n := ⟨ha, rfl, hm, h1, h2, h3, h4⟩
theorem hld_all (n : Int64) : hld allV n := by
  have h1 := un_lt n
  have h2 := ti_lo n
  have h3 := ti_hi n
  refine hld_mk (fun i hi _ => tb_0 i) (fun i hi ho => ?_) ?_ ?_ ?_ ?_
  · rw [tb_m1 hi] at ho; cases ho
  · rw [un_0]; omega
  · rw [un_m1]; omega
  · rw [ti_min]; exact h2
  · rw [ti_max]; omega
theorem hld_B {z : VV} {v o n : Int64} (h : hld z n) (hm : ∀ i, i < 64 → tb o i = false → tb n i = tb v i) : hld (f_V_sayBits z v o) n := ⟨apart_say v o, h.2.1, mat_say hm, h.2.2.2⟩
theorem hld_U {z : VV} {a b n : Int64} (h : hld z n) (h1 : un a ≤ un n) (h2 : un n ≤ un b) : hld (f_V_sayUnsigned z a b) n := ⟨h.1, h.2.1, h.2.2.1, h1, h2, h.2.2.2.2.2⟩
theorem hld_S {z : VV} {a b n : Int64} (h : hld z n) (h1 : a.toInt ≤ n.toInt) (h2 : n.toInt ≤ b.toInt) : hld (f_V_saySigned z a b) n := ⟨h.1, h.2.1, h.2.2.1, h.2.2.2.1, h.2.2.2.2.1, h1, h2⟩
theorem ti_add_in {x y : Int64} (h : -2 ^ 63 ≤ x.toInt + y.toInt ∧ x.toInt + y.toInt < 2 ^ 63) : (x + y).toInt = x.toInt + y.toInt := by
  have h1 := un_lt x
  have h2 := un_lt y
  have e := ti_un (x + y)
  rw [un_add] at e
  have e1 := ti_un x
  have e2 := ti_un y
  omega
theorem ti_sub_in {x y : Int64} (h : -2 ^ 63 ≤ x.toInt - y.toInt ∧ x.toInt - y.toInt < 2 ^ 63) : (x - y).toInt = x.toInt - y.toInt := by
  have h1 := un_lt x
  have h2 := un_lt y
  have e := ti_un (x - y)
  rw [un_sub] at e
  have e1 := ti_un x
  have e2 := ti_un y
  omega
/-- a choice of what is said -/
theorem hld_if {c : Prop} [Decidable c] {a b : VV} {n : Int64} (h1 : c → hld a n) (h2 : ¬ c → hld b n) : hld (if c then a else b) n := by
  by_cases h : c
  · rw [if_pos h]; exact h1 h
  · rw [if_neg h]; exact h2 h
theorem add_hld {x y : VV} {v w : Int64} (hx : hld x v) (hy : hld y w) {z : VV} (hz : hld z (v + w)) : hld (f_O_addition z x y) (v + w) := by
  have hB : hld (f_V_sayBits z (x.1 + y.1) (((x.1 + y.1) ^^^ (x.1 + y.1 + x.2.1 + y.2.1)) ||| x.2.1 ||| y.2.1)) (v + w) := hld_B hz (add_sound hx.1 hy.1 hx.2.2.1 hy.2.2.1)
  unfold f_O_addition f_O_addition_9v f_O_addition_21v f_O_addition_39g f_O_addition_51v f_O_addition_62v
  generalize f_V_sayBits z (x.1 + y.1) (((x.1 + y.1) ^^^ (x.1 + y.1 + x.2.1 + y.2.1)) ||| x.2.1 ||| y.2.1) = Z at hB ⊢
  obtain ⟨-, -, -, a1, a2, a3, a4⟩ := hx
  obtain ⟨-, -, -, b1, b2, b3, b4⟩ := hy
  have tail : ∀ Y : VV, hld Y (v + w) → hld (f_O_addition_93 z x y Y.1 Y.2.1 Y.2.2.1 Y.2.2.2.1 Y.2.2.2.2.1 Y.2.2.2.2.2.1 Y.2.2.2.2.2.2) (v + w) := fun Y hY => by
    unfold f_O_addition_93 f_O_addition_140g
    simp only [n_sumFits]
    by_cases c1 : -2 ^ 63 ≤ x.2.2.2.2.1.toInt + y.2.2.2.2.1.toInt ∧ x.2.2.2.2.1.toInt + y.2.2.2.2.1.toInt < 2 ^ 63
    · rw [if_pos c1]
      by_cases c2 : -2 ^ 63 ≤ x.2.2.2.2.2.1.toInt + y.2.2.2.2.2.1.toInt ∧ x.2.2.2.2.2.1.toInt + y.2.2.2.2.2.1.toInt < 2 ^ 63
      · rw [if_pos c2]
        have e1 := ti_add_in c1
        have e2 := ti_add_in c2
        have e3 := ti_add_in (x := v) (y := w) (by omega)
        exact hld_S hY (by omega) (by omega)
      · rw [if_neg c2]; exact hY
    · rw [if_neg c1]; exact hY
  unfold f_O_addition_90g
  refine hld_if (fun c => ?_) (fun c => ?_)
  · refine tail _ (hld_U hB ?_ ?_)
    all_goals
      simp only [n_below] at c
      simp only [un_add] at c ⊢
      have := un_lt x.2.2.1; have := un_lt x.2.2.2.1; have := un_lt y.2.2.1; have := un_lt y.2.2.2.1
      by_cases q1 : (un x.2.2.1 + un y.2.2.1) % 2 ^ 64 < un x.2.2.1 <;> by_cases q2 : (un x.2.2.2.1 + un y.2.2.2.1) % 2 ^ 64 < un x.2.2.2.1
      · omega
      · rw [if_pos q1, if_neg q2] at c; cases c
      · rw [if_neg q1, if_pos q2] at c; cases c
      · omega
  · exact tail _ hB
