/-! cutting: both make the same, and the witness stays -/
def trimP (z : VV) (m : Int64) : VV := if (z.2.2.1 ^^^ z.2.2.2.1) &&& (m ^^^ (-1 : Int64)) = 0 then f_V_sayUnsigned (f_V_sayBits allV (z.1 &&& m) (z.2.1 &&& m)) (z.2.2.1 &&& m) (z.2.2.2.1 &&& m) else f_V_sayBits allV (z.1 &&& m) (z.2.1 &&& m)
theorem tr_96 (z : VV) (n : Int32) (Z : VV) : f_V_trim_96 z n Z.1 Z.2.1 Z.2.2.1 Z.2.2.2.1 Z.2.2.2.2.1 Z.2.2.2.2.2.1 Z.2.2.2.2.2.2 = f_V_tighten Z := by unfold f_V_trim_96 f_V_trim_97g; exact congrArg f_V_tighten (eta7 Z)
theorem tr_80 (z : VV) (n : Int32) (a b : Int64) (s : Int32) (Z : VV) : f_V_trim_80g z n a b s Z = f_V_tighten (if s = 0 then Z else f_V_sayUnsigned Z b a) := by
  unfold f_V_trim_80g f_V_trim_93g
  by_cases h : s = 0
  · rw [if_pos h, if_pos h, tr_96]
  · rw [if_neg h, if_neg h, tr_96]
theorem trim_pre (z : VV) {n : Int32} (hn : n < 64) : f_V_trim z n = f_V_tighten (trimP z (f_N_lowest n)) := by
  unfold f_V_trim f_V_trim_11v f_V_trim_37 f_V_trim_45v f_V_trim_53v f_V_trim_61v f_V_trim_69v f_V_trim_72g trimP
  rw [if_pos hn]
  simp only [tr_80, sayAll_eq]
  by_cases h : (z.2.2.1 ^^^ z.2.2.2.1) &&& (f_N_lowest n ^^^ (-1 : Int64)) = 0
  · rw [if_pos h, if_pos h, if_neg (by decide)]
  · rw [if_neg h, if_neg h, if_pos trivial]
theorem trim_64 (z : VV) : f_V_trim z 64 = z := by
  unfold f_V_trim
  rw [if_neg (by decide)]
theorem apart_and {a b : Int64} (h : apart a b) (m : Int64) : apart (a &&& m) (b &&& m) := fun i hi ho => by
  rw [tb_and] at ho ⊢
  rw [h i hi (by cases q : tb b i <;> simp_all)]; rfl
theorem same_above {a b m : Int64} : a &&& (m ^^^ (-1 : Int64)) = b &&& (m ^^^ (-1 : Int64)) ↔ (a ^^^ b) &&& (m ^^^ (-1 : Int64)) = 0 := by
  constructor
  · intro h
    rw [tb_eq0]
    intro i hi
    have : tb (a &&& (m ^^^ (-1 : Int64))) i = tb (b &&& (m ^^^ (-1 : Int64))) i := by rw [h]
    simp only [tb_and, tb_xor] at this ⊢
    revert this
    generalize tb a i = p; generalize tb b i = q; generalize (tb m i ^^ tb (-1) i) = s
    revert p q s; decide
  · intro h
    apply tb_ext
    intro i hi
    have := tb_eq0.mp h i hi
    simp only [tb_and, tb_xor] at this ⊢
    revert this
    generalize tb a i = p; generalize tb b i = q; generalize (tb m i ^^ tb (-1) i) = s
    revert p q s; decide
/-- what a row is before it is made tight, as the reference says it -/
theorem cut_pre (r : Nat → VV) {p q : Nat} (hp : ¬ p = 19) (hq : ¬ q = 19) {n : Int32} (hn : ¬ n = 64) (ha : apart (r p).1 (r p).2.1) : f_M_cutRow r p q n = f_M_tighten (va_up (va_up r 19 (r p)) q (trimP (r p) (f_M_mask n))) q := by
  unfold f_M_cutRow f_M_cutRow_4v f_M_cutRow_10g f_M_cutRow_15g f_M_cutRow_33u f_M_cutRow_49u f_M_cutRow_97u f_M_cutRow_113u f_M_cutRow_114 f_M_cutRow_146 f_M_cutRow_148g trimP
  rw [copy_eq r hp, nothingSaid_eq]
  have hq' : ¬ (19 : Nat) = q := fun h => hq h.symm
  simp only [if_neg hn, u1_up, u2_up, u3_up, u4_up, up_ne _ _ hq', up_at, sayB, sayU, apart_not9 (apart_and ha _)]
  by_cases h : ((r p).2.2.1 ^^^ (r p).2.2.2.1) &&& (f_M_mask n ^^^ (-1 : Int64)) = 0
  · rw [if_pos h, if_pos (same_above.mpr h)]
  · rw [if_neg h, if_neg (fun w => h (same_above.mp w))]
theorem cut_64 (r : Nat → VV) {p q : Nat} (hp : ¬ p = 19) (hq : ¬ q = 19) (hg : good (r p)) : f_M_cutRow r p q 64 = va_up (va_up r 19 (r p)) q (r p) := by
  have hm : f_M_mask 64 = -1 := by decide
  have e : ∀ a : Int64, a &&& (-1) = a := fun a => tb_ext (fun i hi => by rw [tb_and, tb_m1 hi]; simp)
  have e0 : ∀ a : Int64, a &&& ((-1) ^^^ (-1 : Int64)) = 0 := fun a => tb_ext (fun i hi => by rw [tb_and, tb_not _ hi, tb_m1 hi, tb_0]; simp)
  have hq' : ¬ (19 : Nat) = q := fun h => hq h.symm
  have key : f_M_cutRow r p q 64 = f_M_tighten (va_up (va_up r 19 (r p)) q (r p)) q := by
    unfold f_M_cutRow f_M_cutRow_4v f_M_cutRow_10g f_M_cutRow_15g f_M_cutRow_33u f_M_cutRow_49u f_M_cutRow_97u f_M_cutRow_113u f_M_cutRow_114 f_M_cutRow_132u f_M_cutRow_145u f_M_cutRow_146 f_M_cutRow_148g
    rw [copy_eq r hp, nothingSaid_eq, hm]
    simp only [u1_up, u2_up, u3_up, u4_up, u5_up, u6_up, up_ne _ _ hq', up_at, e, e0, if_true]
    have hf := good_flag hg
    have : allV.2.2.2.2.2.2 = (r p).2.2.2.2.2.2 := by rw [hf]; rfl
    rw [this]
  rw [key, tight_up _ _ (good_apart hg), tighten_id hg]
theorem un_low (v : Int64) {n : Nat} (hn : n ≤ 64) : un (v &&& f_N_lowest (nI n)) = un v % 2 ^ n := by
  rw [un_and, (un_lowest n hn).1, Nat.and_two_pow_sub_one_eq_mod]
theorem mod_mono {a b c m : Nat} (h1 : a ≤ b) (h2 : b ≤ c) (h : a / m = c / m) : a % m ≤ b % m ∧ b % m ≤ c % m := by
  have e1 := Nat.div_le_div_right (c := m) h1
  have e2 := Nat.div_le_div_right (c := m) h2
  have eb : b / m = a / m := by omega
  have ec : c / m = a / m := by omega
  have f1 := Nat.mod_add_div a m
  have f2 := Nat.mod_add_div b m
  have f3 := Nat.mod_add_div c m
  rw [eb] at f2
  rw [ec] at f3
  generalize m * (a / m) = P at f1 f2 f3
  omega
theorem above_div {a b : Int64} {n : Nat} (hn : n ≤ 64) (h : (a ^^^ b) &&& (f_N_lowest (nI n) ^^^ (-1 : Int64)) = 0) : un a / 2 ^ n = un b / 2 ^ n := by
  apply Nat.eq_of_testBit_eq
  intro j
  rw [Nat.testBit_div_two_pow, Nat.testBit_div_two_pow, ← tb_un, ← tb_un]
  by_cases hj : n + j < 64
  · have := tb_eq0.mp h (n + j) hj
    rw [tb_and, tb_not _ hj, tb_lowest hn, tb_xor] at this
    have e : decide (n + j < n) = false := decide_eq_false (by omega)
    rw [e] at this
    revert this
    rw [Nat.add_comm j n]
    generalize tb a (n + j) = p; generalize tb b (n + j) = q
    revert p q; decide
  · rw [tb_big (by omega), tb_big (by omega)]
theorem trim_hld {z : VV} {v : Int64} (h : hld z v) {n : Nat} (hn : n ≤ 64) : hld (trimP z (f_N_lowest (nI n))) (v &&& f_N_lowest (nI n)) := by
  have hB : hld (f_V_sayBits allV (z.1 &&& f_N_lowest (nI n)) (z.2.1 &&& f_N_lowest (nI n))) (v &&& f_N_lowest (nI n)) := by
    refine hld_B (hld_all _) (fun i hi ho => ?_)
    simp only [tb_and] at ho ⊢
    have m := h.2.2.1 i hi
    revert ho m
    generalize tb z.1 i = a; generalize tb z.2.1 i = b; generalize tb v i = c; generalize tb (f_N_lowest (nI n)) i = d
    revert a b c d; decide
  unfold trimP
  refine hld_if (fun c => ?_) (fun _ => hB)
  obtain ⟨q1, q2⟩ := mod_mono h.2.2.2.1 h.2.2.2.2.1 (above_div hn c)
  exact hld_U hB (by rw [un_low _ hn, un_low _ hn]; exact q1) (by rw [un_low _ hn, un_low _ hn]; exact q2)
theorem nI_lt64 {n : Nat} (hn : n < 64) : nI n < 64 := nI_lt (b := 64) hn (by decide)
theorem trim_good {z : VV} {v : Int64} (h : good z) (hv : kn z v) {n : Nat} (hn : n ≤ 64) : good (f_V_trim z (nI n)) ∧ kn (f_V_trim z (nI n)) (v &&& f_N_lowest (nI n)) := by
  by_cases h64 : n = 64
  · subst h64
    have e : f_V_trim z (nI 64) = z := trim_64 z
    have e2 : v &&& f_N_lowest (nI 64) = v := tb_ext (fun i hi => by rw [tb_and, tb_lowest (by decide) i, decide_eq_true hi]; simp)
    rw [e, e2]
    exact ⟨h, hv⟩
  · rw [trim_pre z (nI_lt64 (by omega))]
    exact hld_tighten (trim_hld (hld_good h hv) hn)
theorem mask_nI : ∀ n, n ≤ 64 → f_M_mask (nI n) = f_N_lowest (nI n) := by decide +kernel
theorem nI_ne64 {n : Nat} (hn : n < 64) : ¬ nI n = 64 := fun h => by
  have := (nI_eq (a := n) (b := 64) (by omega) (by decide)).mp h
  omega
theorem cut_eq (r : Nat → VV) {p q : Nat} (hp : ¬ p = 19) (hq : ¬ q = 19) {v : Int64} (h : good (r p)) (hv : kn (r p) v) {n : Nat} (hn : n ≤ 64) : f_M_cutRow r p q (nI n) = va_up (va_up r 19 (r p)) q (f_V_trim (r p) (nI n)) := by
  by_cases h64 : n = 64
  · subst h64
    have e : f_V_trim (r p) (nI 64) = r p := trim_64 _
    rw [e]
    exact cut_64 r hp hq h
  · rw [cut_pre r hp hq (nI_ne64 (by omega)) (good_apart h), mask_nI n hn, tight_up _ _ (trim_hld (hld_good h hv) hn).1, trim_pre _ (nI_lt64 (by omega))]
/-- above n all is known to be 0 -/
theorem trim_above {z : VV} {v : Int64} (h : good z) (hv : kn z v) {n : Nat} (hn : n < 64) : (∀ i, n ≤ i → i < 64 → tb (f_V_trim z (nI n)).1 i = false ∧ tb (f_V_trim z (nI n)).2.1 i = false) ∧ un (f_V_trim z (nI n)).2.2.1 < 2 ^ n ∧ un (f_V_trim z (nI n)).2.2.2.1 < 2 ^ n := by
  have hh := trim_hld (hld_good h hv) (Nat.le_of_lt hn)
  obtain ⟨hg, hk⟩ := tighten_good hh.1 hh.2.1 ⟨_, hh.2.2⟩
  rw [trim_pre z (nI_lt64 hn)]
  generalize f_V_tighten (trimP z (f_N_lowest (nI n))) = g at hg hk ⊢
  have hP : (trimP z (f_N_lowest (nI n))).1 = (z.1 &&& f_N_lowest (nI n)) &&& ((z.2.1 &&& f_N_lowest (nI n)) ^^^ (-1 : Int64)) ∧ (trimP z (f_N_lowest (nI n))).2.1 = z.2.1 &&& f_N_lowest (nI n) := by
    unfold trimP
    split <;> exact ⟨rfl, rfl⟩
  have hz : ∀ x, kn g x → ∀ i, n ≤ i → i < 64 → tb x i = false := fun x hx i h1 h2 => by
    have := ((hk x).mp hx).1 i h2
    have hd : tb (f_N_lowest (nI n)) i = false := by rw [tb_lowest (by omega)]; exact decide_eq_false (by omega)
    rw [hP.1, hP.2, tb_and, tb_and, tb_and, hd] at this
    simpa using this
  have hu : ∀ x, kn g x → un x < 2 ^ n := fun x hx => by
    apply Nat.lt_pow_two_of_testBit
    intro i hi
    rw [← tb_un]
    by_cases h2 : i < 64
    · exact hz x hx i hi h2
    · exact tb_big (by omega)
  refine ⟨fun i h1 h2 => ?_, hu _ hg.1.1, hu _ hg.1.2.1⟩
  have o : tb g.2.1 i = false := by
    cases ho : tb g.2.1 i
    · rfl
    · obtain ⟨x, y, hx, hy, hxy⟩ := (hg.2.2.1 i h2).mp ho
      rw [hz x hx i h1 h2, hz y hy i h1 h2] at hxy
      exact absurd rfl hxy
  refine ⟨?_, o⟩
  rw [← hg.2.2.2.1 _ hg.1.1 i h2 o]
  exact hz _ hg.1.1 i h1 h2
