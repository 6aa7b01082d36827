/-! the reference's halves: first, last, has -/
theorem un_larger (p q : Int64) : un (f_M_larger p q) = max (un p) (un q) := by
  rw [m_larger]; split <;> omega
theorem un_lesser (p q : Int64) : un (f_M_lesser p q) = min (un p) (un q) := by
  rw [m_lesser]; split <;> omega
theorem neg_tb (x : Int64) : x < 0 ↔ tb x 63 = true := by
  rw [neg_un, tb63, decide_eq_true_iff]
theorem dneg_tb (x : Int64) : decide (x < 0) = tb x 63 := by
  have h := neg_tb x
  cases hb : tb x 63
  · rw [hb] at h; exact decide_eq_false (fun q => by simpa using h.mp q)
  · rw [hb] at h; exact decide_eq_true (h.mpr rfl)
theorem nonneg_ti {x : Int64} (h : tb x 63 = false) : 0 ≤ x.toInt := by
  have h1 := un_lt x
  rw [tb63] at h
  have := of_decide_eq_false h
  rw [ti_un]; omega
theorem neg_ti {x : Int64} (h : tb x 63 = true) : x.toInt < 0 := by
  have h1 := un_lt x
  rw [tb63] at h
  have := of_decide_eq_true h
  rw [ti_un]; omega
theorem sg_le {n : Int64} {s : Bool} (h : tb n 63 = s) : un (sg s) ≤ un n := by
  cases s
  · show un 0 ≤ _
    rw [un_0]; omega
  · rw [tb63] at h
    have := of_decide_eq_true h
    show un (-9223372036854775808) ≤ _
    rw [un_min]; exact this
/-- any number of this half -/
theorem m_firstOf (r : Nat → VV) (p : Nat) (v u : Int64) (s : Bool) (hd : apart v u) : mat ((v &&& (9223372036854775807 : Int64)) ||| sg s) (u &&& (9223372036854775807 : Int64)) (f_M_end_ r p v u s true) ∧ ∀ n, kn (v, u, (r p).2.2) n → tb n 63 = s → kn (v, u, (r p).2.2) (f_M_end_ r p v u s true) ∧ un (f_M_end_ r p v u s true) ≤ un n := by
  rw [m_end, if_pos rfl]
  obtain ⟨g1, g2⟩ := m_up _ _ (mFrom (r p) s) (half_apart s hd)
  refine ⟨g1, fun n hn hs => ?_⟩
  obtain ⟨nm, n1, n2, n3, n4⟩ := id hn
  have n1 : un (r p).2.2.1 ≤ un n := n1
  have n3 : (r p).2.2.2.2.1.toInt ≤ n.toInt := n3
  have uf : un (mFrom (r p) s) = max (max (un (r p).2.2.1) (un (sg s))) (un (if s = decide ((r p).2.2.2.2.1 < 0) then (r p).2.2.2.2.1 else sg s)) := by
    unfold mFrom; rw [un_larger, un_larger]
  have hX : un (if s = decide ((r p).2.2.2.2.1 < 0) then (r p).2.2.2.2.1 else sg s) ≤ un n := by
    by_cases h : s = decide ((r p).2.2.2.2.1 < 0)
    · rw [if_pos h]
      rw [dneg_tb] at h
      exact (half_le (h.symm.trans hs.symm)).mpr n3
    · rw [if_neg h]; exact sg_le hs
  have hle : un (mFrom (r p) s) ≤ un n := by
    rw [uf]
    have := sg_le hs
    omega
  obtain ⟨q1, q2⟩ := g2 n (kn_half hn hs) hle
  refine ⟨?_, q2⟩
  generalize f_M_upFrom ((v &&& (9223372036854775807 : Int64)) ||| sg s) (u &&& (9223372036854775807 : Int64)) (mFrom (r p) s) = f at g1 q1 q2
  obtain ⟨hfs, hfb⟩ := (half_mat s).mp g1
  have e2 := (half_le (hfs.trans hs.symm)).mp q2
  rw [uf] at q1
  refine ⟨fun i hi ho => ?_, ?_, ?_, ?_, ?_⟩
  · by_cases h3 : i = 63
    · subst h3; rw [hfs, ← hs]; exact nm 63 hi ho
    · exact hfb i (by omega) ho
  · show un (r p).2.2.1 ≤ un f; omega
  · exact Nat.le_trans q2 n2
  · show (r p).2.2.2.2.1.toInt ≤ f.toInt
    by_cases h : s = decide ((r p).2.2.2.2.1 < 0)
    · rw [if_pos h] at q1
      rw [dneg_tb] at h
      exact (half_le (h.symm.trans hfs.symm)).mp (by omega)
    · rw [dneg_tb] at h
      cases s
      · have h1 : tb (r p).2.2.2.2.1 63 = true := by cases q : tb (r p).2.2.2.2.1 63 <;> simp [q] at h ⊢
        have := neg_ti h1
        have := nonneg_ti hfs
        omega
      · have h1 : tb (r p).2.2.2.2.1 63 = false := by cases q : tb (r p).2.2.2.2.1 63 <;> simp [q] at h ⊢
        have := nonneg_ti h1
        have := neg_ti hs
        omega
  · exact Int.le_trans e2 n4
theorem sgl_ge {n : Int64} {s : Bool} (h : tb n 63 = s) : un n ≤ un (if s then (-1 : Int64) else 9223372036854775807) := by
  have h1 := un_lt n
  cases s
  · rw [tb63] at h
    have := of_decide_eq_false h
    show _ ≤ un 9223372036854775807
    rw [un_max]; omega
  · show _ ≤ un (-1)
    rw [un_m1]; omega
theorem m_lastOf (r : Nat → VV) (p : Nat) (v u : Int64) (s : Bool) : mat ((v &&& (9223372036854775807 : Int64)) ||| sg s) (u &&& (9223372036854775807 : Int64)) (f_M_end_ r p v u s false) ∧ ∀ n, kn (v, u, (r p).2.2) n → tb n 63 = s → kn (v, u, (r p).2.2) (f_M_end_ r p v u s false) ∧ un n ≤ un (f_M_end_ r p v u s false) := by
  rw [m_end, if_neg (by decide)]
  obtain ⟨g1, g2⟩ := m_down ((v &&& (9223372036854775807 : Int64)) ||| sg s) (u &&& (9223372036854775807 : Int64)) (mTo (r p) s)
  refine ⟨g1, fun n hn hs => ?_⟩
  obtain ⟨nm, n1, n2, n3, n4⟩ := id hn
  have n2 : un n ≤ un (r p).2.2.2.1 := n2
  have n4 : n.toInt ≤ (r p).2.2.2.2.2.1.toInt := n4
  have uf : un (mTo (r p) s) = min (min (un (r p).2.2.2.1) (un (if s then (-1 : Int64) else 9223372036854775807))) (un (if s = decide ((r p).2.2.2.2.2.1 < 0) then (r p).2.2.2.2.2.1 else if s then (-1 : Int64) else 9223372036854775807)) := by
    unfold mTo; rw [un_lesser, un_lesser]
  have hX : un n ≤ un (if s = decide ((r p).2.2.2.2.2.1 < 0) then (r p).2.2.2.2.2.1 else if s then (-1 : Int64) else 9223372036854775807) := by
    by_cases h : s = decide ((r p).2.2.2.2.2.1 < 0)
    · rw [if_pos h]
      rw [dneg_tb] at h
      exact (half_le (hs.trans h)).mpr n4
    · rw [if_neg h]; exact sgl_ge hs
  have hle : un n ≤ un (mTo (r p) s) := by
    rw [uf]
    have := sgl_ge hs
    omega
  obtain ⟨q1, q2⟩ := g2 n (kn_half hn hs) hle
  refine ⟨?_, q1⟩
  generalize f_M_downFrom ((v &&& (9223372036854775807 : Int64)) ||| sg s) (u &&& (9223372036854775807 : Int64)) (mTo (r p) s) = f at g1 q1 q2
  obtain ⟨hfs, hfb⟩ := (half_mat s).mp g1
  have e2 := (half_le (hs.trans hfs.symm)).mp q1
  rw [uf] at q2
  refine ⟨fun i hi ho => ?_, ?_, ?_, ?_, ?_⟩
  · by_cases h3 : i = 63
    · subst h3; rw [hfs, ← hs]; exact nm 63 hi ho
    · exact hfb i (by omega) ho
  · exact Nat.le_trans n1 q1
  · show un f ≤ un (r p).2.2.2.1; omega
  · exact Int.le_trans n3 e2
  · show f.toInt ≤ (r p).2.2.2.2.2.1.toInt
    by_cases h : s = decide ((r p).2.2.2.2.2.1 < 0)
    · rw [if_pos h] at q2
      rw [dneg_tb] at h
      exact (half_le (hfs.trans h)).mp (by omega)
    · rw [dneg_tb] at h
      cases s
      · have h1 : tb (r p).2.2.2.2.2.1 63 = true := by cases q : tb (r p).2.2.2.2.2.1 63 <;> simp [q] at h ⊢
        have := neg_ti h1
        have := nonneg_ti hs
        omega
      · have h1 : tb (r p).2.2.2.2.2.1 63 = false := by cases q : tb (r p).2.2.2.2.2.1 63 <;> simp [q] at h ⊢
        have := nonneg_ti h1
        have := neg_ti hfs
        omega
theorem top_and (u : Int64) : u &&& (-9223372036854775808 : Int64) = 0 ↔ tb u 63 = false := by
  have ht : ∀ i, i < 64 → tb (-9223372036854775808) i = decide (i = 63) := fun i hi => by
    have := tb_sg true hi
    simpa [sg] using this
  constructor
  · intro h
    have := tb_eq0.mp h 63 (by omega)
    rw [tb_and, ht 63 (by omega)] at this
    simpa using this
  · intro h
    apply tb_eq0.mpr
    intro i hi
    rw [tb_and, ht i hi]
    by_cases q : i = 63
    · rw [q, h]; rfl
    · simp [q]
theorem m_has_eq (r : Nat → VV) (p : Nat) (v u : Int64) (s : Bool) : f_M_has1 r p v u s = ((tb u 63 || (tb v 63 == s)) && (if s then tb (r p).2.2.2.2.1 63 else !tb (r p).2.2.2.2.2.1 63) && f_M_has1_99v r p v u s (f_M_end_ r p v u s true)) := by
  unfold f_M_has1 f_M_has1_22 f_M_has1_27 f_M_has1_32 f_M_has1_74 f_M_has1_86
  have e1 := top_and u
  have e2 := neg_tb v
  have e3 := neg_tb (r p).2.2.2.2.1
  have e4 := neg_tb (r p).2.2.2.2.2.1
  generalize f_M_has1_99v r p v u s (f_M_end_ r p v u s true) = w
  cases h1 : tb u 63 <;> cases h2 : tb v 63 <;> cases h3 : tb (r p).2.2.2.2.1 63 <;> cases h4 : tb (r p).2.2.2.2.2.1 63 <;> rw [h1] at e1 <;> rw [h2] at e2 <;> rw [h3] at e3 <;> rw [h4] at e4 <;> cases s <;> simp [e1, e2, e3, e4, bI]
theorem m_chk (r : Nat → VV) (p : Nat) (v u : Int64) (s : Bool) (n : Int64) : f_M_has1_99v r p v u s n = true ↔ n &&& ((u ||| (-9223372036854775808 : Int64)) ^^^ (-1 : Int64)) = v &&& ((u ||| (-9223372036854775808 : Int64)) ^^^ (-1 : Int64)) ∧ un (r p).2.2.1 ≤ un n ∧ un n ≤ un (r p).2.2.2.1 ∧ (r p).2.2.2.2.1.toInt ≤ n.toInt ∧ n.toInt ≤ (r p).2.2.2.2.2.1.toInt := by
  unfold f_M_has1_99v f_M_has1_186
  by_cases h1 : n &&& ((u ||| (-9223372036854775808 : Int64)) ^^^ (-1 : Int64)) = v &&& ((u ||| (-9223372036854775808 : Int64)) ^^^ (-1 : Int64))
  · rw [if_pos h1]
    by_cases h2 : f_M_below n (r p).2.2.1 = true
    · rw [if_pos h2]
      have := (m_below1 _ _).mp h2
      exact ⟨fun q => (by cases q), fun ⟨_, q, _⟩ => (by omega)⟩
    · rw [if_neg h2]
      have h2' : ¬ un n < un (r p).2.2.1 := fun q => h2 ((m_below1 _ _).mpr q)
      by_cases h3 : f_M_below (r p).2.2.2.1 n = true
      · rw [if_pos h3]
        have := (m_below1 _ _).mp h3
        exact ⟨fun q => (by cases q), fun ⟨_, _, q, _⟩ => (by omega)⟩
      · rw [if_neg h3]
        have h3' : ¬ un (r p).2.2.2.1 < un n := fun q => h3 ((m_below1 _ _).mpr q)
        by_cases h4 : n < (r p).2.2.2.2.1
        · rw [if_pos h4]
          rw [lt_un] at h4
          exact ⟨fun q => (by cases q), fun ⟨_, _, _, q, _⟩ => (by omega)⟩
        · rw [if_neg h4]
          rw [lt_un] at h4
          by_cases h5 : (r p).2.2.2.2.2.1 < n
          · rw [if_pos h5]
            rw [lt_un] at h5
            exact ⟨fun q => (by cases q), fun ⟨_, _, _, _, q⟩ => (by omega)⟩
          · rw [if_neg h5]
            rw [lt_un] at h5
            exact ⟨fun _ => ⟨h1, by omega, by omega, by omega, by omega⟩, fun _ => rfl⟩
  · rw [if_neg h1]
    exact ⟨fun q => (by cases q), fun q => absurd q.1 h1⟩
theorem m_has (r : Nat → VV) (p : Nat) (v u : Int64) (s : Bool) (hd : apart v u) : f_M_has1 r p v u s = true ↔ ∃ n, kn (v, u, (r p).2.2) n ∧ tb n 63 = s := by
  rw [m_has_eq, Bool.and_eq_true, Bool.and_eq_true, m_chk]
  obtain ⟨a1, a2⟩ := m_firstOf r p v u s hd
  obtain ⟨has, hab⟩ := (half_mat s).mp a1
  have tTop : ∀ i, i < 64 → tb ((u ||| (-9223372036854775808 : Int64)) ^^^ (-1 : Int64)) i = (!tb u i && !decide (i = 63)) := fun i hi => by
    have := tb_sg true hi
    rw [tb_not _ hi, tb_or, show tb (-9223372036854775808) i = decide (i = 63) by simpa [sg] using this]
    cases tb u i <;> cases decide (i = 63) <;> rfl
  constructor
  · rintro ⟨⟨c1, -⟩, -, c2, c3, c4, c5⟩
    refine ⟨f_M_end_ r p v u s true, ⟨fun i hi ho => ?_, c2, c3, c4, c5⟩, has⟩
    by_cases h3 : i = 63
    · subst h3
      rw [has]
      have ho : tb u 63 = false := ho
      rw [ho] at c1
      show s = tb v 63
      cases s <;> cases h : tb v 63 <;> simp [h] at c1 ⊢
    · exact hab i (by omega) ho
  · rintro ⟨n, hn, hs⟩
    obtain ⟨hk, -⟩ := a2 n hn hs
    refine ⟨⟨?_, ?_⟩, ?_, hk.2.1, hk.2.2.1, hk.2.2.2.1, hk.2.2.2.2⟩
    · cases ho : tb u 63
      · have := hn.1 63 (by omega) ho
        have : tb n 63 = tb v 63 := this
        rw [← this, hs]; simp
      · rfl
    · have e3 : (r p).2.2.2.2.1.toInt ≤ n.toInt := hn.2.2.2.1
      have e4 : n.toInt ≤ (r p).2.2.2.2.2.1.toInt := hn.2.2.2.2
      cases s
      · show (!tb (r p).2.2.2.2.2.1 63) = true
        cases h : tb (r p).2.2.2.2.2.1 63
        · rfl
        · have := neg_ti h
          have := nonneg_ti hs
          omega
      · show tb (r p).2.2.2.2.1 63 = true
        cases h : tb (r p).2.2.2.2.1 63
        · have := nonneg_ti h
          have := neg_ti hs
          omega
        · rfl
    · apply tb_ext
      intro i hi
      rw [tb_and, tb_and, tTop i hi]
      cases ho : tb u i
      · by_cases h3 : i = 63
        · simp [h3]
        · rw [hab i (by omega) ho]
      · simp
theorem m_hasAny (r : Nat → VV) (p : Nat) (v u : Int64) (hd : apart v u) : f_M_hasAny r p v u = true ↔ ∃ n, kn (v, u, (r p).2.2) n := by
  unfold f_M_hasAny f_M_hasAny_24
  have h0 := m_has r p v u false hd
  have h1 := m_has r p v u true hd
  by_cases a : f_M_has1 r p v u false = true
  · rw [if_pos a]
    obtain ⟨n, hn, -⟩ := h0.mp a
    exact ⟨fun _ => ⟨n, hn⟩, fun _ => rfl⟩
  · rw [if_neg a]
    by_cases b : f_M_has1 r p v u true = true
    · rw [if_pos b]
      obtain ⟨n, hn, -⟩ := h1.mp b
      exact ⟨fun _ => ⟨n, hn⟩, fun _ => rfl⟩
    · rw [if_neg b]
      refine ⟨fun q => (by cases q), fun ⟨n, hn⟩ => ?_⟩
      cases h : tb n 63
      · exact absurd (h0.mpr ⟨n, hn, h⟩) a
      · exact absurd (h1.mpr ⟨n, hn, h⟩) b
