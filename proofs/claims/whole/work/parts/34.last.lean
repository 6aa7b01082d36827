/-! the last of a half; which bits a half leaves -/
theorem un_not (x : Int64) : un (x ^^^ (-1 : Int64)) = 2 ^ 64 - 1 - un x := by
  have h := un_lt x
  rw [show 2 ^ 64 - 1 - un x = 2 ^ 64 - (un x + 1) by omega]
  apply Nat.eq_of_testBit_eq
  intro i
  rw [Nat.testBit_two_pow_sub_succ h]
  show tb (x ^^^ (-1 : Int64)) i = _
  by_cases hi : i < 64
  · rw [tb_not _ hi]; simp [hi, tb_un]
  · rw [tb_big (by omega)]; simp [hi]
theorem not_not9 (x : Int64) : (x ^^^ (-1 : Int64)) ^^^ (-1 : Int64) = x := tb_ext (fun i hi => by rw [tb_not _ hi, tb_not _ hi, Bool.not_not])
theorem mat_not {b o n : Int64} : mat ((b ^^^ (-1 : Int64)) &&& (o ^^^ (-1 : Int64))) o (n ^^^ (-1 : Int64)) ↔ mat b o n := by
  constructor
  · intro h i hi ho
    have := h i hi ho
    rw [tb_and, tb_not _ hi, tb_not _ hi, tb_not _ hi, ho] at this
    cases hn : tb n i <;> cases hb : tb b i <;> simp [hn, hb] at this ⊢
  · intro h i hi ho
    rw [tb_and, tb_not _ hi, tb_not _ hi, tb_not _ hi, ho, h i hi ho]; simp
theorem apart_not {b o : Int64} : apart ((b ^^^ (-1 : Int64)) &&& (o ^^^ (-1 : Int64))) o := fun i hi ho => by
  rw [tb_and, tb_not _ hi, tb_not _ hi, ho]; simp
theorem n_lastOf (z : VV) (s : Bool) : mat ((z.1 &&& (9223372036854775807 : Int64)) ||| sg s) (z.2.1 &&& (9223372036854775807 : Int64)) (f_V_lastOfHalf z (sg s)) ∧ ∀ n, kn z n → tb n 63 = s → kn z (f_V_lastOfHalf z (sg s)) ∧ un n ≤ un (f_V_lastOfHalf z (sg s)) := by
  unfold f_V_lastOfHalf f_V_lastOfHalf_19v f_V_lastOfHalf_28v f_V_lastOfHalf_51v
  generalize hf : f_N_less z.2.2.2.1 (jmmin z.2.2.2.2.2.1 (sg s ||| (9223372036854775807 : Int64))) = to9
  obtain ⟨g1, g2⟩ := n_first (to9 ^^^ (-1 : Int64)) _ _ (apart_not (b := (z.1 &&& (9223372036854775807 : Int64)) ||| sg s) (o := z.2.1 &&& (9223372036854775807 : Int64)))
  generalize f_N_firstFrom (to9 ^^^ (-1 : Int64)) ((((z.1 &&& (9223372036854775807 : Int64)) ||| sg s) ^^^ (-1 : Int64)) &&& ((z.2.1 &&& (9223372036854775807 : Int64)) ^^^ (-1 : Int64))) (z.2.1 &&& (9223372036854775807 : Int64)) = F at g1 g2
  have gm : mat ((z.1 &&& (9223372036854775807 : Int64)) ||| sg s) (z.2.1 &&& (9223372036854775807 : Int64)) (F ^^^ (-1 : Int64)) := by
    apply mat_not.mp
    rw [not_not9]; exact g1
  refine ⟨gm, fun n hn hs => ?_⟩
  have uf : un to9 = min (un z.2.2.2.1) (un (jmmin z.2.2.2.2.2.1 (sg s ||| (9223372036854775807 : Int64)))) := by rw [← hf, un_less]
  have hj := jmin_ti z.2.2.2.2.2.1 (sg s ||| (9223372036854775807 : Int64))
  obtain ⟨nm, n1, n2, n3, n4⟩ := id hn
  have hl1 := un_lt n
  have hl2 := un_lt (jmmin z.2.2.2.2.2.1 (sg s ||| (9223372036854775807 : Int64)))
  have hl3 := un_lt z.2.2.2.2.2.1
  have tn := ti_un n
  have tj := ti_un (jmmin z.2.2.2.2.2.1 (sg s ||| (9223372036854775807 : Int64)))
  have tl := ti_un z.2.2.2.2.2.1
  have h63 := tb63 n
  rw [hs] at h63
  have hle : un n ≤ un to9 := by
    rw [uf]
    cases s
    · have hsg : (sg false ||| (9223372036854775807 : Int64)).toInt = 9223372036854775807 := by decide
      rw [hsg] at hj
      have : ¬ 2 ^ 63 ≤ un n := by intro q; simp [q] at h63
      omega
    · have hsg : (sg true ||| (9223372036854775807 : Int64)).toInt = -1 := by decide
      rw [hsg] at hj
      have : 2 ^ 63 ≤ un n := by
        apply Classical.byContradiction
        intro q; simp [q] at h63
      omega
  have hlt := un_lt to9
  obtain ⟨q1, q2⟩ := g2 (n ^^^ (-1 : Int64)) (mat_not.mpr (kn_half hn hs)) (by rw [un_not, un_not]; omega)
  have hlF := un_lt F
  rw [un_not] at q1 q2
  have uF := un_not F
  generalize F ^^^ (-1 : Int64) = f at gm uF
  refine ⟨?_, by omega⟩
  obtain ⟨hfs, hfb⟩ := (half_mat s).mp gm
  have e2 := (half_le (hs.trans hfs.symm)).mp (by omega)
  have tf := ti_un f
  have h63f := tb63 f
  rw [hfs] at h63f
  have hlf := un_lt f
  refine ⟨fun i hi ho => ?_, by omega, by omega, by omega, ?_⟩
  · by_cases h3 : i = 63
    · subst h3; rw [hfs, ← hs]; exact nm 63 hi ho
    · exact hfb i (by omega) ho
  · cases s
    · have hsg : (sg false ||| (9223372036854775807 : Int64)).toInt = 9223372036854775807 := by decide
      rw [hsg] at hj
      have : ¬ 2 ^ 63 ≤ un f := by intro q; simp [q] at h63f
      have : ¬ 2 ^ 63 ≤ un n := by intro q; simp [q] at h63
      omega
    · have hsg : (sg true ||| (9223372036854775807 : Int64)).toInt = -1 := by decide
      rw [hsg] at hj
      have : 2 ^ 63 ≤ un f := by
        apply Classical.byContradiction
        intro q; simp [q] at h63f
      omega
/-- a number by its bits -/
theorem nat_bits (g : Nat → Bool) : ∀ n, ∃ x, x < 2 ^ n ∧ ∀ i, i < n → x.testBit i = g i
  | 0 => ⟨0, by decide, fun i hi => by omega⟩
  | n + 1 => by
    obtain ⟨x, h1, h2⟩ := nat_bits g n
    refine ⟨2 ^ n * (g n).toNat + x, ?_, fun i hi => ?_⟩
    · rw [Nat.pow_succ]
      cases g n
      · show 2 ^ n * 0 + x < _; omega
      · show 2 ^ n * 1 + x < _; omega
    · rw [Nat.testBit_two_pow_mul_add _ h1]
      by_cases hi2 : i < n
      · rw [if_pos hi2]; exact h2 i hi2
      · have : i = n := by omega
        subst this
        rw [if_neg hi2, Nat.sub_self]
        cases g i <;> rfl
theorem mk_bits (g : Nat → Bool) : ∃ x : Int64, ∀ i, i < 64 → tb x i = g i := by
  obtain ⟨x, h1, h2⟩ := nat_bits g 64
  refine ⟨Int64.ofNat x, fun i hi => ?_⟩
  rw [← h2 i hi, tb_un]
  congr 1
  show x % 2 ^ 64 = x
  exact Nat.mod_eq_of_lt h1
/-- between two numbers that are alike above t, all are alike there -/
theorem prefix9 {a x c : Int64} {t : Nat} (h1 : un a ≤ un x) (h2 : un x ≤ un c) (h : ∀ j, t < j → j < 64 → tb a j = tb c j) : ∀ j, t < j → j < 64 → tb x j = tb a j := by
  intro j hj hj2
  by_cases hx : x = a
  · rw [hx]
  obtain ⟨e, he, hd, hu⟩ := top_diff hx
  by_cases het : e ≤ t
  · exact hu j (by omega) hj2
  · exfalso
    cases hxe : tb x e
    · cases hae : tb a e
      · rw [hxe, hae] at hd; exact hd rfl
      · have := un_lt_of hxe hae hu
        omega
    · cases hae : tb a e
      · have hce : tb c e = false := by rw [← h e (by omega) he]; exact hae
        have := un_lt_of hce hxe (fun q a1 a2 => by rw [← h q (by omega) a2, hu q a1 a2])
        omega
      · rw [hxe, hae] at hd; exact hd rfl
theorem n_open (z : VV) (s : Bool) {a c : Int64} (ha : kn z a) (hc : kn z c) (has : tb a 63 = s) (hcs : tb c 63 = s) (hmin : ∀ n, kn z n → tb n 63 = s → un a ≤ un n ∧ un n ≤ un c) (i : Nat) (hi : i < 64) : tb (f_V_openBetween z a c) i = true ↔ ∃ x y, kn z x ∧ kn z y ∧ tb x 63 = s ∧ tb y 63 = s ∧ tb x i ≠ tb y i := by
  unfold f_V_openBetween
  rw [tb_and, Bool.and_eq_true, n_uth]
  constructor
  · rintro ⟨hu, j, hij, hj⟩
    have hne : a ≠ c := by
      intro q
      rw [q, tb_xor] at hj
      simp at hj
    obtain ⟨t, ht, htd, hta⟩ := top_diff hne
    have hjt : j ≤ t := by
      apply Classical.byContradiction
      intro q
      have hj64 : j < 64 := by
        rcases Nat.lt_or_ge j 64 with w | w
        · exact w
        · rw [tb_big w] at hj; cases hj
      rw [tb_xor, hta j (by omega) hj64] at hj
      simp at hj
    have hut : tb z.2.1 t = true := by
      cases h : tb z.2.1 t
      · exact absurd ((ha.1 t ht h).trans (hc.1 t ht h).symm) htd
      · rfl
    have ht63 : t ≠ 63 := by intro q; subst q; exact htd (has.trans hcs.symm)
    have hac := (hmin c hc hcs).1
    have hat : tb a t = false ∧ tb c t = true := by
      cases h1 : tb a t <;> cases h2 : tb c t
      · rw [h1, h2] at htd; exact absurd rfl htd
      · exact ⟨rfl, rfl⟩
      · have := un_lt_of h2 h1 (fun q a1 a2 => (hta q a1 a2).symm)
        omega
      · rw [h1, h2] at htd; exact absurd rfl htd
    obtain ⟨m1, hm1⟩ := mk_bits (fun k => if t < k then tb a k else if k = t then false else (tb z.2.1 k || tb z.1 k))
    obtain ⟨m2, hm2⟩ := mk_bits (fun k => if t < k then tb a k else if k = t then true else (!tb z.2.1 k && tb z.1 k))
    have p1 : mat ((z.1 &&& (9223372036854775807 : Int64)) ||| sg s) (z.2.1 &&& (9223372036854775807 : Int64)) m1 := by
      rw [half_mat]
      refine ⟨by rw [hm1 63 (by omega), if_pos (by omega)]; exact has, fun k hk ho => ?_⟩
      rw [hm1 k (by omega)]
      by_cases h1 : t < k
      · rw [if_pos h1]; exact ha.1 k (by omega) ho
      · rw [if_neg h1]
        by_cases h2 : k = t
        · rw [h2, hut] at ho; cases ho
        · rw [if_neg h2, ho]; simp
    have p2 : mat ((z.1 &&& (9223372036854775807 : Int64)) ||| sg s) (z.2.1 &&& (9223372036854775807 : Int64)) m2 := by
      rw [half_mat]
      refine ⟨by rw [hm2 63 (by omega), if_pos (by omega)]; exact has, fun k hk ho => ?_⟩
      rw [hm2 k (by omega)]
      by_cases h1 : t < k
      · rw [if_pos h1]; exact ha.1 k (by omega) ho
      · rw [if_neg h1]
        by_cases h2 : k = t
        · rw [h2, hut] at ho; cases ho
        · rw [if_neg h2, ho]; simp
    have b1 : un a ≤ un m1 := by
      apply Nat.le_of_not_lt
      intro q
      obtain ⟨e, he, h1, h2, h3⟩ := un_lt_iff.mp q
      rw [hm1 e he] at h1
      by_cases w : t < e
      · rw [if_pos w, h2] at h1; cases h1
      · rw [if_neg w] at h1
        by_cases v : e = t
        · rw [v, hat.1] at h2; cases h2
        · rw [if_neg v, Bool.or_eq_false_iff] at h1
          rw [ha.1 e he h1.1, h1.2] at h2; cases h2
    have b2 : un m1 ≤ un c := Nat.le_of_lt (un_lt_of (i := t) (by rw [hm1 t ht, if_neg (by omega), if_pos rfl]) hat.2 (fun q a1 a2 => by rw [hm1 q a2, if_pos a1]; exact hta q a1 a2))
    have b3 : un a ≤ un m2 := Nat.le_of_lt (un_lt_of (i := t) hat.1 (by rw [hm2 t ht, if_neg (by omega), if_pos rfl]) (fun q a1 a2 => by rw [hm2 q a2, if_pos a1]))
    have b4 : un m2 ≤ un c := by
      apply Nat.le_of_not_lt
      intro q
      obtain ⟨e, he, h1, h2, h3⟩ := un_lt_iff.mp q
      rw [hm2 e he] at h2
      by_cases w : t < e
      · rw [if_pos w, hta e w he, h1] at h2; cases h2
      · rw [if_neg w] at h2
        by_cases v : e = t
        · rw [v, hat.2] at h1; cases h1
        · rw [if_neg v, Bool.and_eq_true] at h2
          have ho : tb z.2.1 e = false := by cases h : tb z.2.1 e <;> simp [h] at h2 ⊢
          rw [hc.1 e he ho, h2.2] at h1; cases h1
    refine ⟨m1, m2, kn_mid ha hc has hcs p1 b1 b2, kn_mid ha hc has hcs p2 b3 b4, ((half_mat s).mp p1).1, ((half_mat s).mp p2).1, ?_⟩
    have hti : ¬ t < i := by omega
    by_cases h2 : i = t
    · rw [hm1 i hi, hm2 i hi, if_neg hti, if_neg hti, if_pos h2, if_pos h2]; simp
    · rw [hm1 i hi, hm2 i hi, if_neg hti, if_neg hti, if_neg h2, if_neg h2, hu]; simp
  · rintro ⟨x, y, hx, hy, hxs, hys, hd⟩
    have hu : tb z.2.1 i = true := by
      cases h : tb z.2.1 i
      · exact absurd ((hx.1 i hi h).trans (hy.1 i hi h).symm) hd
      · rfl
    refine ⟨hu, ?_⟩
    obtain ⟨x1, x2⟩ := hmin x hx hxs
    obtain ⟨y1, y2⟩ := hmin y hy hys
    have hne : a ≠ c := by
      intro q
      subst q
      have e1 : x = a := un_inj (by omega)
      have e2 : y = a := un_inj (by omega)
      rw [e1, e2] at hd; exact hd rfl
    obtain ⟨t, ht, htd, hta⟩ := top_diff hne
    refine ⟨t, ?_, ?_⟩
    · apply Classical.byContradiction
      intro q
      have h1 := prefix9 x1 x2 hta i (by omega) hi
      have h2 := prefix9 y1 y2 hta i (by omega) hi
      rw [h1, h2] at hd; exact hd rfl
    · rw [tb_xor]
      cases h1 : tb a t <;> cases h2 : tb c t <;> simp [h1, h2] at htd ⊢
