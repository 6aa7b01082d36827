/-! the class's tighten is exact -/
/-- z is tight, and S are its numbers -/
def tgt (S : Int64 → Prop) (z : VV) : Prop := (S z.2.2.1 ∧ S z.2.2.2.1 ∧ S z.2.2.2.2.1 ∧ S z.2.2.2.2.2.1) ∧ (∀ n, S n → un z.2.2.1 ≤ un n ∧ un n ≤ un z.2.2.2.1 ∧ z.2.2.2.2.1.toInt ≤ n.toInt ∧ n.toInt ≤ z.2.2.2.2.2.1.toInt) ∧ (∀ i, i < 64 → (tb z.2.1 i = true ↔ ∃ x y, S x ∧ S y ∧ tb x i ≠ tb y i)) ∧ (∀ n, S n → mat z.1 z.2.1 n) ∧ apart z.1 z.2.1 ∧ z.2.2.2.2.2.2 = false
theorem tgt_unique {S : Int64 → Prop} {y z : VV} (hy : tgt S y) (hz : tgt S z) : y = z := by
  obtain ⟨⟨y1, y2, y3, y4⟩, y5, y6, y7, y8, y9⟩ := hy
  obtain ⟨⟨z1, z2, z3, z4⟩, z5, z6, z7, z8, z9⟩ := hz
  have e3 : y.2.2.1 = z.2.2.1 := un_inj (Nat.le_antisymm (y5 _ z1).1 (z5 _ y1).1)
  have e4 : y.2.2.2.1 = z.2.2.2.1 := un_inj (Nat.le_antisymm (z5 _ y2).2.1 (y5 _ z2).2.1)
  have e5 : y.2.2.2.2.1 = z.2.2.2.2.1 := Int64.toInt_inj.mp (Int.le_antisymm (y5 _ z3).2.2.1 (z5 _ y3).2.2.1)
  have e6 : y.2.2.2.2.2.1 = z.2.2.2.2.2.1 := Int64.toInt_inj.mp (Int.le_antisymm (z5 _ y4).2.2.2 (y5 _ z4).2.2.2)
  have e2 : y.2.1 = z.2.1 := by
    apply tb_ext
    intro i hi
    have a := y6 i hi
    have b := z6 i hi
    cases h1 : tb y.2.1 i <;> cases h2 : tb z.2.1 i
    · rfl
    · exact absurd (a.mpr (b.mp h2)) (by rw [h1]; simp)
    · exact absurd (b.mpr (a.mp h1)) (by rw [h2]; simp)
    · rfl
  have e1 : y.1 = z.1 := by
    apply tb_ext
    intro i hi
    cases ho : tb y.2.1 i
    · rw [← y7 _ y1 i hi ho, ← z7 _ y1 i hi (by rw [← e2]; exact ho)]
    · rw [y8 i hi ho, z8 i hi (by rw [← e2]; exact ho)]
  obtain ⟨ya, yb, yc, yd, ye, yf, yg⟩ := y
  obtain ⟨za, zb, zc, zd, ze, zf, zg⟩ := z
  simp only at e1 e2 e3 e4 e5 e6 y9 z9
  subst e1; subst e2; subst e3; subst e4; subst e5; subst e6; subst y9; subst z9
  rfl
/-- what a half of numbers gives: its ends, and its open bits -/
theorem half_tgt {z : VV} (hd : apart z.1 z.2.1) (s : Bool) {n0 : Int64} (h0 : kn z n0) (hs : tb n0 63 = s) :
    ∃ a c o, a = f_V_firstOfHalf z (sg s) ∧ c = f_V_lastOfHalf z (sg s) ∧ o = f_V_openBetween z a c ∧ kn z a ∧ kn z c ∧ tb a 63 = s ∧ tb c 63 = s ∧ (∀ n, kn z n → tb n 63 = s → un a ≤ un n ∧ un n ≤ un c) ∧ ∀ i, i < 64 → (tb o i = true ↔ ∃ x y, kn z x ∧ kn z y ∧ tb x 63 = s ∧ tb y 63 = s ∧ tb x i ≠ tb y i) := by
  obtain ⟨a1, a2⟩ := n_firstOf z s hd
  obtain ⟨c1, c2⟩ := n_lastOf z s
  have ha := (a2 n0 h0 hs).1
  have hc := (c2 n0 h0 hs).1
  have has := ((half_mat s).mp a1).1
  have hcs := ((half_mat s).mp c1).1
  have hm : ∀ n, kn z n → tb n 63 = s → un (f_V_firstOfHalf z (sg s)) ≤ un n ∧ un n ≤ un (f_V_lastOfHalf z (sg s)) := fun n hn hns => ⟨(a2 n hn hns).2, (c2 n hn hns).2⟩
  exact ⟨_, _, _, rfl, rfl, rfl, ha, hc, has, hcs, hm, fun i hi => n_open z s ha hc has hcs hm i hi⟩
theorem half_holds {z : VV} (hd : apart z.1 z.2.1) (h9 : z.2.2.2.2.2.2 = false) (s : Bool) : f_V_holds z (f_V_firstOfHalf z (sg s)) = 0 ↔ ¬ ∃ n, kn z n ∧ tb n 63 = s := by
  obtain ⟨a1, a2⟩ := n_firstOf z s hd
  have has := ((half_mat s).mp a1).1
  rw [n_holds _ hd]
  by_cases h : kn z (f_V_firstOfHalf z (sg s))
  · rw [if_pos ⟨h9, h⟩]
    exact ⟨fun q => absurd q (by decide), fun q => absurd ⟨_, h, has⟩ q⟩
  · rw [if_neg (fun q => h q.2)]
    refine ⟨fun _ => ?_, fun _ => rfl⟩
    rintro ⟨n, hn, hs⟩
    exact h (a2 n hn hs).1
theorem say_eq (z : VV) (a c : Int64) : f_V_sayStretch z a c = (a &&& (f_V_openBetween z a c ^^^ (-1 : Int64)), f_V_openBetween z a c, a, c, a, c, z.2.2.2.2.2.2) := rfl
theorem stretch_tgt {z : VV} (s : Bool) (h9 : z.2.2.2.2.2.2 = false) {a c : Int64} (ha : kn z a) (hc : kn z c) (has : tb a 63 = s) (hcs : tb c 63 = s) (hm : ∀ n, kn z n → tb n 63 = s → un a ≤ un n ∧ un n ≤ un c) (ho : ∀ i, i < 64 → (tb (f_V_openBetween z a c) i = true ↔ ∃ x y, kn z x ∧ kn z y ∧ tb x 63 = s ∧ tb y 63 = s ∧ tb x i ≠ tb y i)) (hall : ∀ n, kn z n → tb n 63 = s) : tgt (kn z) (f_V_sayStretch z a c) := by
  rw [say_eq]
  refine ⟨⟨ha, hc, ha, hc⟩, fun n hn => ?_, fun i hi => ?_, fun n hn i hi hoi => ?_, fun i hi hoi => ?_, h9⟩
  · obtain ⟨q1, q2⟩ := hm n hn (hall n hn)
    exact ⟨q1, q2, (half_le (has.trans (hall n hn).symm)).mp q1, (half_le ((hall n hn).trans hcs.symm)).mp q2⟩
  · show tb (f_V_openBetween z a c) i = true ↔ _
    rw [ho i hi]
    exact ⟨fun ⟨x, y, q1, q2, _, _, q3⟩ => ⟨x, y, q1, q2, q3⟩, fun ⟨x, y, q1, q2, q3⟩ => ⟨x, y, q1, q2, hall x q1, hall y q2, q3⟩⟩
  · have hoi : tb (f_V_openBetween z a c) i = false := hoi
    show tb n i = tb (a &&& (f_V_openBetween z a c ^^^ (-1 : Int64))) i
    rw [tb_and, tb_not _ hi, hoi]
    apply Classical.byContradiction
    intro q
    have : tb (f_V_openBetween z a c) i = true := (ho i hi).mpr ⟨n, a, hn, ha, hall n hn, has, by intro w; apply q; rw [w]; simp⟩
    rw [hoi] at this; cases this
  · have hoi : tb (f_V_openBetween z a c) i = true := hoi
    show tb (a &&& (f_V_openBetween z a c ^^^ (-1 : Int64))) i = false
    rw [tb_and, tb_not _ hi, hoi]; simp
set_option maxHeartbeats 1000000 in
theorem n_tighten {z : VV} (hd : apart z.1 z.2.1) (h9 : z.2.2.2.2.2.2 = false) : ((∃ n, kn z n) → tgt (kn z) (f_V_tighten z)) ∧ ((¬ ∃ n, kn z n) → f_V_tighten z = (z.1, z.2.1, z.2.2.1, z.2.2.2.1, z.2.2.2.2.1, z.2.2.2.2.2.1, true)) := by
  have hp := half_holds hd h9 false
  have hm := half_holds hd h9 true
  have s0 : sg false = 0 := rfl
  have s1 : sg true = -9223372036854775808 := rfl
  have key : f_V_tighten z = f_V_tighten_51v z (f_V_holds z (f_V_firstOfHalf z (sg true))) (f_V_holds z (f_V_firstOfHalf z (sg false))) (f_V_lastOfHalf z (sg true)) (f_V_firstOfHalf z (sg true)) (f_V_lastOfHalf z (sg false)) (f_V_firstOfHalf z (sg false)) := by
    unfold f_V_tighten
    rw [if_pos (by rw [h9]; rfl)]
    rfl
  rw [key]
  unfold f_V_tighten_51v f_V_tighten_109
  by_cases a0 : ∃ n, kn z n ∧ tb n 63 = false
  · have b0 : ¬ f_V_holds z (f_V_firstOfHalf z (sg false)) = 0 := fun q => hp.mp q a0
    obtain ⟨n0, k0, t0⟩ := a0
    obtain ⟨a, c, o, ea, ec, eo, ha, hc, has, hcs, hmn, hop⟩ := half_tgt hd false k0 t0
    rw [if_neg b0]
    by_cases a1 : ∃ n, kn z n ∧ tb n 63 = true
    · have b1 : ¬ f_V_holds z (f_V_firstOfHalf z (sg true)) = 0 := fun q => hm.mp q a1
      obtain ⟨n1, k1, t1⟩ := a1
      obtain ⟨a', c', o', ea', ec', eo', ha', hc', has', hcs', hmn', hop'⟩ := half_tgt hd true k1 t1
      rw [if_neg b1]
      refine ⟨fun _ => ?_, fun q => absurd ⟨n0, k0⟩ q⟩
      rw [← ea, ← ec, ← ea', ← ec']
      have e1 : f_V_tighten_78v z (f_V_openBetween z a c ||| f_V_openBetween z a' c') c' a' c a = (a &&& (((f_V_openBetween z a c ||| f_V_openBetween z a' c') ||| (a ^^^ a')) ^^^ (-1 : Int64)), (f_V_openBetween z a c ||| f_V_openBetween z a' c') ||| (a ^^^ a'), a, c', a', c, z.2.2.2.2.2.2) := rfl
      rw [e1, ← eo, ← eo']
      have tu : ∀ i, i < 64 → (tb ((o ||| o') ||| (a ^^^ a')) i = true ↔ ∃ x y, kn z x ∧ kn z y ∧ tb x i ≠ tb y i) := fun i hi => by
        rw [tb_or, tb_or, tb_xor, Bool.or_eq_true, Bool.or_eq_true, hop i hi, hop' i hi]
        constructor
        · rintro ((⟨x, y, q1, q2, _, _, q3⟩ | ⟨x, y, q1, q2, _, _, q3⟩) | q)
          · exact ⟨x, y, q1, q2, q3⟩
          · exact ⟨x, y, q1, q2, q3⟩
          · refine ⟨a, a', ha, ha', fun w => ?_⟩
            rw [w] at q; simp at q
        · rintro ⟨x, y, q1, q2, q3⟩
          apply Classical.byContradiction
          intro w
          have w1 : ∀ u, kn z u → tb u i = tb a i := fun u hu => by
            cases hu3 : tb u 63
            · apply Classical.byContradiction
              intro v
              exact w (Or.inl (Or.inl ⟨u, a, hu, ha, hu3, has, v⟩))
            · have v1 : tb u i = tb a' i := by
                apply Classical.byContradiction
                intro v
                exact w (Or.inl (Or.inr ⟨u, a', hu, ha', hu3, has', v⟩))
              have v2 : tb a i = tb a' i := by
                apply Classical.byContradiction
                intro v
                apply w
                right
                cases e1 : tb a i <;> cases e2 : tb a' i <;> simp [e1, e2] at v ⊢
              rw [v1, v2]
          rw [w1 x q1, w1 y q2] at q3
          exact q3 rfl
      refine ⟨⟨ha, hc', ha', hc⟩, fun n hn => ?_, tu, fun n hn i hi hoi => ?_, fun i hi hoi => ?_, h9⟩
      · show un a ≤ un n ∧ un n ≤ un c' ∧ a'.toInt ≤ n.toInt ∧ n.toInt ≤ c.toInt
        have l1 := un_lt n
        have l2 := un_lt a
        have l3 := un_lt c
        have l4 := un_lt a'
        have l5 := un_lt c'
        have d1 := tb63 n
        have d2 := tb63 a
        have d3 := tb63 c
        have d4 := tb63 a'
        have d5 := tb63 c'
        rw [has] at d2; rw [hcs] at d3; rw [has'] at d4; rw [hcs'] at d5
        have f2 : ¬ 2 ^ 63 ≤ un a := fun q => by simp [q] at d2
        have f3 : ¬ 2 ^ 63 ≤ un c := fun q => by simp [q] at d3
        have f4 : 2 ^ 63 ≤ un a' := Classical.byContradiction fun q => by simp [q] at d4
        have f5 : 2 ^ 63 ≤ un c' := Classical.byContradiction fun q => by simp [q] at d5
        have g1 := ti_un n
        have g2 := ti_un c
        have g3 := ti_un a'
        cases hn3 : tb n 63
        · obtain ⟨q1, q2⟩ := hmn n hn hn3
          rw [hn3] at d1
          have f1 : ¬ 2 ^ 63 ≤ un n := fun q => by simp [q] at d1
          refine ⟨q1, by omega, by omega, by omega⟩
        · obtain ⟨q1, q2⟩ := hmn' n hn hn3
          rw [hn3] at d1
          have f1 : 2 ^ 63 ≤ un n := Classical.byContradiction fun q => by simp [q] at d1
          refine ⟨by omega, q2, by omega, by omega⟩
      · have hoi : tb ((o ||| o') ||| (a ^^^ a')) i = false := hoi
        show tb n i = tb (a &&& (((o ||| o') ||| (a ^^^ a')) ^^^ (-1 : Int64))) i
        rw [tb_and, tb_not _ hi, hoi]
        apply Classical.byContradiction
        intro q
        have : tb ((o ||| o') ||| (a ^^^ a')) i = true := (tu i hi).mpr ⟨n, a, hn, ha, by intro w; apply q; rw [w]; simp⟩
        rw [hoi] at this; cases this
      · have hoi : tb ((o ||| o') ||| (a ^^^ a')) i = true := hoi
        show tb (a &&& (((o ||| o') ||| (a ^^^ a')) ^^^ (-1 : Int64))) i = false
        rw [tb_and, tb_not _ hi, hoi]; simp
    · have b1 : f_V_holds z (f_V_firstOfHalf z (sg true)) = 0 := hm.mpr a1
      rw [if_pos b1, if_neg b0]
      refine ⟨fun _ => ?_, fun q => absurd ⟨n0, k0⟩ q⟩
      have hall : ∀ n, kn z n → tb n 63 = false := fun n hn => by
        cases h : tb n 63
        · rfl
        · exact absurd ⟨n, hn, h⟩ a1
      rw [← ea, ← ec]
      exact stretch_tgt false h9 ha hc has hcs hmn (by rw [← eo]; exact hop) hall
  · have b0 : f_V_holds z (f_V_firstOfHalf z (sg false)) = 0 := hp.mpr a0
    rw [if_pos b0, if_pos b0]
    have hall : ∀ n, kn z n → tb n 63 = true := fun n hn => by
      cases h : tb n 63
      · exact absurd ⟨n, hn, h⟩ a0
      · rfl
    by_cases a1 : ∃ n, kn z n ∧ tb n 63 = true
    · have b1 : ¬ f_V_holds z (f_V_firstOfHalf z (sg true)) = 0 := fun q => hm.mp q a1
      obtain ⟨n1, k1, t1⟩ := a1
      obtain ⟨a', c', o', ea', ec', eo', ha', hc', has', hcs', hmn', hop'⟩ := half_tgt hd true k1 t1
      rw [if_neg b1]
      refine ⟨fun _ => ?_, fun q => absurd ⟨n1, k1⟩ q⟩
      rw [← ea', ← ec']
      exact stretch_tgt true h9 ha' hc' has' hcs' hmn' (by rw [← eo']; exact hop') hall
    · have b1 : f_V_holds z (f_V_firstOfHalf z (sg true)) = 0 := hm.mpr a1
      rw [if_pos b1]
      refine ⟨fun ⟨n, hn⟩ => absurd ⟨n, hn, hall n hn⟩ a1, fun _ => rfl⟩
