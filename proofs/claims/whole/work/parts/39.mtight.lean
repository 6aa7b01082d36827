/-! the reference's tighten is the class's -/
noncomputable def exB (P : Prop) : Bool := @decide P (Classical.propDecidable P)
theorem exB_iff (P : Prop) : exB P = true ↔ P := @decide_eq_true_iff P (Classical.propDecidable P)
theorem exB_false {P : Prop} (h : ¬ P) : exB P = false := by
  cases hb : exB P
  · rfl
  · exact absurd ((exB_iff P).mp hb) h
theorem up_up {α : Type} (f : Nat → α) (k : Nat) (v w : α) : va_up (va_up f k v) k w = va_up f k w := by
  funext j; by_cases h : j = k <;> simp [va_up, h]
theorem up_at {α : Type} (f : Nat → α) (k : Nat) (v : α) : va_up f k v k = v := by simp [va_up]
theorem up_id {α : Type} (f : Nat → α) (k : Nat) : va_up f k (f k) = f := by
  funext j; by_cases h : j = k <;> simp [va_up, h]
theorem u1_up (r : Nat → VV) (p : Nat) (z : VV) (x : Int64) : u1 (va_up r p z) p x = va_up r p (x, z.2.1, z.2.2.1, z.2.2.2.1, z.2.2.2.2.1, z.2.2.2.2.2.1, z.2.2.2.2.2.2) := by unfold u1; rw [up_up, up_at]
theorem u2_up (r : Nat → VV) (p : Nat) (z : VV) (x : Int64) : u2 (va_up r p z) p x = va_up r p (z.1, x, z.2.2.1, z.2.2.2.1, z.2.2.2.2.1, z.2.2.2.2.2.1, z.2.2.2.2.2.2) := by unfold u2; rw [up_up, up_at]
theorem u3_up (r : Nat → VV) (p : Nat) (z : VV) (x : Int64) : u3 (va_up r p z) p x = va_up r p (z.1, z.2.1, x, z.2.2.2.1, z.2.2.2.2.1, z.2.2.2.2.2.1, z.2.2.2.2.2.2) := by unfold u3; rw [up_up, up_at]
theorem u4_up (r : Nat → VV) (p : Nat) (z : VV) (x : Int64) : u4 (va_up r p z) p x = va_up r p (z.1, z.2.1, z.2.2.1, x, z.2.2.2.2.1, z.2.2.2.2.2.1, z.2.2.2.2.2.2) := by unfold u4; rw [up_up, up_at]
theorem u5_up (r : Nat → VV) (p : Nat) (z : VV) (x : Int64) : u5 (va_up r p z) p x = va_up r p (z.1, z.2.1, z.2.2.1, z.2.2.2.1, x, z.2.2.2.2.2.1, z.2.2.2.2.2.2) := by unfold u5; rw [up_up, up_at]
theorem u6_up (r : Nat → VV) (p : Nat) (z : VV) (x : Int64) : u6 (va_up r p z) p x = va_up r p (z.1, z.2.1, z.2.2.1, z.2.2.2.1, z.2.2.2.2.1, x, z.2.2.2.2.2.2) := by unfold u6; rw [up_up, up_at]
theorem mt_end (r : Nat → VV) (p : Nat) (b o : Int64) (t : Int64 × Int64 × Int64 × Int64 × Bool) (v153 v132 v119 v106 : Int64) : f_M_tighten_303u r p v153 v132 v119 (u3 (va_up r p (b, o, t)) p v106) = va_up r p (b, o, v106, v119, v132, v153, t.2.2.2.2) := by
  unfold f_M_tighten_303u f_M_tighten_311u f_M_tighten_319u f_M_tighten_327u
  rw [u3_up, u4_up, u5_up, u6_up]
theorem mt_step (r : Nat → VV) (p : Nat) (n : Nat) (k : Int32) (a b c d u v : Int64) (R : Nat → VV) (hk : ¬ 64 ≤ k) : f_M_tighten_158 r p (n + 1) k a b c d u v R = f_M_tighten_169v r p k a b c d u v R (fun y0 y1 y2 y3 y4 y5 y6 y7 => f_M_tighten_158 r p n y0 y1 y2 y3 y4 y5 y6 y7) ((1 : Int64) <<< (k.toInt64 &&& 63)) := by
  rw [f_M_tighten_158, if_neg hk]
theorem mt_stop (r : Nat → VV) (p : Nat) (n : Nat) (k : Int32) (a b c d u v : Int64) (R : Nat → VV) (hk : 64 ≤ k) : f_M_tighten_158 r p (n + 1) k a b c d u v R = f_M_tighten_303u r p a b c (u3 R p d) := by
  rw [f_M_tighten_158, if_pos hk]
/-- one turn of the loop -/
theorem mt_body (r : Nat → VV) (p : Nat) (k : Int32) (a b c d u v : Int64) (kk : Int32 → Int64 → Int64 → Int64 → Int64 → Int64 → Int64 → (Nat → VV) → (Nat → VV)) (bt : Int64) (x o : Int64) (t : Int64 × Int64 × Int64 × Int64 × Bool) : f_M_tighten_169v r p k a b c d u v (va_up r p (x, o, t)) kk bt = if u &&& bt = 0 then kk (k + 1) a b c d u v (va_up r p (x, o, t)) else kk (k + 1) a b c d u v (va_up r p ((if f_M_hasAny (va_up r p (x, o, t)) p (v ||| bt) (u &&& (bt ^^^ (-1 : Int64))) = true then (if f_M_hasAny (va_up r p (x, o, t)) p v (u &&& (bt ^^^ (-1 : Int64))) = true then x else x ||| bt) else x), (if f_M_hasAny (va_up r p (x, o, t)) p v (u &&& (bt ^^^ (-1 : Int64))) = true then (if f_M_hasAny (va_up r p (x, o, t)) p (v ||| bt) (u &&& (bt ^^^ (-1 : Int64))) = true then o else o &&& (bt ^^^ (-1 : Int64))) else o &&& (bt ^^^ (-1 : Int64))), t)) := by
  unfold f_M_tighten_169v
  by_cases h0 : u &&& bt = 0
  · rw [if_pos h0, if_pos h0]; rfl
  rw [if_neg h0, if_neg h0]
  unfold f_M_tighten_196v f_M_tighten_216v f_M_tighten_242 f_M_tighten_255 f_M_tighten_255u f_M_tighten_283 f_M_tighten_289 f_M_tighten_289u f_M_tighten_290
  by_cases h1 : f_M_hasAny (va_up r p (x, o, t)) p v (u &&& (bt ^^^ (-1 : Int64))) = true <;> by_cases h2 : f_M_hasAny (va_up r p (x, o, t)) p (v ||| bt) (u &&& (bt ^^^ (-1 : Int64))) = true <;> simp only [h1, h2, if_true, if_false, u2_up, u1_up, up_at] <;> rfl
theorem up64 : ∀ K, K < 64 → ¬ (64 : Int32) ≤ nI (63 - K) ∧ nI (63 - K) + 1 = nI (64 - K) := by decide +kernel
set_option maxHeartbeats 1000000 in
theorem mt_loop (r : Nat → VV) (p : Nat) (a b c d u v : Int64) (t : Int64 × Int64 × Int64 × Int64 × Bool) (hd : apart v u) : ∀ (K : Nat), K ≤ 64 → ∀ (n : Nat) (x o : Int64), K < n →
    (∀ i, i < 64 → tb o i = if i < 64 - K then (tb u i && (exB (∃ m, kn (v, u, t) m ∧ tb m i = false) && exB (∃ m, kn (v, u, t) m ∧ tb m i = true))) else tb u i) →
    (∀ i, i < 64 → tb x i = if i < 64 - K then (tb v i || (tb u i && (exB (∃ m, kn (v, u, t) m ∧ tb m i = true) && !exB (∃ m, kn (v, u, t) m ∧ tb m i = false)))) else tb v i) →
    ∃ B O : Int64, f_M_tighten_158 r p n (nI (64 - K)) a b c d u v (va_up r p (x, o, t)) = va_up r p (B, O, d, c, b, a, t.2.2.2.2) ∧ (∀ i, i < 64 → tb O i = (tb u i && (exB (∃ m, kn (v, u, t) m ∧ tb m i = false) && exB (∃ m, kn (v, u, t) m ∧ tb m i = true)))) ∧ (∀ i, i < 64 → tb B i = (tb v i || (tb u i && (exB (∃ m, kn (v, u, t) m ∧ tb m i = true) && !exB (∃ m, kn (v, u, t) m ∧ tb m i = false)))))
  | 0, _, 0, _, _, hn, _, _ => by omega
  | 0, _, n + 1, x, o, _, ho, hx => by
    rw [mt_stop _ _ _ _ _ _ _ _ _ _ _ (by decide), mt_end]
    exact ⟨x, o, rfl, fun i hi => by rw [ho i hi, if_pos (by omega)], fun i hi => by rw [hx i hi, if_pos (by omega)]⟩
  | K + 1, hK, 0, _, _, hn, _, _ => by omega
  | K + 1, hK, n + 1, x, o, hn, ho, hx => by
    obtain ⟨e1, e2⟩ := up64 K (by omega)
    have ek : 64 - (K + 1) = 63 - K := by omega
    rw [ek] at ho hx ⊢
    rw [mt_step _ _ _ _ _ _ _ _ _ _ _ e1, mt_body, e2]
    have hq : 63 - K < 64 := by omega
    have tbit : ∀ i, i < 64 → tb ((1 : Int64) <<< ((nI (63 - K)).toInt64 &&& 63)) i = decide (i = 63 - K) := fun i hi => tb_bit (63 - K) hq i hi
    generalize (1 : Int64) <<< ((nI (63 - K)).toInt64 &&& 63) = bit at tbit
    have ih := mt_loop r p a b c d u v t hd K (by omega) n
    have es : 64 - K = (63 - K) + 1 := by omega
    rw [es] at ih ⊢
    clear e1 e2 ek es
    generalize 63 - K = q at hq tbit ho hx ih ⊢
    by_cases hu : tb u q = true
    · have h1 : ¬ u &&& bit = 0 := fun w => by
        have := tb_eq0.mp w q hq
        rw [tb_and, hu, tbit q hq] at this
        simp at this
      rw [if_neg h1]
      have hvq : tb v q = false := hd q hq hu
      have tu' : ∀ i, i < 64 → tb (u &&& (bit ^^^ (-1 : Int64))) i = (tb u i && !decide (i = q)) := fun i hi => by rw [tb_and, tb_not _ hi, tbit i hi]
      have tv' : ∀ i, i < 64 → tb (v ||| bit) i = (tb v i || decide (i = q)) := fun i hi => by rw [tb_or, tbit i hi]
      have ap0 : apart v (u &&& (bit ^^^ (-1 : Int64))) := fun i hi w => hd i hi (by rw [tu' i hi] at w; cases h : tb u i <;> simp [h] at w ⊢)
      have ap1 : apart (v ||| bit) (u &&& (bit ^^^ (-1 : Int64))) := fun i hi w => by
        rw [tu' i hi] at w
        have h3 : tb u i = true := by cases h : tb u i <;> simp [h] at w ⊢
        have h4 : ¬ i = q := fun z => by rw [h3] at w; simp [z] at w
        rw [tv' i hi, hd i hi h3]; simp [h4]
      have z0 : f_M_hasAny (va_up r p (x, o, t)) p v (u &&& (bit ^^^ (-1 : Int64))) = exB (∃ m, kn (v, u, t) m ∧ tb m q = false) := by
        have h := m_hasAny (va_up r p (x, o, t)) p v _ ap0
        rw [up_at] at h
        apply Bool.eq_iff_iff.mpr
        rw [h, exB_iff]
        constructor
        · rintro ⟨m, hm⟩
          refine ⟨m, ⟨fun i hi w => hm.1 i hi (by show tb (u &&& (bit ^^^ (-1 : Int64))) i = false; rw [tu' i hi]; have w : tb u i = false := w; rw [w]; rfl), hm.2⟩, ?_⟩
          have := hm.1 q hq (by show tb (u &&& (bit ^^^ (-1 : Int64))) q = false; rw [tu' q hq]; simp)
          rw [this]; exact hvq
        · rintro ⟨m, hm, hmq⟩
          refine ⟨m, fun i hi w => ?_, hm.2⟩
          have w : tb (u &&& (bit ^^^ (-1 : Int64))) i = false := w
          show tb m i = tb v i
          by_cases h4 : i = q
          · rw [h4, hmq, hvq]
          · exact hm.1 i hi (by rw [tu' i hi] at w; show tb u i = false; cases h : tb u i <;> simp [h, h4] at w ⊢)
      have z1 : f_M_hasAny (va_up r p (x, o, t)) p (v ||| bit) (u &&& (bit ^^^ (-1 : Int64))) = exB (∃ m, kn (v, u, t) m ∧ tb m q = true) := by
        have h := m_hasAny (va_up r p (x, o, t)) p (v ||| bit) _ ap1
        rw [up_at] at h
        apply Bool.eq_iff_iff.mpr
        rw [h, exB_iff]
        constructor
        · rintro ⟨m, hm⟩
          refine ⟨m, ⟨fun i hi w => ?_, hm.2⟩, ?_⟩
          · have w : tb u i = false := w
            have h4 : ¬ i = q := fun z => by rw [z, hu] at w; cases w
            have := hm.1 i hi (by show tb (u &&& (bit ^^^ (-1 : Int64))) i = false; rw [tu' i hi, w]; rfl)
            show tb m i = tb v i
            rw [this]
            show tb (v ||| bit) i = tb v i
            rw [tv' i hi]; simp [h4]
          · have := hm.1 q hq (by show tb (u &&& (bit ^^^ (-1 : Int64))) q = false; rw [tu' q hq]; simp)
            rw [this]
            show tb (v ||| bit) q = true
            rw [tv' q hq]; simp
        · rintro ⟨m, hm, hmq⟩
          refine ⟨m, fun i hi w => ?_, hm.2⟩
          have w : tb (u &&& (bit ^^^ (-1 : Int64))) i = false := w
          show tb m i = tb (v ||| bit) i
          rw [tv' i hi]
          by_cases h4 : i = q
          · rw [h4, hmq]; simp
          · have := hm.1 i hi (by rw [tu' i hi] at w; show tb u i = false; cases h : tb u i <;> simp [h, h4] at w ⊢)
            rw [this]; simp [h4]
      rw [z0, z1]
      refine ih _ _ (by omega) (fun i hi => ?_) (fun i hi => ?_)
      · by_cases h4 : i = q
        · subst h4
          have hoi := ho i hi
          rw [if_neg (by omega)] at hoi
          have e6 : ∀ w : Int64, tb (w &&& (bit ^^^ (-1 : Int64))) i = false := fun w => by rw [tb_and, tb_not _ hi, tbit i hi]; simp
          have e8 : (i < i + 1) = True := eq_true (by omega)
          cases exB (∃ m, kn (v, u, t) m ∧ tb m i = false) <;> cases exB (∃ m, kn (v, u, t) m ∧ tb m i = true) <;> simp only [e8, Bool.false_eq_true, if_true, if_false, e6, hoi, hu] <;> rfl
        · have hoi := ho i hi
          have e5 : (i < q + 1) ↔ i < q := by omega
          have e6 : ∀ w : Int64, tb (w &&& (bit ^^^ (-1 : Int64))) i = tb w i := fun w => by rw [tb_and, tb_not _ hi, tbit i hi]; simp [h4]
          cases exB (∃ m, kn (v, u, t) m ∧ tb m q = false) <;> cases exB (∃ m, kn (v, u, t) m ∧ tb m q = true) <;> simp only [e5, Bool.false_eq_true, e6, if_true, if_false, hoi]
      · by_cases h4 : i = q
        · subst h4
          have hxi := hx i hi
          rw [if_neg (by omega)] at hxi
          have e6 : ∀ w : Int64, tb (w ||| bit) i = true := fun w => by rw [tb_or, tbit i hi]; simp
          have e8 : (i < i + 1) = True := eq_true (by omega)
          cases exB (∃ m, kn (v, u, t) m ∧ tb m i = false) <;> cases exB (∃ m, kn (v, u, t) m ∧ tb m i = true) <;> simp only [e8, Bool.false_eq_true, if_true, if_false, e6, hxi, hu, hvq] <;> rfl
        · have hxi := hx i hi
          have e5 : (i < q + 1) ↔ i < q := by omega
          have e6 : ∀ w : Int64, tb (w ||| bit) i = tb w i := fun w => by rw [tb_or, tbit i hi]; simp [h4]
          cases exB (∃ m, kn (v, u, t) m ∧ tb m q = false) <;> cases exB (∃ m, kn (v, u, t) m ∧ tb m q = true) <;> simp only [e5, Bool.false_eq_true, e6, if_true, if_false, hxi]
    · have hu' : tb u q = false := by cases h : tb u q <;> simp [h] at hu ⊢
      have h1 : u &&& bit = 0 := tb_eq0.mpr (fun i hi => by
        rw [tb_and, tbit i hi]
        by_cases w : i = q
        · rw [w, hu']; simp
        · simp [w])
      rw [if_pos h1]
      refine ih _ _ (by omega) (fun i hi => ?_) (fun i hi => ?_)
      · rw [ho i hi]
        by_cases h4 : i = q
        · subst h4
          rw [if_neg (by omega), if_pos (by omega), hu']; rfl
        · have e5 : (i < q + 1) ↔ i < q := by omega
          simp only [e5]
      · rw [hx i hi]
        by_cases h4 : i = q
        · subst h4
          rw [if_neg (by omega), if_pos (by omega), hu']; simp
        · have e5 : (i < q + 1) ↔ i < q := by omega
          simp only [e5]

theorem mt_ends (r : Nat → VV) (p : Nat) (hd : apart (r p).1 (r p).2.1) (s : Bool) (h : ∃ n, kn (r p) n ∧ tb n 63 = s) : kn (r p) (f_M_end_ r p (r p).1 (r p).2.1 s true) ∧ kn (r p) (f_M_end_ r p (r p).1 (r p).2.1 s false) ∧ tb (f_M_end_ r p (r p).1 (r p).2.1 s true) 63 = s ∧ tb (f_M_end_ r p (r p).1 (r p).2.1 s false) 63 = s ∧ ∀ n, kn (r p) n → tb n 63 = s → un (f_M_end_ r p (r p).1 (r p).2.1 s true) ≤ un n ∧ un n ≤ un (f_M_end_ r p (r p).1 (r p).2.1 s false) := by
  obtain ⟨n0, k0, t0⟩ := h
  have h1 := m_firstOf r p (r p).1 (r p).2.1 s hd
  have h2 := m_lastOf r p (r p).1 (r p).2.1 s
  exact ⟨(h1.2 n0 k0 t0).1, (h2.2 n0 k0 t0).1, ((half_mat s).mp h1.1).1, ((half_mat s).mp h2.1).1, fun n hn ht => ⟨(h1.2 n hn ht).2, (h2.2 n hn ht).2⟩⟩
theorem u7_id (r : Nat → VV) (p : Nat) (b : Bool) (h : (r p).2.2.2.2.2.2 = b) : u7 r p b = r := by
  unfold u7; rw [← h]; exact up_id r p
theorem m_tighten_eq (r : Nat → VV) (p : Nat) (hd : apart (r p).1 (r p).2.1) : f_M_tighten r p = va_up r p (f_V_tighten (r p)) := by
  unfold f_M_tighten
  by_cases h9 : (r p).2.2.2.2.2.2 = true
  · rw [if_pos h9]
    unfold f_M_tighten_34 f_M_tighten_39 f_M_tighten_39u
    rw [u7_id r p true h9, if_pos h9]
    unfold f_V_tighten
    rw [if_neg (by rw [h9]; decide), up_id]
  rw [if_neg h9]
  have h9' : (r p).2.2.2.2.2.2 = false := by cases h : (r p).2.2.2.2.2.2 <;> simp [h] at h9 ⊢
  have hA := m_hasAny r p (r p).1 (r p).2.1 hd
  have hN := n_tighten hd h9'
  by_cases h1 : f_M_hasAny r p (r p).1 (r p).2.1 = true
  · have h2 : ∃ n, kn (r p) n := hA.mp h1
    rw [if_pos h1]
    unfold f_M_tighten_39 f_M_tighten_39u
    rw [u7_id r p false h9', if_neg h9]
    unfold f_M_tighten_56v f_M_tighten_63v f_M_tighten_74v f_M_tighten_85v f_M_tighten_102 f_M_tighten_106v f_M_tighten_119v f_M_tighten_132v f_M_tighten_149 f_M_tighten_153v
    have hp := m_has r p (r p).1 (r p).2.1 false hd
    have hm := m_has r p (r p).1 (r p).2.1 true hd
    generalize f_M_has1 r p (r p).1 (r p).2.1 false = pl at hp
    generalize f_M_has1 r p (r p).1 (r p).2.1 true = mi at hm
    have hs1 : ∃ n, kn (r p) n ∧ tb n 63 = !pl := by
      cases pl
      · obtain ⟨n, hn⟩ := h2
        cases hs : tb n 63
        · exact absurd (hp.mpr ⟨n, hn, hs⟩) (by decide)
        · exact ⟨n, hn, hs⟩
      · exact hp.mp rfl
    have hs2 : ∃ n, kn (r p) n ∧ tb n 63 = mi := by
      cases mi
      · obtain ⟨n, hn⟩ := h2
        cases hs : tb n 63
        · exact ⟨n, hn, hs⟩
        · exact absurd (hm.mpr ⟨n, hn, hs⟩) (by decide)
      · exact hm.mp rfl
    have e1 := mt_ends r p hd (!pl) hs1
    have e2 := mt_ends r p hd mi hs2
    have es : (if pl = true then (if pl = true then f_M_tighten_158 r p 65 0 (f_M_end_ r p (r p).1 (r p).2.1 false false) (f_M_end_ r p (r p).1 (r p).2.1 mi true) (f_M_end_ r p (r p).1 (r p).2.1 mi false) (f_M_end_ r p (r p).1 (r p).2.1 false true) (r p).2.1 (r p).1 r else f_M_tighten_158 r p 65 0 (f_M_end_ r p (r p).1 (r p).2.1 true false) (f_M_end_ r p (r p).1 (r p).2.1 mi true) (f_M_end_ r p (r p).1 (r p).2.1 mi false) (f_M_end_ r p (r p).1 (r p).2.1 false true) (r p).2.1 (r p).1 r) else (if pl = true then f_M_tighten_158 r p 65 0 (f_M_end_ r p (r p).1 (r p).2.1 false false) (f_M_end_ r p (r p).1 (r p).2.1 mi true) (f_M_end_ r p (r p).1 (r p).2.1 mi false) (f_M_end_ r p (r p).1 (r p).2.1 true true) (r p).2.1 (r p).1 r else f_M_tighten_158 r p 65 0 (f_M_end_ r p (r p).1 (r p).2.1 true false) (f_M_end_ r p (r p).1 (r p).2.1 mi true) (f_M_end_ r p (r p).1 (r p).2.1 mi false) (f_M_end_ r p (r p).1 (r p).2.1 true true) (r p).2.1 (r p).1 r)) = f_M_tighten_158 r p 65 0 (f_M_end_ r p (r p).1 (r p).2.1 (!pl) false) (f_M_end_ r p (r p).1 (r p).2.1 mi true) (f_M_end_ r p (r p).1 (r p).2.1 mi false) (f_M_end_ r p (r p).1 (r p).2.1 (!pl) true) (r p).2.1 (r p).1 r := by cases pl <;> simp only [Bool.false_eq_true, if_true, if_false, Bool.not_true, Bool.not_false]
    rw [es]
    generalize f_M_end_ r p (r p).1 (r p).2.1 (!pl) false = ga at e1 ⊢
    generalize f_M_end_ r p (r p).1 (r p).2.1 (!pl) true = lo at e1 ⊢
    generalize f_M_end_ r p (r p).1 (r p).2.1 mi false = hi at e2 ⊢
    generalize f_M_end_ r p (r p).1 (r p).2.1 mi true = le at e2 ⊢
    obtain ⟨k1, k2, t1, t2, q1⟩ := e1
    obtain ⟨k3, k4, t3, t4, q2⟩ := e2
    have hl := mt_loop r p ga le hi lo (r p).2.1 (r p).1 (r p).2.2 hd 64 (by omega) 65 (r p).1 (r p).2.1 (by omega) (fun i _ => by rw [if_neg (by omega)]) (fun i _ => by rw [if_neg (by omega)])
    obtain ⟨B, O, hw, hO, hB⟩ := hl
    have e0 : va_up r p ((r p).1, (r p).2.1, (r p).2.2) = r := up_id r p
    rw [e0] at hw
    have z0 : nI (64 - 64) = 0 := by decide
    rw [z0] at hw
    rw [hw, h9']
    refine congrArg (va_up r p) (tgt_unique (S := kn (r p)) ?_ (hN.1 h2))
    have e3 : ((r p).1, (r p).2.1, (r p).2.2) = r p := rfl
    rw [e3] at hO hB
    have neg : ∀ n, kn (r p) n → ¬ tb n 63 = !pl → pl = true ∧ tb n 63 = true := fun n hn w => by
      cases hs : tb n 63
      · exact absurd (by rw [hs, hp.mpr ⟨n, hn, hs⟩]; rfl) w
      · cases pl
        · exact absurd hs w
        · exact ⟨rfl, rfl⟩
    have pos : ∀ n, kn (r p) n → ¬ tb n 63 = mi → mi = true ∧ tb n 63 = false := fun n hn w => by
      cases hs : tb n 63
      · cases mi
        · exact absurd hs w
        · exact ⟨rfl, rfl⟩
      · exact absurd (by rw [hs, hm.mpr ⟨n, hn, hs⟩]) w
    refine ⟨⟨k1, k4, k3, k2⟩, fun n hn => ⟨?_, ?_, ?_, ?_⟩, fun i hi => ?_, fun n hn i hi ho => ?_, fun i hi ho => ?_, rfl⟩
    · by_cases w : tb n 63 = !pl
      · exact (q1 n hn w).1
      · obtain ⟨w1, w2⟩ := neg n hn w
        have a1 : tb lo 63 = false := by rw [t1, w1]; rfl
        rw [tb63] at a1 w2
        have := of_decide_eq_true w2
        have := of_decide_eq_false a1
        show un lo ≤ un n
        omega
    · by_cases w : tb n 63 = mi
      · exact (q2 n hn w).2
      · obtain ⟨w1, w2⟩ := pos n hn w
        have a1 : tb hi 63 = true := by rw [t4, w1]
        rw [tb63] at a1 w2
        have := of_decide_eq_true a1
        have := of_decide_eq_false w2
        show un n ≤ un hi
        omega
    · by_cases w : tb n 63 = mi
      · exact (half_le (by rw [t3, w])).mp (q2 n hn w).1
      · obtain ⟨w1, w2⟩ := pos n hn w
        have a1 : tb le 63 = true := by rw [t3, w1]
        have := nonneg_ti w2
        have := neg_ti a1
        show le.toInt ≤ n.toInt
        omega
    · by_cases w : tb n 63 = !pl
      · exact (half_le (by rw [t2, w])).mp (q1 n hn w).2
      · obtain ⟨w1, w2⟩ := neg n hn w
        have a1 : tb ga 63 = false := by rw [t2, w1]; rfl
        have := nonneg_ti a1
        have := neg_ti w2
        show n.toInt ≤ ga.toInt
        omega
    · show tb O i = true ↔ _
      rw [hO i hi, Bool.and_eq_true, Bool.and_eq_true, exB_iff, exB_iff]
      constructor
      · rintro ⟨_, ⟨x, hx, tx⟩, ⟨y, hy, ty⟩⟩
        exact ⟨x, y, hx, hy, by rw [tx, ty]; decide⟩
      · rintro ⟨x, y, hx, hy, hxy⟩
        refine ⟨?_, ?_, ?_⟩
        · cases hu : tb (r p).2.1 i
          · exact absurd ((hx.1 i hi hu).trans (hy.1 i hi hu).symm) hxy
          · rfl
        · cases tx : tb x i
          · exact ⟨x, hx, tx⟩
          · cases ty : tb y i
            · exact ⟨y, hy, ty⟩
            · rw [tx, ty] at hxy; exact absurd rfl hxy
        · cases tx : tb x i
          · cases ty : tb y i
            · rw [tx, ty] at hxy; exact absurd rfl hxy
            · exact ⟨y, hy, ty⟩
          · exact ⟨x, hx, tx⟩
    · have ho : tb O i = false := ho
      show tb n i = tb B i
      rw [hO i hi] at ho
      rw [hB i hi]
      by_cases hu : tb (r p).2.1 i = true
      · rw [hu, Bool.true_and] at ho
        have hv := hd i hi hu
        rw [hu, hv, Bool.true_and, Bool.false_or]
        cases tn : tb n i
        · have w1 : exB (∃ m, kn (r p) m ∧ tb m i = false) = true := (exB_iff _).mpr ⟨n, hn, tn⟩
          rw [w1]; simp
        · have w1 : exB (∃ m, kn (r p) m ∧ tb m i = true) = true := (exB_iff _).mpr ⟨n, hn, tn⟩
          rw [w1, Bool.and_true] at ho
          rw [w1, ho]; rfl
      · have hu' : tb (r p).2.1 i = false := by cases h : tb (r p).2.1 i <;> simp [h] at hu ⊢
        rw [hu', Bool.false_and, Bool.or_false]
        exact hn.1 i hi hu'
    · have ho : tb O i = true := ho
      show tb B i = false
      rw [hO i hi, Bool.and_eq_true, Bool.and_eq_true] at ho
      rw [hB i hi, hd i hi ho.1, ho.1, ho.2.1, ho.2.2]; rfl
  · have h2 : ¬ ∃ n, kn (r p) n := fun w => h1 (hA.mpr w)
    rw [if_neg h1]
    unfold f_M_tighten_34 f_M_tighten_39 f_M_tighten_39u
    have e0 : (u7 r p true p).2.2.2.2.2.2 = true := by unfold u7; rw [up_at]
    rw [if_pos e0, hN.2 h2]
    rfl
