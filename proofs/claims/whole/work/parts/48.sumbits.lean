/-! the bits of sums and differences -/
theorem sb_loop (r : Nat → VV) (mi : Bool) (c0 c1 : Nat → Bool) (Uf L : Int64) (hX : apart (r 16).1 (r 16).2.1) (hY : apart (r 17).1 (r 17).2.1)
    (hs0 : ∀ k, k < 64 → c0 (k + 1) = if mi = true then bor (tb (r 16).1 k || tb (r 16).2.1 k) (tb (r 17).1 k) (c0 k) else maj (tb (r 16).1 k) (tb (r 17).1 k) (c0 k))
    (hs1 : ∀ k, k < 64 → c1 (k + 1) = if mi = true then bor (tb (r 16).1 k) (tb (r 17).1 k || tb (r 17).2.1 k) (c1 k) else maj (tb (r 16).1 k || tb (r 16).2.1 k) (tb (r 17).1 k || tb (r 17).2.1 k) (c1 k))
    (hm : ∀ k, k ≤ 64 → c0 k = true → c1 k = true)
    (hU : ∀ i, i < 64 → tb Uf i = (tb (r 16).2.1 i || tb (r 17).2.1 i || (c0 i ^^ c1 i)))
    (hL : ∀ i, i < 64 → tb Uf i = false → tb L i = (tb (r 16).1 i ^^ (tb (r 17).1 i ^^ c0 i))) :
    ∀ (D K : Nat), K + D = 64 → ∀ (n : Nat) (U V : Int64), D < n → (∀ i, i < 64 → tb U i = (decide (i < K) && tb Uf i)) → (∀ i, i < 64 → tb V i = (decide (i < K) && (!tb Uf i && tb L i))) → f_M_sumBits_14 r mi n (nI K) (c1 K) (!c0 K) U V = va_up r 18 (L &&& (Uf ^^^ (-1 : Int64)), Uf, (r 18).2.2)
  | _, _, _, 0, _, _, h, _, _ => by omega
  | 0, K, hK, n + 1, U, V, hn, h1, h2 => by
    have hK : K = 64 := by omega
    rw [f_M_sumBits_14, if_pos (by rw [hK]; decide)]
    unfold f_M_sumBits_307u f_M_sumBits_316u
    have e1 : U = Uf := tb_ext (fun i hi => by rw [h1 i hi, hK]; simp [hi])
    have e2 : V = L &&& (Uf ^^^ (-1 : Int64)) := tb_ext (fun i hi => by rw [h2 i hi, hK, tb_and, tb_not _ hi]; simp [hi, Bool.and_comm])
    rw [e1, e2]
    have : u1 r 18 (L &&& (Uf ^^^ (-1 : Int64))) = va_up r 18 (L &&& (Uf ^^^ (-1 : Int64)), (r 18).2.1, (r 18).2.2) := rfl
    rw [this, u2_up]
  | D + 1, K, hK, n + 1, U, V, hn, h1, h2 => by
    have hK' : K < 64 := by omega
    have h64 : ¬ (64 : Int32) ≤ nI K := nI_ge (b := 64) hK' (by decide)
    rw [f_M_sumBits_14, if_neg h64]
    have s0 := hs0 K hK'
    have s1 := hs1 K hK'
    have m0 := hm K (by omega)
    have u0 := hU K hK'
    have l0 := hL K hK'
    have aX := hX K hK'
    have aY := hY K hK'
    rw [sb_eight r mi hK' (c1 K) (!c0 K) U V _ _ _ _ _ rfl rfl rfl rfl (c1 (K + 1)) (!c0 (K + 1)) (tb Uf K || tb L K) (tb Uf K || !tb L K) ?_ ?_ ?_ ?_]
    · rw [nI_1]
      refine sb_loop r mi c0 c1 Uf L hX hY hs0 hs1 hm hU hL D (K + 1) (by omega) n _ _ (by omega) (fun i hi => ?_) (fun i hi => ?_)
      · by_cases e : i = K
        · subst e
          have a1 : i < i + 1 := by omega
          have t1 := h1 i hi
          cases hu : tb Uf i
          · rw [hu] at t1
            cases hl : tb L i <;> simp [a1, t1]
          · simp [a1, tb_or, tb_bit i hi i hi]
        · have a1 : (i < K + 1) ↔ i < K := by omega
          have t1 := h1 i hi
          simp only [a1, ← t1]
          by_cases q : ((tb Uf K || !tb L K) && (tb Uf K || tb L K)) = true
          · rw [if_pos q, tb_or, tb_bit K hK' i hi]; simp [e]
          · rw [if_neg q]
      · by_cases e : i = K
        · subst e
          have a1 : i < i + 1 := by omega
          have t2 := h2 i hi
          cases hu : tb Uf i
          · cases hl : tb L i
            · rw [hl] at t2; simp [t2]
            · simp [a1, tb_or, tb_bit i hi i hi]
          · rw [hu] at t2; simp [t2]
        · have a1 : (i < K + 1) ↔ i < K := by omega
          have t2 := h2 i hi
          simp only [a1, ← t2]
          by_cases q : ((tb Uf K || tb L K) && !(tb Uf K || !tb L K)) = true
          · rw [if_pos q, tb_or, tb_bit K hK' i hi]; simp [e]
          · rw [if_neg q]
    all_goals
      revert s0 s1 m0 u0 l0 aX aY
      generalize tb (r 16).1 K = bx
      generalize tb (r 16).2.1 K = ux
      generalize tb (r 17).1 K = b2
      generalize tb (r 17).2.1 K = uy
      generalize tb Uf K = uf
      generalize tb L K = lf
      generalize c0 (K + 1) = c0n
      generalize c1 (K + 1) = c1n
      generalize c0 K = c0k
      generalize c1 K = c1k
      intro s0 s1 m0 u0 l0 aX aY
      subst s0 s1 u0
      revert m0 l0 aX aY
      cases mi <;> cases bx <;> cases ux <;> cases b2 <;> cases uy <;> cases c0k <;> cases c1k <;> cases lf <;> decide
theorem add_bits {x y : VV} (hx : apart x.1 x.2.1) (hy : apart y.1 y.2.1) : (∀ i, i < 64 → tb (((x.1 + y.1) ^^^ (x.1 + y.1 + x.2.1 + y.2.1)) ||| x.2.1 ||| y.2.1) i = (tb x.2.1 i || tb y.2.1 i || (cyA x.1 y.1 i ^^ cyA (x.1 ||| x.2.1) (y.1 ||| y.2.1) i))) ∧ ∀ k, k ≤ 64 → cyA x.1 y.1 k = true → cyA (x.1 ||| x.2.1) (y.1 ||| y.2.1) k = true := by
  constructor
  · intro i hi
    have e : x.1 + y.1 + x.2.1 + y.2.1 = (x.1 ||| x.2.1) + (y.1 ||| y.2.1) := by
      rw [← add_or hx, ← add_or hy]
      apply un_inj
      simp only [un_add]
      omega
    rw [e, tb_or, tb_or, tb_xor, tb_add _ _ hi, tb_add _ _ hi, tb_or, tb_or]
    have aX := hx i hi
    have aY := hy i hi
    revert aX aY
    cases tb x.1 i <;> cases tb x.2.1 i <;> cases tb y.1 i <;> cases tb y.2.1 i <;> cases cyA x.1 y.1 i <;> cases cyA (x.1 ||| x.2.1) (y.1 ||| y.2.1) i <;> decide
  · exact cy_mono (fun i _ h => by rw [tb_or, h]; rfl) (fun i _ h => by rw [tb_or, h]; rfl)
theorem sub_bits {x y : VV} (hx : apart x.1 x.2.1) (hy : apart y.1 y.2.1) : (∀ i, i < 64 → tb (((x.1 - y.1 + x.2.1) ^^^ (x.1 - y.1 - y.2.1)) ||| x.2.1 ||| y.2.1) i = (tb x.2.1 i || tb y.2.1 i || (bwA (x.1 ||| x.2.1) y.1 i ^^ bwA x.1 (y.1 ||| y.2.1) i))) ∧ ∀ k, k ≤ 64 → bwA (x.1 ||| x.2.1) y.1 k = true → bwA x.1 (y.1 ||| y.2.1) k = true := by
  constructor
  · intro i hi
    have e1 : x.1 - y.1 + x.2.1 = (x.1 ||| x.2.1) - y.1 := by
      rw [← add_or hx]
      apply un_inj
      have := un_lt x.1; have := un_lt x.2.1; have := un_lt y.1
      simp only [un_add, un_sub]
      omega
    have e2 : x.1 - y.1 - y.2.1 = x.1 - (y.1 ||| y.2.1) := by
      rw [← add_or hy]
      apply un_inj
      have := un_lt x.1; have := un_lt y.2.1; have := un_lt y.1
      simp only [un_add, un_sub]
      omega
    rw [e1, e2, tb_or, tb_or, tb_xor, tb_sub _ _ hi, tb_sub _ _ hi, tb_or, tb_or]
    have aX := hx i hi
    have aY := hy i hi
    revert aX aY
    cases tb x.1 i <;> cases tb x.2.1 i <;> cases tb y.1 i <;> cases tb y.2.1 i <;> cases bwA (x.1 ||| x.2.1) y.1 i <;> cases bwA x.1 (y.1 ||| y.2.1) i <;> decide
  · exact bw_mono (fun i _ h => by rw [tb_or, h]; rfl) (fun i _ h => by rw [tb_or, h]; rfl)
/-- sums: the bits told are those of every sum -/
theorem add_sound {x y : VV} (hx : apart x.1 x.2.1) (hy : apart y.1 y.2.1) {m n : Int64} (hm : mat x.1 x.2.1 m) (hn : mat y.1 y.2.1 n) : ∀ i, i < 64 → tb (((x.1 + y.1) ^^^ (x.1 + y.1 + x.2.1 + y.2.1)) ||| x.2.1 ||| y.2.1) i = false → tb (m + n) i = tb (x.1 + y.1) i := by
  intro i hi h
  rw [(add_bits hx hy).1 i hi] at h
  have h1 : tb x.2.1 i = false := by revert h; cases tb x.2.1 i <;> simp
  have h2 : tb y.2.1 i = false := by revert h; cases tb y.2.1 i <;> simp
  have lo := cy_mono (x := x.1) (y := y.1) (x' := m) (y' := n) (fun j hj w => by
    have a := hm j hj
    cases hu : tb x.2.1 j
    · rw [a hu, w]
    · rw [hx j hj hu] at w; cases w) (fun j hj w => by
    have a := hn j hj
    cases hu : tb y.2.1 j
    · rw [a hu, w]
    · rw [hy j hj hu] at w; cases w) i (by omega)
  have up := cy_mono (x := m) (y := n) (x' := x.1 ||| x.2.1) (y' := y.1 ||| y.2.1) (fun j hj w => by
    have a := hm j hj
    rw [tb_or]
    cases hu : tb x.2.1 j
    · rw [← a hu, w]; rfl
    · simp) (fun j hj w => by
    have a := hn j hj
    rw [tb_or]
    cases hu : tb y.2.1 j
    · rw [← a hu, w]; rfl
    · simp) i (by omega)
  rw [tb_add _ _ hi, tb_add _ _ hi, hm i hi h1, hn i hi h2]
  revert h lo up
  rw [h1, h2]
  cases cyA x.1 y.1 i <;> cases cyA m n i <;> cases cyA (x.1 ||| x.2.1) (y.1 ||| y.2.1) i <;> simp
theorem sub_sound {x y : VV} (hx : apart x.1 x.2.1) (hy : apart y.1 y.2.1) {m n : Int64} (hm : mat x.1 x.2.1 m) (hn : mat y.1 y.2.1 n) : ∀ i, i < 64 → tb (((x.1 - y.1 + x.2.1) ^^^ (x.1 - y.1 - y.2.1)) ||| x.2.1 ||| y.2.1) i = false → tb (m - n) i = (tb x.1 i ^^ (tb y.1 i ^^ bwA (x.1 ||| x.2.1) y.1 i)) := by
  intro i hi h
  rw [(sub_bits hx hy).1 i hi] at h
  have h1 : tb x.2.1 i = false := by revert h; cases tb x.2.1 i <;> simp
  have h2 : tb y.2.1 i = false := by revert h; cases tb y.2.1 i <;> simp
  have up := bw_mono (x := m) (y := n) (x' := x.1) (y' := y.1 ||| y.2.1) (fun j hj w => by
    have a := hm j hj
    cases hu : tb x.2.1 j
    · rw [a hu, w]
    · rw [hx j hj hu] at w; cases w) (fun j hj w => by
    have a := hn j hj
    rw [tb_or]
    cases hu : tb y.2.1 j
    · rw [← a hu, w]; rfl
    · simp) i (by omega)
  have lo := bw_mono (x := x.1 ||| x.2.1) (y := y.1) (x' := m) (y' := n) (fun j hj w => by
    have a := hm j hj
    rw [tb_or]
    cases hu : tb x.2.1 j
    · rw [← a hu, w]; rfl
    · simp) (fun j hj w => by
    have a := hn j hj
    cases hu : tb y.2.1 j
    · rw [a hu, w]
    · rw [hy j hj hu] at w; cases w) i (by omega)
  rw [tb_sub _ _ hi, hm i hi h1, hn i hi h2]
  revert h lo up
  rw [h1, h2]
  cases bwA (x.1 ||| x.2.1) y.1 i <;> cases bwA m n i <;> cases bwA x.1 (y.1 ||| y.2.1) i <;> simp
theorem m_sumBits_add (r : Nat → VV) (hX : apart (r 16).1 (r 16).2.1) (hY : apart (r 17).1 (r 17).2.1) : f_M_sumBits r false = va_up r 18 (((r 16).1 + (r 17).1) &&& (((((r 16).1 + (r 17).1) ^^^ ((r 16).1 + (r 17).1 + (r 16).2.1 + (r 17).2.1)) ||| (r 16).2.1 ||| (r 17).2.1) ^^^ (-1 : Int64)), ((((r 16).1 + (r 17).1) ^^^ ((r 16).1 + (r 17).1 + (r 16).2.1 + (r 17).2.1)) ||| (r 16).2.1 ||| (r 17).2.1), (r 18).2.2) := by
  have h := add_bits hX hY
  refine sb_loop r false (cyA (r 16).1 (r 17).1) (cyA ((r 16).1 ||| (r 16).2.1) ((r 17).1 ||| (r 17).2.1)) _ _ hX hY (fun k _ => rfl) (fun k _ => ?_) h.2 h.1 (fun i hi _ => tb_add _ _ hi) 64 0 (by omega) 65 0 0 (by omega) (fun i _ => by rw [tb_0]; simp) (fun i _ => by rw [tb_0]; simp)
  show maj (tb ((r 16).1 ||| (r 16).2.1) k) (tb ((r 17).1 ||| (r 17).2.1) k) _ = _
  rw [tb_or, tb_or]; rfl
theorem m_sumBits_sub (r : Nat → VV) (hX : apart (r 16).1 (r 16).2.1) (hY : apart (r 17).1 (r 17).2.1) : f_M_sumBits r true = va_up r 18 (((r 16).1 - (r 17).1) &&& (((((r 16).1 - (r 17).1 + (r 16).2.1) ^^^ ((r 16).1 - (r 17).1 - (r 17).2.1)) ||| (r 16).2.1 ||| (r 17).2.1) ^^^ (-1 : Int64)), ((((r 16).1 - (r 17).1 + (r 16).2.1) ^^^ ((r 16).1 - (r 17).1 - (r 17).2.1)) ||| (r 16).2.1 ||| (r 17).2.1), (r 18).2.2) := by
  have h := sub_bits hX hY
  refine sb_loop r true (bwA ((r 16).1 ||| (r 16).2.1) (r 17).1) (bwA (r 16).1 ((r 17).1 ||| (r 17).2.1)) _ _ hX hY (fun k _ => ?_) (fun k _ => ?_) h.2 h.1 (fun i hi hf => sub_sound hX hY (fun _ _ _ => rfl) (fun _ _ _ => rfl) i hi hf) 64 0 (by omega) 65 0 0 (by omega) (fun i _ => by rw [tb_0]; simp) (fun i _ => by rw [tb_0]; simp)
  · show bor (tb ((r 16).1 ||| (r 16).2.1) k) _ _ = _
    rw [tb_or]; rfl
  · show bor _ (tb ((r 17).1 ||| (r 17).2.1) k) _ = _
    rw [tb_or]; rfl
