/-! counting bits -/
theorem and_split {b m V M : Nat} (hb : b < 256) (hm : m < 256) : (256 * V + b) &&& (256 * M + m) = 256 * (V &&& M) + (b &&& m) := by
  apply Nat.eq_of_testBit_eq
  intro i
  have e : (256 : Nat) = 2 ^ 8 := by decide
  have hb' : b < 2 ^ 8 := hb
  have hm' : m < 2 ^ 8 := hm
  have hc : b &&& m < 2 ^ 8 := Nat.lt_of_le_of_lt Nat.and_le_left hb'
  rw [e, Nat.testBit_and, Nat.testBit_two_pow_mul_add _ hb', Nat.testBit_two_pow_mul_add _ hm', Nat.testBit_two_pow_mul_add _ hc]
  by_cases h : i < 8
  · rw [if_pos h, if_pos h, if_pos h, Nat.testBit_and]
  · rw [if_neg h, if_neg h, if_neg h, Nat.testBit_and]
def ev : List Nat → Nat
  | [] => 0
  | b :: bs => 256 * ev bs + b
def rep9 (m : Nat) : Nat → Nat
  | 0 => 0
  | k + 1 => 256 * rep9 m k + m
def s1 (M v : Nat) : Nat := v - (v / 2 &&& M)
def s2 (M v : Nat) : Nat := (v &&& M) + (v / 4 &&& M)
def s3 (M v : Nat) : Nat := (v + v / 16) &&& M
theorem t1_dec : ∀ t, t < 2 → ∀ b, b < 256 → ((128 * t + b / 2) &&& 0x55) = (b / 2 &&& 0x55) := by decide +kernel
theorem t2_dec : ∀ t, t < 4 → ∀ b, b < 256 → ((64 * t + b / 4) &&& 0x33) = (b / 4 &&& 0x33) := by decide +kernel
theorem t1 : ∀ bs : List Nat, (∀ b ∈ bs, b < 256) → s1 (rep9 0x55 bs.length) (ev bs) = ev (bs.map (s1 0x55))
  | [], _ => rfl
  | b :: bs, h => by
    have hb := h b (List.mem_cons_self)
    have ih := t1 bs (fun x hx => h x (List.mem_cons_of_mem _ hx))
    show s1 (256 * rep9 0x55 bs.length + 0x55) (256 * ev bs + b) = 256 * ev (bs.map (s1 0x55)) + s1 0x55 b
    rw [← ih]
    unfold s1
    generalize ev bs = V
    generalize rep9 0x55 bs.length = M
    have e : (256 * V + b) / 2 = 256 * (V / 2) + (128 * (V % 2) + b / 2) := by omega
    rw [e, and_split (by omega) (by decide), t1_dec _ (by omega) _ hb]
    have h1 : (V / 2 &&& M) ≤ V / 2 := Nat.and_le_left
    have h2 : (b / 2 &&& 0x55) ≤ b / 2 := Nat.and_le_left
    omega
theorem t2 : ∀ bs : List Nat, (∀ b ∈ bs, b < 256) → s2 (rep9 0x33 bs.length) (ev bs) = ev (bs.map (s2 0x33))
  | [], _ => rfl
  | b :: bs, h => by
    have hb := h b (List.mem_cons_self)
    have ih := t2 bs (fun x hx => h x (List.mem_cons_of_mem _ hx))
    show s2 (256 * rep9 0x33 bs.length + 0x33) (256 * ev bs + b) = 256 * ev (bs.map (s2 0x33)) + s2 0x33 b
    rw [← ih]
    unfold s2
    generalize ev bs = V
    generalize rep9 0x33 bs.length = M
    have e : (256 * V + b) / 4 = 256 * (V / 4) + (64 * (V % 4) + b / 4) := by omega
    rw [e, and_split (by omega) (by decide), and_split (by omega) (by decide), t2_dec _ (by omega) _ hb]
    omega
theorem t3 : ∀ bs : List Nat, (∀ b ∈ bs, b % 16 ≤ 4 ∧ b / 16 ≤ 4) → s3 (rep9 0x0f bs.length) (ev bs) = ev (bs.map (s3 0x0f)) ∧ ev bs % 16 ≤ 4
  | [], _ => ⟨rfl, by decide⟩
  | b :: bs, h => by
    have hb := h b (List.mem_cons_self)
    obtain ⟨ih, h4⟩ := t3 bs (fun x hx => h x (List.mem_cons_of_mem _ hx))
    refine ⟨?_, by show (256 * ev bs + b) % 16 ≤ 4; omega⟩
    show s3 (256 * rep9 0x0f bs.length + 0x0f) (256 * ev bs + b) = 256 * ev (bs.map (s3 0x0f)) + s3 0x0f b
    rw [← ih]
    unfold s3
    generalize ev bs = V at h4
    generalize rep9 0x0f bs.length = M
    have e : 256 * V + b + (256 * V + b) / 16 = 256 * (V + V / 16) + (b + b / 16 + 16 * (V % 16)) := by omega
    have e1 : ∀ x : Nat, x &&& 0x0f = x % 16 := fun x => Nat.and_two_pow_sub_one_eq_mod x 4
    rw [e, and_split (by omega) (by decide), e1, e1]
    omega
def pc8 (b : Nat) : Nat := s3 0x0f (s2 0x33 (s1 0x55 b))
theorem b_dec : ∀ b, b < 256 → s1 0x55 b < 256 ∧ s2 0x33 (s1 0x55 b) % 16 ≤ 4 ∧ s2 0x33 (s1 0x55 b) / 16 ≤ 4 ∧ pc8 b ≤ 8 ∧ (pc8 b = 0 → b = 0) ∧ (pc8 b = 1 → ∃ i, i < 8 ∧ b = 2 ^ i) := by decide +kernel
theorem ev_bytes (x : Nat) (h : x < 2 ^ 64) : x = ev [x % 256, x / 256 % 256, x / 2 ^ 16 % 256, x / 2 ^ 24 % 256, x / 2 ^ 32 % 256, x / 2 ^ 40 % 256, x / 2 ^ 48 % 256, x / 2 ^ 56 % 256] := by
  simp only [ev]; omega
