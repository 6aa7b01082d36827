/-! class and reference, method by method: codes alike, states alike -/
def INV (v : Nat → VV) (w : Nat → Int64) (r : Nat → VV) : Prop := ∀ j, j < 16 → r j = v j ∧ good (v j) ∧ kn (v j) (w j)
def LNK (F : Int32 × (Nat → VV) × (Nat → Int64) × Int32 × VV × VV × VV) (G : Int32 × (Nat → VV) × (Nat → Int64) × Int32) : Prop := G.1 = F.1 ∧ INV F.2.1 F.2.2.1 G.2.1 ∧ G.2.2.1 = F.2.2.1 ∧ G.2.2.2 = F.2.2.2.1
theorem okp_le (p : Int32) : (¬ p < 0 ∧ ¬ (15 : Int32) < p) ↔ okp p := by
  unfold okp
  rw [Int32.lt_iff_toInt_lt, Int32.lt_iff_toInt_lt, Int32.lt_iff_toInt_lt]
  have e1 : (15 : Int32).toInt = 15 := by decide
  have e2 : (16 : Int32).toInt = 16 := by decide
  have e3 : (0 : Int32).toInt = 0 := by decide
  rw [e1, e2, e3]; omega
theorem le15 (p : Int32) : p ≤ (15 : Int32) ↔ ¬ (15 : Int32) < p := by
  rw [Int32.le_iff_toInt_le, Int32.lt_iff_toInt_lt]; omega
theorem rp_iff (p : Int32) : f_S_requirePlace p = 0 ↔ okp p := by
  refine ⟨rp_ok, fun h => ?_⟩
  unfold f_S_requirePlace
  rw [if_neg h.1, if_pos h.2]
theorem rp_1 {p : Int32} (h : ¬ okp p) : f_S_requirePlace p = 1 := by
  unfold f_S_requirePlace
  by_cases h1 : p < 0
  · rw [if_pos h1]
  · rw [if_neg h1]
    by_cases h2 : p < 16
    · exact absurd ⟨h1, h2⟩ h
    · rw [if_neg h2]
theorem np_no {a b d : Int32} (h : ¬ (okp a ∧ okp b ∧ okp d)) : f_M_noPlace a b d = (true, 1) := by
  have e31 : ∀ a b d : Int32, f_M_noPlace_31 a b d = (true, 1) := fun a b d => by unfold f_M_noPlace_31 f_M_noPlace_36 bI; rw [if_neg (by decide)]
  unfold f_M_noPlace
  simp only [e31]
  by_cases a1 : a < 0
  · rw [if_pos a1]
  rw [if_neg a1]
  by_cases a2 : (15 : Int32) < a
  · rw [if_pos a2]
  rw [if_neg a2]
  by_cases b1 : b < 0
  · rw [if_pos b1]
  rw [if_neg b1]
  by_cases b2 : (15 : Int32) < b
  · rw [if_pos b2]
  rw [if_neg b2]
  by_cases d1 : d < 0
  · rw [if_pos d1]
  rw [if_neg d1]
  by_cases d2 : d ≤ 15
  · exact absurd ⟨(okp_le a).mp ⟨a1, a2⟩, (okp_le b).mp ⟨b1, b2⟩, (okp_le d).mp ⟨d1, (le15 d).mp d2⟩⟩ h
  rw [if_neg d2]
theorem np_yes {a b d : Int32} (ha : okp a) (hb : okp b) (hd : okp d) : f_M_noPlace a b d = (false, 0) := by
  have a' := (okp_le a).mpr ha
  have b' := (okp_le b).mpr hb
  have d' := (okp_le d).mpr hd
  unfold f_M_noPlace f_M_noPlace_36 bI
  rw [if_neg a'.1, if_neg a'.2, if_neg b'.1, if_neg b'.2, if_neg d'.1, if_pos ((le15 d).mpr d'.2), if_pos (by decide)]
theorem okp0 : okp 0 := by unfold okp; decide
theorem INV_up {v : Nat → VV} {w : Nat → Int64} {r R : Nat → VV} (h : INV v w r) (hR : ∀ j, j < 16 → R j = r j) {P : Nat} {Z : VV} {q : Int64} (hg : good Z) (hk : kn Z q) : INV (va_up v P Z) (u8 w P q) (va_up R P Z) := fun j hj => by
  by_cases e : j = P
  · subst e
    unfold u8
    rw [up_at, up_at, up_at]
    exact ⟨rfl, hg, hk⟩
  · unfold u8
    rw [up_ne _ _ e, up_ne _ _ e, up_ne _ _ e, hR j hj]
    exact h j hj
theorem put_eq (R : Nat → VV) (w : Nat → Int64) (t : Int32) {P F : Nat} (hF : ¬ F = P) {Z : VV} {q : Int64} (hZ : R F = Z) (hg : good Z) (hk : kn Z q) : f_M_put R w t P F q = (va_up R P Z, u8 w P q, t) := by
  unfold f_M_put f_M_put_3g f_M_put_12u f_M_put_15g f_M_look f_M_look_28
  rw [copy_eq R hF, hZ]
  have e : f_M_isNumber (va_up R P Z) P (u8 w P q P) = true := by
    rw [m_isNumber _ _ _ (by rw [up_at]; exact good_apart hg), up_at]
    unfold u8
    rw [up_at]
    exact holds_kn hg hk
  rw [if_pos e]
theorem write_z (v : Nat → VV) (w : Nat → Int64) (t : Int32) (x y : VV) {z : VV} (P : Nat) {q : Int64} (hg : good z) (hk : kn z q) : f_S_write_z v w t x y z P q = (va_up v P z, u8 w P q, t) := by
  unfold f_S_write_z f_V_take
  rw [if_neg (by rw [holds_kn hg hk]; decide)]
theorem lnk_put {v : Nat → VV} {w : Nat → Int64} {r R : Nat → VV} (h : INV v w r) (hR : ∀ j, j < 16 → R j = r j) (t : Int32) (x y X Y : VV) {P : Nat} (hP : P < 16) {Z : VV} {q : Int64} (hZ : R 18 = Z) (hg : good Z) (hk : kn Z q) : LNK (0, (f_S_write_z v w t x y Z P q).1, (f_S_write_z v w t x y Z P q).2.1, (f_S_write_z v w t x y Z P q).2.2, X, Y, Z) (0, (f_M_put R w t P 18 q).1, (f_M_put R w t P 18 q).2.1, (f_M_put R w t P 18 q).2.2) := by
  rw [put_eq R w t (show ¬ 18 = P by omega) hZ hg hk, write_z v w t x y P hg hk]
  exact ⟨rfl, INV_up h hR hg hk, rfl, rfl⟩
theorem lnk_no {v : Nat → VV} {w : Nat → Int64} {r : Nat → VV} (h : INV v w r) (t : Int32) (x y z : VV) (k : Int32) : LNK (k, v, w, t, x, y, z) (k, r, w, t) := ⟨rfl, h, rfl, rfl⟩
theorem agree18 (r : Nat → VV) (Z : VV) : ∀ j, j < 16 → va_up r 18 Z j = r j := fun j hj => up_ne _ _ (by omega)
theorem link_any {v : Nat → VV} {w : Nat → Int64} {r : Nat → VV} (h : INV v w r) (t : Int32) (x y z : VV) (p : Int32) (q : Int64) : LNK (f_S_any v w t x y z p q) (f_M_any r w t p q) := by
  unfold f_S_any f_M_any f_M_any_4g f_M_any_13g f_M_any_21g
  by_cases hp : okp p
  · obtain ⟨i1, i2⟩ := ie_nI hp
    rw [np_yes hp okp0 okp0, if_pos ((rp_iff p).mpr hp), if_neg (by decide), nothingSaid_eq, sayAll_eq]
    exact lnk_put h (agree18 r allV) t x y x y i2 (up_at _ _ _) good_all (hld_all q).2.2
  · rw [np_no (fun z => hp z.1), if_neg (fun z => hp ((rp_iff p).mp z)), rp_1 hp, if_pos rfl]
    exact lnk_no h t x y z 1
theorem link_constant {v : Nat → VV} {w : Nat → Int64} {r : Nat → VV} (h : INV v w r) (t : Int32) (x y z : VV) (p : Int32) (q : Int64) : LNK (f_S_constant v w t x y z p q) (f_M_constant r w t p q) := by
  unfold f_S_constant f_M_constant f_M_constant_4g f_M_constant_14g f_M_constant_22g
  by_cases hp : okp p
  · obtain ⟨i1, i2⟩ := ie_nI hp
    rw [np_yes hp okp0 okp0, if_pos ((rp_iff p).mpr hp), if_neg (by decide), single_eq, sayAll_eq, tighten_one]
    exact lnk_put h (agree18 r _) t x y x y i2 (up_at _ _ _) (good_one q) ((kn_one q q).mpr rfl)
  · rw [np_no (fun z => hp z.1), if_neg (fun z => hp ((rp_iff p).mp z)), rp_1 hp, if_pos rfl]
    exact lnk_no h t x y z 1
theorem holds_all_S (a b n : Int64) : (f_V_holds (f_V_saySigned allV a b) n = 0 ↔ ¬ (a.toInt ≤ n.toInt ∧ n.toInt ≤ b.toInt)) := by
  rw [n_holds _ (by exact (hld_all 0).1)]
  have hk : kn (f_V_saySigned allV a b) n ↔ (a.toInt ≤ n.toInt ∧ n.toInt ≤ b.toInt) := ⟨fun z => z.2.2.2, fun z => ⟨(hld_all n).2.2.1, (hld_all n).2.2.2.1, (hld_all n).2.2.2.2.1, z⟩⟩
  by_cases c : a.toInt ≤ n.toInt ∧ n.toInt ≤ b.toInt
  · rw [if_pos ⟨rfl, hk.mpr c⟩]; exact ⟨fun z => absurd z (by decide), fun z => absurd c z⟩
  · rw [if_neg (fun z => c (hk.mp z.2))]; exact ⟨fun _ => c, fun _ => rfl⟩
theorem holds_all_U (a b n : Int64) : (f_V_holds (f_V_sayUnsigned allV a b) n = 0 ↔ ¬ (un a ≤ un n ∧ un n ≤ un b)) := by
  rw [n_holds _ (by exact (hld_all 0).1)]
  have hk : kn (f_V_sayUnsigned allV a b) n ↔ (un a ≤ un n ∧ un n ≤ un b) := ⟨fun z => ⟨z.2.1, z.2.2.1⟩, fun z => ⟨(hld_all n).2.2.1, z.1, z.2, (hld_all n).2.2.2.2.2⟩⟩
  by_cases c : un a ≤ un n ∧ un n ≤ un b
  · rw [if_pos ⟨rfl, hk.mpr c⟩]; exact ⟨fun z => absurd z (by decide), fun z => absurd c z⟩
  · rw [if_neg (fun z => c (hk.mp z.2))]; exact ⟨fun _ => c, fun _ => rfl⟩
theorem holds_all_B (a b n : Int64) : (f_V_holds (f_V_sayBits allV a b) n = 0 ↔ ¬ (n &&& (b ^^^ (-1 : Int64)) = a &&& (b ^^^ (-1 : Int64)))) := by
  rw [n_holds _ (apart_say a b)]
  have hk : kn (f_V_sayBits allV a b) n ↔ (n &&& (b ^^^ (-1 : Int64)) = a &&& (b ^^^ (-1 : Int64))) := by
    constructor
    · intro z
      apply tb_ext
      intro i hi
      have := z.1 i hi
      rw [tb_and, tb_not _ hi]
      cases hb : tb b i
      · rw [this hb]
        show (tb (a &&& (b ^^^ (-1 : Int64))) i && !false) = _
        simp
      · rw [tb_and, tb_not _ hi, hb]; simp
    · intro e
      refine ⟨fun i hi hb => ?_, (hld_all n).2.2.2⟩
      have hb : tb b i = false := hb
      have e2 : tb (n &&& (b ^^^ (-1 : Int64))) i = tb (a &&& (b ^^^ (-1 : Int64))) i := by rw [e]
      show tb n i = tb (a &&& (b ^^^ (-1 : Int64))) i
      rw [← e2, tb_and, tb_not _ hi, hb]; simp
  by_cases c : n &&& (b ^^^ (-1 : Int64)) = a &&& (b ^^^ (-1 : Int64))
  · rw [if_pos ⟨rfl, hk.mpr c⟩]; exact ⟨fun z => absurd z (by decide), fun z => absurd c z⟩
  · rw [if_neg (fun z => c (hk.mp z.2))]; exact ⟨fun _ => c, fun _ => rfl⟩
theorem kn_of_holds {z : VV} {n : Int64} (ha : apart z.1 z.2.1) (h : ¬ f_V_holds z n = 0) : hld z n := by
  rw [n_holds _ ha] at h
  by_cases c : z.2.2.2.2.2.2 = false ∧ kn z n
  · exact ⟨ha, c.1, c.2⟩
  · rw [if_neg c] at h; exact absurd rfl h
