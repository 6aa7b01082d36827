/-! the class ValueSieve itself: its world -/
def sE (ad : Nat → Nat) (cQ cJ : ClassId) (v : Nat → VV) (w : Nat → Int64) (t : Int32) (x y z : VV) : Nat → Nat × va_E
  | 0 => (ad 0, .inr (1, [.ref (ad 1), .ref (ad 2), .ref (ad 3), .ref (ad 4), .ref (ad 5), .int t]))
  | 1 => (ad 1, .inl (cQ, 16, .inr (.inr (.inr (.inr (fun j => some (ad (6 + j))))))))
  | 2 => (ad 2, .inl (cJ, 16, .inr (.inl w)))
  | 3 => (ad 3, vE x)
  | 4 => (ad 4, vE y)
  | 5 => (ad 5, vE z)
  | n + 6 => (ad (6 + n), vE (v n))
def sW (ad : Nat → Nat) (cQ cJ : ClassId) (v : Nat → VV) (w : Nat → Int64) (t : Int32) (x y z : VV) : va_W := (List.range 22).map (sE ad cQ cJ v w t x y z)
def sT (cQ cJ : ClassId) : List (ClassId × FieldType) := [(cQ, .object R_V), (cJ, .long)]
section SW
variable {ad : Nat → Nat} {cQ cJ : ClassId} {v v' : Nat → VV} {w w' : Nat → Int64} {t t' : Int32} {x x' y y' z z' : VV}
theorem sW_get {i : Nat} (hi : i < 22) : (sW ad cQ cJ v w t x y z)[i]? = some (sE ad cQ cJ v w t x y z i) := by
  unfold sW
  rw [List.getElem?_map, List.getElem?_range hi]
  rfl
theorem sW_at {i : Nat} {q : Nat × va_E} (h : (sW ad cQ cJ v w t x y z)[i]? = some q) : i < 22 ∧ q = sE ad cQ cJ v w t x y z i := by
  have hi : i < 22 := by
    have := (List.getElem?_eq_some_iff.mp h).1
    simpa [sW] using this
  rw [sW_get hi] at h
  exact ⟨hi, (Option.some.inj h).symm⟩
theorem sE_ad : ∀ i, (sE ad cQ cJ v w t x y z i).1 = ad i
  | 0 => rfl | 1 => rfl | 2 => rfl | 3 => rfl | 4 => rfl | 5 => rfl
  | n + 6 => by show ad (6 + n) = ad (n + 6); rw [Nat.add_comm]
theorem sE_v (n : Nat) : sE ad cQ cJ v w t x y z (6 + n) = (ad (6 + n), vE (v n)) := by rw [Nat.add_comm 6 n]; show (ad (6 + n), vE (v n)) = _; rw [Nat.add_comm 6 n]
theorem sW_v {p : Nat} (hp : p < 16) : (sW ad cQ cJ v w t x y z)[6 + p]? = some (ad (6 + p), vE (v p)) := by rw [sW_get (by omega), sE_v]
theorem sE_same (h0 : t = t') (h2 : w = w') {i : Nat} (h3 : i = 3 → x = x') (h4 : i = 4 → y = y') (h5 : i = 5 → z = z') (hv : ∀ n, i = n + 6 → v n = v' n) : sE ad cQ cJ v w t x y z i = sE ad cQ cJ v' w' t' x' y' z' i := by
  subst h0; subst h2
  match i, h3, h4, h5, hv with
  | 0, _, _, _, _ => rfl
  | 1, _, _, _, _ => rfl
  | 2, _, _, _, _ => rfl
  | 3, h, _, _, _ => show (ad 3, vE x) = (ad 3, vE x'); rw [h rfl]
  | 4, _, h, _, _ => show (ad 4, vE y) = (ad 4, vE y'); rw [h rfl]
  | 5, _, _, h, _ => show (ad 5, vE z) = (ad 5, vE z'); rw [h rfl]
  | n + 6, _, _, _, h => show (ad (6 + n), vE (v n)) = (ad (6 + n), vE (v' n)); rw [h n rfl]
end SW
/-- a callee has changed some of the cells -/
theorem va_mix {A0 : Nat → Prop} {D : va_G} {cl : List vw_C} {ws wc w1 ws' : va_W} {H H1 : Heap} (hP : va_P D cl ws H) (hD : va_D A0 ws) (isC : List Nat) (hC : isC.map (fun i => ws[i]?) = wc.map some) (hk : ∀ q : Nat, q < H.size → ¬ va_A wc H.size q → H1[q]? = H[q]?) (hP1 : va_P D cl w1 H1)
    (hN : ∀ (i : Nat) (q : Nat × va_E), ws'[i]? = some q → q ∈ w1 ∨ (i ∉ isC ∧ ws[i]? = some q)) (hAd : ∀ (i : Nat) (q : Nat × va_E), ws'[i]? = some q → ∃ e, ws[i]? = some (q.1, e)) : va_P D cl ws' H1 ∧ va_D A0 ws' := by
  have at' : ∀ (k : Nat) (q : Nat × va_E), wc[k]? = some q → ∃ i, isC[k]? = some i ∧ ws[i]? = some q := by
    intro k q hq
    have h1 : (isC.map (fun i => ws[i]?))[k]? = some (some q) := by rw [hC, List.getElem?_map, hq]; rfl
    rw [List.getElem?_map] at h1
    cases hi : isC[k]? with
    | none => rw [hi] at h1; cases h1
    | some i => rw [hi] at h1; exact ⟨i, rfl, Option.some.inj h1⟩
  refine ⟨fun i q hq => ?_, fun i j p q hp hq hpq => ?_, fun i q hq => ?_⟩
  · rcases hN i q hq with h | ⟨h1, h2⟩
    · obtain ⟨k, hk⟩ := List.getElem?_of_mem h
      exact hP1 k q hk
    · have hl := (hP i q h2).lt
      refine (hP i q h2).kept (hk q.1 hl (fun h => ?_))
      rcases h with ⟨k2, e, h⟩ | h
      · obtain ⟨j, h3, h4⟩ := at' k2 (q.1, e) h
        have hij := hD.1 i j q (q.1, e) h2 h4 rfl
        subst hij
        exact h1 (List.mem_of_getElem? h3)
      · omega
  · obtain ⟨e1, g1⟩ := hAd i p hp
    obtain ⟨e2, g2⟩ := hAd j q hq
    exact hD.1 i j (p.1, e1) (q.1, e2) g1 g2 hpq
  · obtain ⟨e1, g1⟩ := hAd i q hq
    exact hD.2 i (q.1, e1) g1
theorem sW_ads {ad : Nat → Nat} {cQ cJ : ClassId} {v v' : Nat → VV} {w w' : Nat → Int64} {t t' : Int32} {x x' y y' z z' : VV} : ∀ (i : Nat) (q : Nat × va_E), (sW ad cQ cJ v' w' t' x' y' z')[i]? = some q → ∃ e, (sW ad cQ cJ v w t x y z)[i]? = some (q.1, e) := fun i q h => by
  obtain ⟨hi, rfl⟩ := sW_at h
  have e : (sE ad cQ cJ v' w' t' x' y' z' i).1 = (sE ad cQ cJ v w t x y z i).1 := (sE_ad i).trans (sE_ad i).symm
  exact ⟨(sE ad cQ cJ v w t x y z i).2, by rw [sW_get hi, e]⟩
theorem kE {D : va_G} {cl : List vw_C} {tys : List (ClassId × FieldType)} {U : State} (h : va_K D cl tys U) : va_K D cl [] U := ⟨h.1, fun k q hq => by cases hq⟩
theorem ie_nI {p : Int32} (h : okp p) : p = nI p.toNatClampNeg ∧ p.toNatClampNeg < 16 := by
  obtain ⟨h1, h2⟩ := h
  have e1 : 0 ≤ p.toInt := by rw [Int32.lt_iff_toInt_lt, Int32.toInt_zero] at h1; omega
  have e2 : p.toInt < 16 := by rw [Int32.lt_iff_toInt_lt] at h2; exact h2
  have e3 : (p.toNatClampNeg : Int) = p.toInt := by unfold Int32.toNatClampNeg; omega
  refine ⟨Int32.toInt_inj.mp ?_, by omega⟩
  rw [nI_toInt (by omega)]; omega
