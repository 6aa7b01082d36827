/-! the class ValueSieve itself: its rows -/
section SROWS
variable {p : Program} {l : Launch} {e : Env} {R : Room} {s : State} {m : MethodId} {args : Array Value} {below : List Frame} {meth : Method} {c : Code} {H : Heap} {locs : List Loc} {cells slots : Nat} {Q : State → Prop}
variable {pc : Nat} {ls : Array Slot} {rest st0 : List Value} {a : Array Value} {A0 : Nat → Prop} {H0 : Heap} {D : va_G} {cc : ByteArray} {ad : Nat → Nat} {cQ cJ : ClassId} {v : Nat → VV} {w : Nat → Int64} {t : Int32} {x y z : VV}
theorem w_widen {g : JFrame} {k n : Nat} (h1 : cells ≤ k) (h2 : slots ≤ n) (kk : W p l e R s m args below meth c H locs k n Q g) : W p l e R s m args below meth c H locs cells slots Q g := fun T hT X => kk T hT (stand_widen X h1 h2)
/-- values[i] -/
theorem sq_ld {P : Nat} (hexec : p.tables.exec = Jvm.exec) (hb : c.code = cc) (hK : va_K D classes (sT cQ cJ) s) (hP : va_P D classes (sW ad cQ cJ v w t x y z) H) {i : Int32} (hi : i = nI P) (hn : P < 16) (hdg : decode cc pc = .ok (.aaload, 1)) (kk : W p l e R s m args below meth c H locs cells slots Q (F0 m (pc + 1) ls (.ref (ad (6 + P)) :: rest))) : W p l e R s m args below meth c H locs cells slots Q (F0 m pc ls (.int i :: .ref (ad 1) :: rest)) := by
  subst hi
  refine va_aldq hexec hb hK hP 1 0 (sW_get (by decide)) rfl (vp_in_nI hn (by decide)) hdg ?_
  rw [nI_clamp (by omega)]
  exact kk
/-- witnesses[i] -/
theorem sw_ld {P : Nat} (hexec : p.tables.exec = Jvm.exec) (hb : c.code = cc) (hK : va_K D classes (sT cQ cJ) s) (hP : va_P D classes (sW ad cQ cJ v w t x y z) H) {i : Int32} (hi : i = nI P) (hn : P < 16) (hdg : decode cc pc = .ok (.laload, 1)) (kk : W p l e R s m args below meth c H locs cells slots Q (F0 m (pc + 1) ls (.long (w P) :: rest))) : W p l e R s m args below meth c H locs cells slots Q (F0 m pc ls (.int i :: .ref (ad 2) :: rest)) := by
  subst hi
  refine va_lald hexec hb hK hP 2 1 (sW_get (by decide)) rfl (vp_in_nI hn (by decide)) hdg ?_
  rw [nI_clamp (by omega)]
  exact kk
theorem sW_set2 (P : Nat) (q : Int64) : (sW ad cQ cJ v w t x y z).set 2 (ad 2, .inl (cJ, 16, .inr (.inl (vp_updL w P q)))) = sW ad cQ cJ v (u8 w P q) t x y z := rfl
theorem sW_set0 (q : Int32) : (sW ad cQ cJ v w t x y z).set 0 (ad 0, .inr (1, [.ref (ad 1), .ref (ad 2), .ref (ad 3), .ref (ad 4), .ref (ad 5), .int q])) = sW ad cQ cJ v w q x y z := rfl
theorem sw_st {P : Nat} {q : Int64} (hexec : p.tables.exec = Jvm.exec) (hb : c.code = cc) (hK : va_K D classes (sT cQ cJ) s) (hP : va_P D classes (sW ad cQ cJ v w t x y z) H) (hD : va_D A0 (sW ad cQ cJ v w t x y z)) (hS : va_S A0 H0 H locs) {i : Int32} (hi : i = nI P) (hn : P < 16) (hdg : decode cc pc = .ok (.lastore, 1)) (kk : ∀ (H1 : Heap) (locs1 : List Loc), va_P D classes (sW ad cQ cJ v (u8 w P q) t x y z) H1 → va_D A0 (sW ad cQ cJ v (u8 w P q) t x y z) → va_S A0 H0 H1 locs1 → W p l e R s m args below meth c H1 locs1 cells slots Q (F0 m (pc + 1) ls rest)) : W p l e R s m args below meth c H locs cells slots Q (F0 m pc ls (.long q :: .int i :: .ref (ad 2) :: rest)) := by
  subst hi
  refine va_last hexec hb hK hP hD hS 2 1 (sW_get (by decide)) rfl (vp_in_nI hn (by decide)) hdg (fun H1 locs1 h1 h2 h3 => ?_)
  rw [nI_clamp (by omega), sW_set2] at h1 h2
  exact kk H1 locs1 h1 h2 h3
/-- strayCount = q -/
theorem st_put {q : Int32} {own : String} {index : Nat} {Ts : List Cond} (hexec : p.tables.exec = Jvm.exec) (hb : c.code = cc) (hts : ∀ w ∈ Ts, w.before args s = true) (hin : ∀ w ∈ u_ws R_S F_S 6, w ∈ Ts) (hown : s.vm.findClass own = some m.cls) (hK : va_K D classes (sT cQ cJ) s) (hP : va_P D classes (sW ad cQ cJ v w t x y z) H) (hD : va_D A0 (sW ad cQ cJ v w t x y z)) (hS : va_S A0 H0 H locs) (hlink : (Cond.fieldLink own index "ValueSieve" "strayCount" "I").before args s = true) (hdg : decode cc pc = .ok (.putfield index, 3)) (kk : ∀ (H1 : Heap) (locs1 : List Loc), va_P D classes (sW ad cQ cJ v w q x y z) H1 → va_D A0 (sW ad cQ cJ v w q x y z) → va_S A0 H0 H1 locs1 → W p l e R s m args below meth c H1 locs1 cells slots Q (F0 m (pc + 3) ls rest)) : W p l e R s m args below meth c H locs cells slots Q (F0 m pc ls (.int q :: .ref (ad 0) :: rest)) :=
  va_put (ci := 1) (C := R_S) (T := F_S) (N := 6) (ty := .int) hexec hb hts hin t_S t_S_ok n_S hown hK hP hD hS 0 (sW_get (by decide)) rfl 5 (by decide) hlink (fun _ h9 => h9) rfl (by decide +kernel) rfl rfl (Nat.le_of_ble_eq_true rfl) hdg (fun H1 locs1 h1 h2 h3 => kk H1 locs1 (by rw [← sW_set0]; exact h1) (by rw [← sW_set0]; exact h2) h3)
/-- a call that changes some of the cells: its own world wc, at the places isC -/
theorem sc_v {T : Type} {F : T} {wc : va_W} {w1 : T → va_W} {v' : T → Nat → VV} {x' y' z' : T → VV} (hr : va_Run p l e R s m args below meth c H locs cells slots 0 0 (F0 m pc ls st0) rest (va_Qv (fun _ : Unit => True) (mB D (va_A wc H.size) (w1 F)) (va_A wc H.size) a) (va_A wc H.size)) (hP : va_P D classes (sW ad cQ cJ v w t x y z) H) (hD : va_D A0 (sW ad cQ cJ v w t x y z)) (hS : va_S A0 H0 H locs) (hA : ∀ q, H0.size ≤ q → A0 q) (isC : List Nat) (hC : isC.map (fun i => (sW ad cQ cJ v w t x y z)[i]?) = wc.map some)
    (hN : ∀ (g : T) (i : Nat), i < 22 → (i ∈ isC → sE ad cQ cJ (v' g) w t (x' g) (y' g) (z' g) i ∈ w1 g) ∧ (i ∉ isC → sE ad cQ cJ (v' g) w t (x' g) (y' g) (z' g) i = sE ad cQ cJ v w t x y z i))
    (kk : ∀ (g : T), F = g → ∀ (H1 : Heap) (locs1 : List Loc), va_P D classes (sW ad cQ cJ (v' g) w t (x' g) (y' g) (z' g)) H1 → va_D A0 (sW ad cQ cJ (v' g) w t (x' g) (y' g) (z' g)) → va_S A0 H0 H1 locs1 → W p l e R s m args below meth c H1 locs1 cells slots Q (F0 m (pc + 3) ls rest)) : W p l e R s m args below meth c H locs cells slots Q (F0 m pc ls st0) := by
  have hF := va_free (wc := wc) hD hS hA isC hC
  refine va_callv hr hS (fun q _ h => hF q h) hF (fun u t1 H1 locs1 ht hvm hw hBB hz1 hk1 hS1 => ?_)
  obtain ⟨hP1, hD1⟩ := hBB
  rw [ht] at hP1
  obtain ⟨hP2, hD2⟩ := va_mix (ws' := sW ad cQ cJ (v' F) w t (x' F) (y' F) (z' F)) hP hD isC hC hk1 hP1 (fun i q hq => by
    obtain ⟨hi, rfl⟩ := sW_at hq
    by_cases hc : i ∈ isC
    · exact Or.inl ((hN F i hi).1 hc)
    · exact Or.inr ⟨hc, by rw [(hN F i hi).2 hc]; exact sW_get hi⟩) sW_ads
  exact kk F rfl H1 locs1 hP2 hD2 hS1
end SROWS
/-- the change of one of the three cells x, y, made, and of one value: how the world's places go -/
theorem sN_fix {ad : Nat → Nat} {cQ cJ : ClassId} {v : Nat → VV} {w : Nat → Int64} {t : Int32} {x y z x' y' z' : VV} {w1 : va_W} {isC : List Nat} (h3 : 3 ∉ isC → x' = x) (h4 : 4 ∉ isC → y' = y) (h5 : 5 ∉ isC → z' = z) (hm : ∀ i ∈ isC, sE ad cQ cJ v w t x' y' z' i ∈ w1) : ∀ i : Nat, i < 22 → (i ∈ isC → sE ad cQ cJ v w t x' y' z' i ∈ w1) ∧ (i ∉ isC → sE ad cQ cJ v w t x' y' z' i = sE ad cQ cJ v w t x y z i) := fun i _ =>
  ⟨hm i, fun hn => sE_same rfl rfl (fun h => h3 (h ▸ hn)) (fun h => h4 (h ▸ hn)) (fun h => h5 (h ▸ hn)) (fun _ _ => rfl)⟩
theorem sN_val {ad : Nat → Nat} {cQ cJ : ClassId} {v : Nat → VV} {w : Nat → Int64} {t : Int32} {x y z q : VV} {P : Nat} {w1 : va_W} {isC : List Nat} (hP : 6 + P ∈ isC) (hm : ∀ i ∈ isC, sE ad cQ cJ (va_up v P q) w t x y z i ∈ w1) : ∀ i : Nat, i < 22 → (i ∈ isC → sE ad cQ cJ (va_up v P q) w t x y z i ∈ w1) ∧ (i ∉ isC → sE ad cQ cJ (va_up v P q) w t x y z i = sE ad cQ cJ v w t x y z i) := fun i _ =>
  ⟨hm i, fun hn => sE_same rfl rfl (fun _ => rfl) (fun _ => rfl) (fun _ => rfl) (fun n h => by
    have : ¬ n = P := fun q => hn (by rw [h, q, Nat.add_comm]; exact hP)
    simp [va_up, this])⟩
