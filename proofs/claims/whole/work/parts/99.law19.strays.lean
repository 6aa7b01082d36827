/-! the law: strays -/
theorem dl_1703 : decode code 1703 = .ok (.aload_n 1, 1) := by decide +kernel
theorem dl_1704 : decode code 1704 = .ok (.invokevirtual 156, 3) := by decide +kernel
theorem dl_1707 : decode code 1707 = .ok (.aload_n 2, 1) := by decide +kernel
theorem dl_1708 : decode code 1708 = .ok (.invokevirtual 159, 3) := by decide +kernel
theorem dl_1711 : decode code 1711 = .ok (.if_icmp .eq 5, 3) := by decide +kernel
theorem dl_1714 : decode code 1714 = .ok (.iconst 0, 1) := by decide +kernel
theorem dl_1715 : decode code 1715 = .ok (.ireturn, 1) := by decide +kernel
set_option maxRecDepth 100000 in
theorem tw18_0 : Cond.methodLink R_L 156 y_S_strays ∈ lw_tbl := List.mem_of_getElem? (i := 137) rfl
set_option maxRecDepth 100000 in
theorem tw18_1 : Cond.methodLink R_L 159 y_M_strays ∈ lw_tbl := List.mem_of_getElem? (i := 950) rfl
set_option maxRecDepth 100000 in
set_option maxHeartbeats 4000000 in
theorem law_strays {p : Program} {l : Launch} {e : Env} {s : State} {m : MethodId} {below : List Frame} {meth : Method} {c : Code} {b L : Nat} {xs : Nat → Int32} {dC : Nat → ClassId} {dI : Nat → Nat → Nat} {cQ cJ cZ : ClassId} {ad am : Nat → Nat} {oa i cells slots : Nat} {Q : State → Prop} {v : Nat → VV} {w : Nat → Int64} {t : Int32} {x y z : VV} {o : Nat → Int64} {c0 : Int32} {r : Nat → VV} {H : Heap} {locs : List Loc} {ls : Array Slot} (E : LE l p s m c b L xs dC dI cQ cJ cZ) (hi : i + 9 ≤ L) (hc1 : cells + 4 ≤ 601024) (hc2 : slots + 24 ≤ 7293034) (I : LI s dC dI cQ cJ cZ ad am oa v w t x y z o c0 r H locs) (hl : LL ls b ad am oa i) (kk : LK p l e s m below meth c b dC dI cQ cJ cZ ad am oa i cells slots Q) : W p l e room_1 s m #[Value.ref b] below meth c H locs cells slots Q (F0 m 1703 ls []) := by
  obtain ⟨hx, hb, hml, hown, hts, hX, hbl, hL, hlt, hQ, hNc, hKs, hKm⟩ := E
  obtain ⟨hI, hP, hD, hS⟩ := I
  have hA : ∀ q : Nat, s.heap.size ≤ q → (fun q : Nat => s.heap.size ≤ q) q := fun _ h => h
  have hbA : ¬ (fun q : Nat => s.heap.size ≤ q) b := Nat.not_le.mpr hbl
  have hl : lv_has ls 8 [(0, .ref b), (1, .ref (ad 0)), (2, .ref (am 0)), (3, .ref oa), (4, .int (nI i))] := hl
  have hP : va_P (dC, dI) classes (sW ad cQ cJ v w t x y z ++ ([(oa, .inl (cJ, 1, .inr (.inl o)))] ++ mW am cJ cZ c0 r w t)) H := by rw [← List.append_assoc]; exact hP
  have hD : va_D (fun q : Nat => s.heap.size ≤ q) (sW ad cQ cJ v w t x y z ++ ([(oa, .inl (cJ, 1, .inr (.inl o)))] ++ mW am cJ cZ c0 r w t)) := by rw [← List.append_assoc]; exact hD
  refine lv_aload_n hx hb dl_1703 rfl (lv_at hl 1 rfl) ?_
  have hF := va_fr (va_D.left hD) hS hA
  refine va_calli (va_runV (As := []) (rest := []) ⟨hx, hb, hml, hown, hts⟩ (c_S_strays l dC dI ad cQ cJ H.size v w t x y z) (cwV 0 hts (gLC tw18_0 gw64 gw65 gw66) rfl rfl rfl (by decide +kernel) ⟨(Nat.le_of_ble_eq_true rfl), (Nat.le_of_ble_eq_true rfl)⟩) ⟨blp, va_recv hKs (va_P.left hP) (ci := 1) (q0 := 0) rfl (sW_get (by decide)), fun U hU hW => ⟨rfl, by rw [hU], by rw [hU]; exact va_P.left hP, va_K.moved hW.alike hKs, (va_D.left hD).weaken (fun _ _ _ _ => trivial)⟩⟩ rfl rfl hl.1 rfl (lv_room (Nat.le_of_ble_eq_true rfl)) dl_1704 ⟨(show cells + 0 ≤ 601024 by omega), (show slots + 0 ≤ 7293034 by omega)⟩) hS (fun q _ h => hF q h) hF (fun r9 u t9 H1 locs1 ht hvm hw hBB hz1 hk1 hS1 => ?_)
  obtain ⟨hP1, hD1⟩ := hBB
  rw [ht] at hP1
  have hw : r9 = t := hw.1
  subst hw
  obtain ⟨hP, hD⟩ := va_two hP hD hk1 hP1 hD1 hF
  rw [← List.append_assoc] at hP hD
  refine lv_aload_n hx hb dl_1707 rfl (lv_at hl 2 rfl) ?_
  refine lc_Mi (va_runV (As := []) (rest := [.int r9]) ⟨hx, hb, hml, hown, hts⟩ (c_M_strays l dC dI am cJ cZ H1.size c0 r w r9) (cwV 0 hts (gLM tw18_1 gx264 gx265 gx266) rfl rfl rfl (by decide +kernel) ⟨(Nat.le_of_ble_eq_true rfl), (Nat.le_of_ble_eq_true rfl)⟩) (lc_pM (va_P.right hP) (va_D.right hD) hKm) rfl rfl hl.1 rfl (lv_room (Nat.le_of_ble_eq_true rfl)) dl_1708 ⟨(show cells + 0 + 0 ≤ 601024 by omega), (show slots + 0 + 0 ≤ 7293034 by omega)⟩) hP hD hS1 hA (fun H locs hP hD hS => ?_)
  refine lv_icmp_eq (tgt := 1716) hx hb dl_1711 (by decide) (fun _ => ?_) (fun hz => absurd (show r9 = (f_M_strays r9).1 from rfl) hz)
  refine W.widen (k := cells + 4) (n := slots + 24) (by omega) (by omega) ?_
  exact kk _ _ _ _ _ _ _ _ _ _ _ ls ⟨hI, hP, hD, hS⟩ (lv_sub hl [0, 1, 2, 3, 4] rfl)
