/-! the law: from its entry -/
theorem va_P3 {D : va_G} {cl : List vw_C} {w1 w2 w3 : va_W} {H : Heap} (h : va_P D cl ((w1 ++ w2) ++ w3) H) : va_P D cl ((w1 ++ w3) ++ w2) H := va_P.app (va_P.app (va_P.left (va_P.left h)) (va_P.right h)) (va_P.right (va_P.left h))
theorem va_Dx {A : Nat → Prop} {w1 w2 : va_W} (h : va_D A (w1 ++ w2)) (i j : Nat) (p q : Nat × va_E) (hp : w1[i]? = some p) (hq : w2[j]? = some q) : p.1 ≠ q.1 := fun e => by
  have hi := (List.getElem?_eq_some_iff.mp hp).1
  have := h.1 i (w1.length + j) p q (by rw [List.getElem?_append_left hi]; exact hp) (by rw [List.getElem?_append_right (Nat.le_add_right _ _), Nat.add_sub_cancel_left]; exact hq) e
  omega
theorem va_D3 {A : Nat → Prop} {w1 w2 w3 : va_W} (h : va_D A ((w1 ++ w2) ++ w3)) : va_D A ((w1 ++ w3) ++ w2) := by
  have lft : ∀ (i : Nat) (p : Nat × va_E), w1[i]? = some p → (w1 ++ w2)[i]? = some p := fun i p hp => by rw [List.getElem?_append_left (List.getElem?_eq_some_iff.mp hp).1]; exact hp
  have rgt : ∀ (i : Nat) (p : Nat × va_E), w2[i]? = some p → (w1 ++ w2)[w1.length + i]? = some p := fun i p hp => by rw [List.getElem?_append_right (Nat.le_add_right _ _), Nat.add_sub_cancel_left]; exact hp
  refine va_D.app (va_D.app (va_D.left (va_D.left h)) (va_D.right h) (fun i j p q hp hq => va_Dx h i j p q (lft i p hp) hq)) (va_D.right (va_D.left h)) (fun i j p q hp hq => ?_)
  rcases Nat.lt_or_ge i w1.length with g | g
  · rw [List.getElem?_append_left g] at hp
    exact va_Dx (va_D.left h) i j p q hp hq
  · rw [List.getElem?_append_right g] at hp
    exact (va_Dx h _ _ q p (rgt j q hq) hp).symm
set_option maxRecDepth 100000 in
set_option maxHeartbeats 4000000 in
/-- the law, from its entry, where no stack is recorded -/
theorem law_start {p : Program} {e : Env} {s : State} {m : MethodId} {below : List Frame} {meth : Method} {c : Code} (l : Launch) (hlt : l.stackTraces = false) {b L : Nat} {xs : Nat → Int32} (hL : L ≤ 4608) (C0 : lw_At p s m meth c b L xs) : W p l e room_1 s m #[Value.ref b] below meth c s.heap [] 0 0 (lw_Z below #[Value.ref b] s) (entryFrame m ([Value.ref b] : List Value).toArray 8) := by
  obtain ⟨hx, hb, hr, hml, hown, hts, hX, hbl, hlocks, hgv⟩ := C0
  have hown : s.vm.findClass R_L = some m.cls := hown
  have hs : ∀ w ∈ nwL, w.before #[Value.ref b] s = true := flat_of_before _ hgv
  have hQ := law_xQ hts hs
  have hNc := law_Nc hs
  have hO : va_AO R_V s := va_AO.of (hts _ tn_O)
  have hNl : va_Nw (.methodLinkNest R_S 19 y_V_init R_S) s := va_Nw.of rfl (hts _ tn_V)
  have hA : ∀ q : Nat, s.heap.size ≤ q → (fun q : Nat => s.heap.size ≤ q) q := fun _ h => h
  obtain ⟨c0, iS0, hKn0⟩ := u_known (C := R_V) (T := F_V) (N := 7) (n := 7) hts (fun w h => tG w (uw_V w h)) (hts (.instantiable R_V 7) (tG _ gw14))
  obtain ⟨c1, iS1, hKn1⟩ := u_known (C := R_S) (T := F_S) (N := 6) (n := 6) hts (fun w h => tG w (uw_S w h)) (hts (.instantiable R_S 6) (tG _ gw7))
  obtain ⟨c2, iS2, hKn2⟩ := u_known (C := R_M) (T := F_M) (N := 10) (n := 10) hts (fun w h => tM w (uw_M w h)) (hts (.instantiable R_M 10) (tM _ gx5))
  obtain ⟨dC, dI, hKc⟩ : ∃ (dC : Nat → ClassId) (dI : Nat → Nat → Nat), ∀ (k : Nat) (q : vw_C), classes[k]? = some q → u_Kn s q.1 q.2.1 q.2.2 (dC k) (dI k) := by
    refine ⟨fun k => if k = 0 then c0 else if k = 1 then c1 else c2, fun k => if k = 0 then iS0 else if k = 1 then iS1 else iS2, ?_⟩
    intro k q hq
    match k, hq with
    | 0, hq => cases hq; exact hKn0
    | 1, hq => cases hq; exact hKn1
    | 2, hq => cases hq; exact hKn2
    | k + 3, hq => simp [classes] at hq
  have hS : va_S (fun q : Nat => s.heap.size ≤ q) s.heap s.heap [] := va_S.rf
  have hK : va_K (dC, dI) classes [] s := ⟨hKc, fun k q h => by simp at h⟩
  have hP : va_P (dC, dI) classes [] s.heap := fun k q h => by simp at h
  have hD : va_D (fun q : Nat => s.heap.size ≤ q) [] := ⟨fun i j p q h => by simp at h, fun k q h => by simp at h⟩
  have hl := lv_entry ([.ref b]) (n := 8) (Nat.le_of_ble_eq_true rfl)
  rw [lg_entry_eq]
  generalize (lg_sl ([.ref b]) ++ List.replicate (8 - (lg_sl ([.ref b])).length) Slot.unset).toArray = ls at hl ⊢
  have hl : lv_has ls 8 [(0, .ref b)] := hl
  refine va_new (ci := 1) (fs := [.null, .null, .null, .null, .null, .int 0]) (C := R_S) (T := F_S) (N := 6) hx hb hts (fun w h => tG w (uw_S w h)) t_S t_S_ok hown (hts _ tk_S) (hts (.instantiable R_S 6) (tG _ gw7)) (hts (.initialized R_S) (tG _ gw0)) hK hP hD hS hA rfl (fun j hj => by rcases (show j = 0 ∨ j = 1 ∨ j = 2 ∨ j = 3 ∨ j = 4 ∨ j = 5 by omega) with rfl | rfl | rfl | rfl | rfl | rfl <;> rfl) (Nat.le_of_ble_eq_true rfl) (Nat.le_of_ble_eq_true rfl) dl_0 (fun q0 H hP hD hS => ?_)
  have hP : va_P (dC, dI) classes [(q0, .inr (1, [.null, .null, .null, .null, .null, .int 0]))] H := hP
  have hD : va_D (fun q : Nat => s.heap.size ≤ q) [(q0, .inr (1, [.null, .null, .null, .null, .null, .int 0]))] := hD
  refine W.widen (k := 1) (n := 6) (by omega) (by omega) ?_
  refine lv_dup hx hb dl_3 rfl ?_
  have hF := va_fr hD hS hA
  refine va_callv (va_runI (As := []) (rest := [.ref q0]) ⟨hx, hb, hml, hown, hts⟩ (c_S_init l dC dI q0 H.size) (cwI 0 hts (gIL gw9) rfl rfl rfl (hts (.initialized R_S) (tG _ gw0)) (hts _ tk_iS) (hts (.instanceMethod y_S_init) (tG _ gw8)) rfl (by decide +kernel) ⟨(Nat.le_of_ble_eq_true rfl), (Nat.le_of_ble_eq_true rfl)⟩) ⟨bli, fun U hU hW => ⟨rfl, by rw [hU], by rw [hU]; exact hP, va_K.moved hW.alike hK, hD.weaken (fun _ _ _ _ => trivial), va_AO.moved hW.alike hO, va_Nw.warmM hW hNl⟩⟩ rfl rfl hl.1 rfl (lv_room (Nat.le_of_ble_eq_true rfl)) dl_4 ⟨(Nat.le_of_ble_eq_true rfl), (Nat.le_of_ble_eq_true rfl)⟩) hS (fun q _ h => hF q h) hF (fun u t H1 locs ht hvm hw hB hz1 hk1 hS => ?_)
  obtain ⟨ad, cQ, cJ⟩ := u
  obtain ⟨hP1, hD1, hK1⟩ := hB
  rw [ht] at hP1
  have hw : ad 0 = q0 := hw
  subst hw
  have hKs : va_K (dC, dI) classes (sT cQ cJ) s := va_K.moved hvm.symm hK1
  have hP : va_P (dC, dI) classes (sW ad cQ cJ (fun _ => zeV) (fun _ => 0) 0 zeV zeV zeV) H1 := hP1
  have hD : va_D (fun q : Nat => s.heap.size ≤ q) (sW ad cQ cJ (fun _ => zeV) (fun _ => 0) 0 zeV zeV zeV) := hD1.weaken (fun k q _ h => hF q.1 h)
  clear hP1 hD1 hK1 hF hk1
  refine W.widen (k := 22) (n := 171) (by omega) (by omega) ?_
  refine lv_astore_n (lv' := [(1, .ref (ad 0)), (0, .ref b)]) hx hb dl_7 rfl hl (by decide) rfl (fun ls hl => ?_)
  refine va_new (ci := 2) (fs := [.int 0, .null, .null, .null, .null, .null, .null, .null, .null, .int 0]) (C := R_M) (T := F_M) (N := 10) hx hb hts (fun w h => tM w (uw_M w h)) t_M t_M_ok hown (hts _ tk_M) (hts (.instantiable R_M 10) (tM _ gx5)) (hts (.initialized R_M) (tM _ gx0)) hK hP hD hS hA rfl (fun j hj => by rcases (show j = 0 ∨ j = 1 ∨ j = 2 ∨ j = 3 ∨ j = 4 ∨ j = 5 ∨ j = 6 ∨ j = 7 ∨ j = 8 ∨ j = 9 by omega) with rfl | rfl | rfl | rfl | rfl | rfl | rfl | rfl | rfl | rfl <;> rfl) (Nat.le_of_ble_eq_true rfl) (Nat.le_of_ble_eq_true rfl) dl_8 (fun q1 H hP hD hS => ?_)
  refine W.widen (k := 23) (n := 181) (by omega) (by omega) ?_
  refine lv_dup hx hb dl_11 rfl ?_
  have hF := va_fr (va_D.right hD) hS hA
  have hKj : va_K (dC, dI) classes [(cJ, .long)] s := hKs.sub [1] rfl
  refine va_callv (va_runI (As := []) (rest := [.ref q1]) ⟨hx, hb, hml, hown, hts⟩ (c_M_init l dC dI q1 cJ H.size) (cwI 0 hts (gIM gx7) rfl rfl rfl (hts (.initialized R_M) (tM _ gx0)) (hts _ tk_iM) (hts (.instanceMethod y_M_init) (tM _ gx6)) rfl (by decide +kernel) ⟨(Nat.le_of_ble_eq_true rfl), (Nat.le_of_ble_eq_true rfl)⟩) ⟨blp, fun U hU hW => ⟨rfl, by rw [hU], by rw [hU]; exact va_P.right hP, va_K.moved hW.alike hKj, (va_D.right hD).weaken (fun _ _ _ _ => trivial)⟩⟩ rfl rfl hl.1 rfl (lv_room (Nat.le_of_ble_eq_true rfl)) dl_12 ⟨(Nat.le_of_ble_eq_true rfl), (Nat.le_of_ble_eq_true rfl)⟩) hS (fun q _ h => hF q h) hF (fun u t H1 locs ht hvm hw hB hz1 hk1 hS => ?_)
  obtain ⟨am, cZ⟩ := u
  obtain ⟨hP1, hD1, hK1⟩ := hB
  rw [ht] at hP1
  have hw : am 0 = q1 := hw
  subst hw
  have hKm : va_K (dC, dI) classes (mT cJ cZ) s := va_K.moved hvm.symm hK1
  obtain ⟨hP, hD⟩ := va_two2 hP hD hk1 hP1 hD1 hF
  have hP : va_P (dC, dI) classes (sW ad cQ cJ (fun _ => zeV) (fun _ => 0) 0 zeV zeV zeV ++ mW am cJ cZ 0 (fun _ => zeV) (fun _ => 0) 0) H1 := hP
  have hD : va_D (fun q : Nat => s.heap.size ≤ q) (sW ad cQ cJ (fun _ => zeV) (fun _ => 0) 0 zeV zeV zeV ++ mW am cJ cZ 0 (fun _ => zeV) (fun _ => 0) 0) := hD
  clear hP1 hD1 hK1 hF hk1
  refine W.widen (k := 31) (n := 365) (by omega) (by omega) ?_
  refine lv_astore_n (lv' := [(2, .ref (am 0)), (1, .ref (ad 0)), (0, .ref b)]) hx hb dl_15 rfl hl (by decide) rfl (fun ls hl => ?_)
  refine lv_iconst (v := 1) hx hb dl_16 (by decide) ?_
  refine va_newa (atype := .long) (a0 := (1, .inr (.inl (fun _ => (0 : Int64))))) hx hb (hts (.arrayClass .long) (tM _ gx3)) (ty := .long) rfl hKj hP hD hS hA (fun _ => rfl) (by decide) (N' := 1) (by decide) (by decide) (Nat.le_of_ble_eq_true rfl) (Nat.le_of_ble_eq_true rfl) dl_17 (fun oa cO H hKo hP hD hS => ?_)
  have eO : cO = cJ := Option.some.inj ((hKo.2 1 _ rfl).2.symm.trans (hKo.2 0 _ rfl).2)
  rw [eO] at hP hD
  have hP : va_P (dC, dI) classes ((sW ad cQ cJ (fun _ => zeV) (fun _ => 0) 0 zeV zeV zeV ++ mW am cJ cZ 0 (fun _ => zeV) (fun _ => 0) 0) ++ [(oa, .inl (cJ, 1, .inr (.inl (fun _ => (0 : Int64)))))]) H := hP
  have hD : va_D (fun q : Nat => s.heap.size ≤ q) ((sW ad cQ cJ (fun _ => zeV) (fun _ => 0) 0 zeV zeV zeV ++ mW am cJ cZ 0 (fun _ => zeV) (fun _ => 0) 0) ++ [(oa, .inl (cJ, 1, .inr (.inl (fun _ => (0 : Int64)))))]) := hD
  have hP := va_P3 hP
  have hD := va_D3 hD
  refine lv_astore_n (lv' := [(3, .ref oa), (2, .ref (am 0)), (1, .ref (ad 0)), (0, .ref b)]) hx hb dl_19 rfl hl (by decide) rfl (fun ls hl => ?_)
  refine lv_iconst (v := 0) hx hb dl_20 (by decide) ?_
  refine lv_istore (lv' := [(4, .int 0), (3, .ref oa), (2, .ref (am 0)), (1, .ref (ad 0)), (0, .ref b)]) hx hb dl_21 hl (by decide) rfl (fun ls hl => ?_)
  refine W.widen (k := 40 + 4 * 0) (n := 500 + 24 * 0) (by decide) (by decide) ?_
  have hl : lv_has ls 8 [(4, .int (nI (9 * 0))), (3, .ref oa), (2, .ref (am 0)), (1, .ref (ad 0)), (0, .ref b)] := hl
  exact law_loop ⟨hx, hb, hml, hown, hts, hX, hbl, hL, hlt, hQ, hNc, hKs, hKm⟩ hr hlocks (L + 1) 0 (by omega) (by omega) _ _ _ _ _ _ _ _ _ H locs ls ⟨INV_0, hP, hD, hS⟩ (lv_sub hl [4, 3, 2, 1, 0] rfl)
