-- ValueSieve.requirePlace
theorem d_S_requirePlace_0 : decode b_S_requirePlace 0 = .ok (.iload_n 0, 1) := by decide +kernel
theorem d_S_requirePlace_1 : decode b_S_requirePlace 1 = .ok (.ifCond .lt 9, 3) := by decide +kernel
theorem d_S_requirePlace_4 : decode b_S_requirePlace 4 = .ok (.iload_n 0, 1) := by decide +kernel
theorem d_S_requirePlace_5 : decode b_S_requirePlace 5 = .ok (.bipush 16, 2) := by decide +kernel
theorem d_S_requirePlace_7 : decode b_S_requirePlace 7 = .ok (.if_icmp .lt 13, 3) := by decide +kernel
theorem d_S_requirePlace_10 : decode b_S_requirePlace 10 = .ok (.new 162, 3) := by decide +kernel
theorem d_S_requirePlace_13 : decode b_S_requirePlace 13 = .ok (.dup, 1) := by decide +kernel
theorem d_S_requirePlace_14 : decode b_S_requirePlace 14 = .ok (.ldc 164, 2) := by decide +kernel
theorem d_S_requirePlace_16 : decode b_S_requirePlace 16 = .ok (.invokespecial 166, 3) := by decide +kernel
theorem d_S_requirePlace_19 : decode b_S_requirePlace 19 = .ok (.athrow, 1) := by decide +kernel
theorem d_S_requirePlace_20 : decode b_S_requirePlace 20 = .ok (.return_, 1) := by decide +kernel
def f_S_requirePlace (p1 : Int32) : Int32 := (if p1 < 0 then 1 else (if p1 < 16 then 0 else 1))
set_option maxRecDepth 100000 in
set_option maxHeartbeats 4000000 in
theorem c_S_requirePlace (l : Launch) (hlt : l.stackTraces = false) (sz : Nat) (p1 : Int32) : vx_Met l y_S_requirePlace k_S_requirePlace ({ frames := 6, cells := 1, slots := 6, locals := 100 } : Room) (va_Pc [.int (p1)] (xP sz)) (va_Qv (fun _ : Unit => f_S_requirePlace p1 = 0) (fun _ _ => True) (fun q => sz ≤ q)) (vx_X (fun _ : Unit => True) (fun E _ _ => xE (f_S_requirePlace p1) E) (fun q => sz ≤ q)) 1 6 (fun q => sz ≤ q) := by
  refine vx_ofW (cc := b_S_requirePlace) (maxL := 1) (ret := none) (by decide) rfl ?_
  intro p e s m args below meth c s₁ B hml htab hv
  obtain ⟨rfl, hsz, hX⟩ := hv
  have hx := B.exec
  have hb := B.bytes
  have hr := B.returns
  have hts := atoms_spec (ws := k_S_requirePlace) B.pre
  have hG : ∀ w ∈ gP, w.before _ s = true := fun w h => hts w (List.mem_cons_of_mem _ h)
  have hown : s.vm.findClass R_S = some m.cls := findClass_of_methodNamed B.named
  have hlocks := B.notSynchronized
  subst hsz
  have hP : va_P ((fun _ => m.cls), (fun _ _ => 0)) classes [] s.heap := fun k q hq => by cases hq
  generalize hAe : (fun q : Nat => s.heap.size ≤ q) = A at hX ⊢
  have hA : ∀ q : Nat, s.heap.size ≤ q → A q := fun q h => by rw [← hAe]; exact h
  have hS : va_S A s.heap s.heap [] := va_S.rf
  have hl := lv_entry ([.int (p1)]) (n := 1) (Nat.le_of_ble_eq_true rfl)
  rw [lg_entry_eq]
  generalize (lg_sl ([.int (p1)]) ++ List.replicate (1 - (lg_sl ([.int (p1)])).length) Slot.unset).toArray = ls at hl ⊢
  have hl : lv_has ls 1 [(0, .int (p1))] := hl
  refine lv_iload_n hx hb d_S_requirePlace_0 rfl (lv_at hl 0 rfl) ?_
  refine lv_if_lt (tgt := 10) hx hb d_S_requirePlace_1 (by decide) (fun e1_10 => ?_) (fun e1_10 => ?_)
  · have fe : f_S_requirePlace p1 = 1 := by unfold f_S_requirePlace; first | with_reducible exact if_pos e1_10 | exact if_pos e1_10
    obtain ⟨sa, hsa⟩ := hX.2.2.1 (164, "there is no such place") (by decide)
    refine vx_throwS hx hb hlt hown (cls := eI) (names := eN) (by decide +kernel) (by decide +kernel) (hG _ (List.mem_append_right _ (by decide +kernel))) (hG _ (List.mem_append_right _ (by decide +kernel))) hsa (hat_I hG hX) ot_I hX.1 hX.2.1 hS (hl.1.trans hml.symm) d_S_requirePlace_10 d_S_requirePlace_13 d_S_requirePlace_14 d_S_requirePlace_16 d_S_requirePlace_19 (fun x hx9 => (htab x hx9).elim) (Nat.le_of_ble_eq_true rfl) (by show _ ≤ _; decide) (Nat.le_of_ble_eq_true rfl) (Nat.le_of_ble_eq_true rfl) hlocks (fun t9 hal hsz9 hk9 => ?_) ?_ (Nat.le_of_ble_eq_true rfl) (Nat.le_of_ble_eq_true rfl)
    · exact ⟨(), trivial, (by rw [fe]; exact Or.inl ⟨rfl, rfl⟩), ⟨Nat.le_trans hS.1 hsz9, fun q h1 h2 => (hk9 q (Nat.lt_of_lt_of_le h1 hS.1)).trans (hS.2.1 q h1 h2)⟩⟩
    · exact hS.2.2
  · refine lv_iload_n hx hb d_S_requirePlace_4 rfl (lv_at hl 0 rfl) ?_
    refine lv_bipush (v := 16) hx hb d_S_requirePlace_5 (by decide) ?_
    refine lv_icmp_lt (tgt := 20) hx hb d_S_requirePlace_7 (by decide) (fun e2_20 => ?_) (fun e2_20 => ?_)
    · have fe : f_S_requirePlace p1 = 0 := by unfold f_S_requirePlace; first | with_reducible exact (if_neg e1_10).trans (if_pos e2_20) | exact (if_neg e1_10).trans (if_pos e2_20)
      refine w_widen (k := 1) (n := 6) (Nat.le_of_ble_eq_true rfl) (Nat.le_of_ble_eq_true rfl) ?_
      refine vx_ret ?_
      exact W.vret hx hb hr (fun t9 ht hW => ⟨⟨(), rfl, fe, trivial⟩, hS.F ht⟩) hS.2.2 d_S_requirePlace_20
    · have fe : f_S_requirePlace p1 = 1 := by unfold f_S_requirePlace; first | with_reducible exact (if_neg e1_10).trans (if_neg e2_20) | exact (if_neg e1_10).trans (if_neg e2_20)
      obtain ⟨sa, hsa⟩ := hX.2.2.1 (164, "there is no such place") (by decide)
      refine vx_throwS hx hb hlt hown (cls := eI) (names := eN) (by decide +kernel) (by decide +kernel) (hG _ (List.mem_append_right _ (by decide +kernel))) (hG _ (List.mem_append_right _ (by decide +kernel))) hsa (hat_I hG hX) ot_I hX.1 hX.2.1 hS (hl.1.trans hml.symm) d_S_requirePlace_10 d_S_requirePlace_13 d_S_requirePlace_14 d_S_requirePlace_16 d_S_requirePlace_19 (fun x hx9 => (htab x hx9).elim) (Nat.le_of_ble_eq_true rfl) (by show _ ≤ _; decide) (Nat.le_of_ble_eq_true rfl) (Nat.le_of_ble_eq_true rfl) hlocks (fun t9 hal hsz9 hk9 => ?_) ?_ (Nat.le_of_ble_eq_true rfl) (Nat.le_of_ble_eq_true rfl)
      · exact ⟨(), trivial, (by rw [fe]; exact Or.inl ⟨rfl, rfl⟩), ⟨Nat.le_trans hS.1 hsz9, fun q h1 h2 => (hk9 q (Nat.lt_of_lt_of_le h1 hS.1)).trans (hS.2.1 q h1 h2)⟩⟩
      · exact hS.2.2
theorem rp_ok {p : Int32} (h : f_S_requirePlace p = 0) : okp p := by
  unfold f_S_requirePlace at h
  by_cases h1 : p < 0
  · rw [if_pos h1] at h; cases h
  · rw [if_neg h1] at h
    by_cases h2 : p < 16
    · exact ⟨h1, h2⟩
    · rw [if_neg h2] at h; cases h
-- ValueSieve.requireComparison
theorem d_S_requireComparison_0 : decode b_S_requireComparison 0 = .ok (.iload_n 1, 1) := by decide +kernel
theorem d_S_requireComparison_1 : decode b_S_requireComparison 1 = .ok (.invokestatic 34, 3) := by decide +kernel
theorem d_S_requireComparison_4 : decode b_S_requireComparison 4 = .ok (.iload_n 2, 1) := by decide +kernel
theorem d_S_requireComparison_5 : decode b_S_requireComparison 5 = .ok (.invokestatic 34, 3) := by decide +kernel
theorem d_S_requireComparison_8 : decode b_S_requireComparison 8 = .ok (.iload_n 0, 1) := by decide +kernel
theorem d_S_requireComparison_9 : decode b_S_requireComparison 9 = .ok (.ifCond .lt 9, 3) := by decide +kernel
theorem d_S_requireComparison_12 : decode b_S_requireComparison 12 = .ok (.iload_n 0, 1) := by decide +kernel
theorem d_S_requireComparison_13 : decode b_S_requireComparison 13 = .ok (.bipush 11, 2) := by decide +kernel
theorem d_S_requireComparison_15 : decode b_S_requireComparison 15 = .ok (.if_icmp .le 13, 3) := by decide +kernel
theorem d_S_requireComparison_18 : decode b_S_requireComparison 18 = .ok (.new 62, 3) := by decide +kernel
theorem d_S_requireComparison_21 : decode b_S_requireComparison 21 = .ok (.dup, 1) := by decide +kernel
theorem d_S_requireComparison_22 : decode b_S_requireComparison 22 = .ok (.ldc 167, 2) := by decide +kernel
theorem d_S_requireComparison_24 : decode b_S_requireComparison 24 = .ok (.invokespecial 66, 3) := by decide +kernel
theorem d_S_requireComparison_27 : decode b_S_requireComparison 27 = .ok (.athrow, 1) := by decide +kernel
theorem d_S_requireComparison_28 : decode b_S_requireComparison 28 = .ok (.iload_n 1, 1) := by decide +kernel
theorem d_S_requireComparison_29 : decode b_S_requireComparison 29 = .ok (.iload_n 2, 1) := by decide +kernel
theorem d_S_requireComparison_30 : decode b_S_requireComparison 30 = .ok (.if_icmp .ne 13, 3) := by decide +kernel
theorem d_S_requireComparison_33 : decode b_S_requireComparison 33 = .ok (.new 62, 3) := by decide +kernel
theorem d_S_requireComparison_36 : decode b_S_requireComparison 36 = .ok (.dup, 1) := by decide +kernel
theorem d_S_requireComparison_37 : decode b_S_requireComparison 37 = .ok (.ldc 169, 2) := by decide +kernel
theorem d_S_requireComparison_39 : decode b_S_requireComparison 39 = .ok (.invokespecial 66, 3) := by decide +kernel
theorem d_S_requireComparison_42 : decode b_S_requireComparison 42 = .ok (.athrow, 1) := by decide +kernel
theorem d_S_requireComparison_43 : decode b_S_requireComparison 43 = .ok (.return_, 1) := by decide +kernel
def f_S_requireComparison (p1 : Int32) (p2 : Int32) (p3 : Int32) : Int32 := (if f_S_requirePlace p2 = 0 then (if f_S_requirePlace p3 = 0 then (if p1 < 0 then 2 else (if p1 ≤ 11 then (if p2 = p3 then 2 else 0) else 2)) else (f_S_requirePlace p3)) else (f_S_requirePlace p2))
def k_S_requireComparison : List Cond := Cond.code y_S_requireComparison b_S_requireComparison 3 none :: gP
set_option maxRecDepth 100000 in
set_option maxHeartbeats 4000000 in
theorem c_S_requireComparison (l : Launch) (hlt : l.stackTraces = false) (sz : Nat) (p1 : Int32) (p2 : Int32) (p3 : Int32) : vx_Met l y_S_requireComparison k_S_requireComparison ({ frames := 7, cells := 3, slots := 18, locals := 120 } : Room) (va_Pc [.int (p1), .int (p2), .int (p3)] (xP sz)) (va_Qv (fun _ : Unit => f_S_requireComparison p1 p2 p3 = 0) (fun _ _ => True) (fun q => sz ≤ q)) (vx_X (fun _ : Unit => True) (fun E _ _ => xE (f_S_requireComparison p1 p2 p3) E) (fun q => sz ≤ q)) 3 18 (fun q => sz ≤ q) := by
  refine vx_ofW (cc := b_S_requireComparison) (maxL := 3) (ret := none) (by decide) rfl ?_
  intro p e s m args below meth c s₁ B hml htab hv
  obtain ⟨rfl, hsz, hX⟩ := hv
  have hx := B.exec
  have hb := B.bytes
  have hr := B.returns
  have hts := atoms_spec (ws := k_S_requireComparison) B.pre
  have hG : ∀ w ∈ gP, w.before _ s = true := fun w h => hts w (List.mem_cons_of_mem _ h)
  have hown : s.vm.findClass R_S = some m.cls := findClass_of_methodNamed B.named
  have hlocks := B.notSynchronized
  subst hsz
  have hP : va_P ((fun _ => m.cls), (fun _ _ => 0)) classes [] s.heap := fun k q hq => by cases hq
  generalize hAe : (fun q : Nat => s.heap.size ≤ q) = A at hX ⊢
  have hA : ∀ q : Nat, s.heap.size ≤ q → A q := fun q h => by rw [← hAe]; exact h
  have hS : va_S A s.heap s.heap [] := va_S.rf
  have hl := lv_entry ([.int (p1), .int (p2), .int (p3)]) (n := 3) (Nat.le_of_ble_eq_true rfl)
  rw [lg_entry_eq]
  generalize (lg_sl ([.int (p1), .int (p2), .int (p3)]) ++ List.replicate (3 - (lg_sl ([.int (p1), .int (p2), .int (p3)])).length) Slot.unset).toArray = ls at hl ⊢
  have hl : lv_has ls 3 [(0, .int (p1)), (1, .int (p2)), (2, .int (p3))] := hl
  refine lv_iload_n hx hb d_S_requireComparison_0 rfl (lv_at hl 1 rfl) ?_
  refine sx_v (F := f_S_requirePlace p2) (vx_runS (As := [.int (p2)]) (rest := []) ⟨hx, hb, hml, hown, hts⟩ (c_S_requirePlace l hlt s.heap.size p2) (va_cwS 1 hts (gSS gw70 gw71 gw0 gw72) rfl rfl rfl (by decide +kernel) ⟨(Nat.le_of_ble_eq_true rfl), (Nat.le_of_ble_eq_true rfl)⟩) ⟨blx, fun U hU hW => ⟨rfl, by rw [hU], xq_at hX hS hA hU hW⟩⟩ rfl rfl hl.1 rfl (lv_room (Nat.le_of_ble_eq_true rfl)) d_S_requireComparison_1 ⟨(Nat.le_of_ble_eq_true rfl), (Nat.le_of_ble_eq_true rfl)⟩) hP hS hA (fun E ce q9 H locs hE hP hS hce hcv hcl => ?_) (fun h1 H locs hP hS => ?_)
  · have fe : f_S_requireComparison p1 p2 p3 = (f_S_requirePlace p2) := by unfold f_S_requireComparison; first | with_reducible exact if_neg hE.ne | exact if_neg hE.ne
    exact vx_out (fun x hx9 => (htab x hx9).elim) hlocks hce hcv hcl (fun t9 ht hal => ⟨(), trivial, by rw [fe]; exact hE, hS.F ht⟩) hS.2.2 (Nat.le_of_ble_eq_true rfl) (Nat.le_of_ble_eq_true rfl)
  · refine lv_iload_n hx hb d_S_requireComparison_4 rfl (lv_at hl 2 rfl) ?_
    refine sx_v (F := f_S_requirePlace p3) (vx_runS (As := [.int (p3)]) (rest := []) ⟨hx, hb, hml, hown, hts⟩ (c_S_requirePlace l hlt H.size p3) (va_cwS 1 hts (gSS gw70 gw71 gw0 gw72) rfl rfl rfl (by decide +kernel) ⟨(Nat.le_of_ble_eq_true rfl), (Nat.le_of_ble_eq_true rfl)⟩) ⟨blx, fun U hU hW => ⟨rfl, by rw [hU], xq_at hX hS hA hU hW⟩⟩ rfl rfl hl.1 rfl (lv_room (Nat.le_of_ble_eq_true rfl)) d_S_requireComparison_5 ⟨(Nat.le_of_ble_eq_true rfl), (Nat.le_of_ble_eq_true rfl)⟩) hP hS hA (fun E ce q9 H locs hE hP hS hce hcv hcl => ?_) (fun h5 H locs hP hS => ?_)
    · have fe : f_S_requireComparison p1 p2 p3 = (f_S_requirePlace p3) := by unfold f_S_requireComparison; first | with_reducible exact (if_pos h1).trans (if_neg hE.ne) | exact (if_pos h1).trans (if_neg hE.ne)
      exact vx_out (fun x hx9 => (htab x hx9).elim) hlocks hce hcv hcl (fun t9 ht hal => ⟨(), trivial, by rw [fe]; exact hE, hS.F ht⟩) hS.2.2 (Nat.le_of_ble_eq_true rfl) (Nat.le_of_ble_eq_true rfl)
    · refine lv_iload_n hx hb d_S_requireComparison_8 rfl (lv_at hl 0 rfl) ?_
      refine lv_if_lt (tgt := 18) hx hb d_S_requireComparison_9 (by decide) (fun e1_18 => ?_) (fun e1_18 => ?_)
      · have fe : f_S_requireComparison p1 p2 p3 = 2 := by unfold f_S_requireComparison; first | with_reducible exact (if_pos h1).trans ((if_pos h5).trans (if_pos e1_18)) | exact (if_pos h1).trans ((if_pos h5).trans (if_pos e1_18))
        obtain ⟨sa, hsa⟩ := hX.2.2.1 (167, "there is no such comparison") (by decide)
        refine vx_throwS hx hb hlt hown (cls := eA) (names := eN) (by decide +kernel) (by decide +kernel) (hG _ (List.mem_append_right _ (by decide +kernel))) (hG _ (List.mem_append_right _ (by decide +kernel))) hsa (hat_A hG hX) ot_A hX.1 hX.2.1 hS (hl.1.trans hml.symm) d_S_requireComparison_18 d_S_requireComparison_21 d_S_requireComparison_22 d_S_requireComparison_24 d_S_requireComparison_27 (fun x hx9 => (htab x hx9).elim) (Nat.le_of_ble_eq_true rfl) (by show _ ≤ _; decide) (Nat.le_of_ble_eq_true rfl) (Nat.le_of_ble_eq_true rfl) hlocks (fun t9 hal hsz9 hk9 => ?_) ?_ (Nat.le_of_ble_eq_true rfl) (Nat.le_of_ble_eq_true rfl)
        · exact ⟨(), trivial, (by rw [fe]; exact Or.inr ⟨rfl, rfl⟩), ⟨Nat.le_trans hS.1 hsz9, fun q h1 h2 => (hk9 q (Nat.lt_of_lt_of_le h1 hS.1)).trans (hS.2.1 q h1 h2)⟩⟩
        · exact hS.2.2
      · refine lv_iload_n hx hb d_S_requireComparison_12 rfl (lv_at hl 0 rfl) ?_
        refine lv_bipush (v := 11) hx hb d_S_requireComparison_13 (by decide) ?_
        refine lv_icmp_le (tgt := 28) hx hb d_S_requireComparison_15 (by decide) (fun e2_28 => ?_) (fun e2_28 => ?_)
        · refine lv_iload_n hx hb d_S_requireComparison_28 rfl (lv_at hl 1 rfl) ?_
          refine lv_iload_n hx hb d_S_requireComparison_29 rfl (lv_at hl 2 rfl) ?_
          refine lv_icmp_ne (tgt := 43) hx hb d_S_requireComparison_30 (by decide) (fun e3_43 => ?_) (fun e3_43 => ?_)
          · have fe : f_S_requireComparison p1 p2 p3 = 0 := by unfold f_S_requireComparison; first | with_reducible exact (if_pos h1).trans ((if_pos h5).trans ((if_neg e1_18).trans ((if_pos e2_28).trans (if_neg e3_43)))) | exact (if_pos h1).trans ((if_pos h5).trans ((if_neg e1_18).trans ((if_pos e2_28).trans (if_neg e3_43))))
            refine w_widen (k := 3) (n := 18) (Nat.le_of_ble_eq_true rfl) (Nat.le_of_ble_eq_true rfl) ?_
            refine vx_ret ?_
            exact W.vret hx hb hr (fun t9 ht hW => ⟨⟨(), rfl, fe, trivial⟩, hS.F ht⟩) hS.2.2 d_S_requireComparison_43
          · have fe : f_S_requireComparison p1 p2 p3 = 2 := by unfold f_S_requireComparison; first | with_reducible exact (if_pos h1).trans ((if_pos h5).trans ((if_neg e1_18).trans ((if_pos e2_28).trans (if_pos e3_43)))) | exact (if_pos h1).trans ((if_pos h5).trans ((if_neg e1_18).trans ((if_pos e2_28).trans (if_pos e3_43))))
            obtain ⟨sa, hsa⟩ := hX.2.2.1 (169, "a comparison is of two places") (by decide)
            refine vx_throwS hx hb hlt hown (cls := eA) (names := eN) (by decide +kernel) (by decide +kernel) (hG _ (List.mem_append_right _ (by decide +kernel))) (hG _ (List.mem_append_right _ (by decide +kernel))) hsa (hat_A hG hX) ot_A hX.1 hX.2.1 hS (hl.1.trans hml.symm) d_S_requireComparison_33 d_S_requireComparison_36 d_S_requireComparison_37 d_S_requireComparison_39 d_S_requireComparison_42 (fun x hx9 => (htab x hx9).elim) (Nat.le_of_ble_eq_true rfl) (by show _ ≤ _; decide) (Nat.le_of_ble_eq_true rfl) (Nat.le_of_ble_eq_true rfl) hlocks (fun t9 hal hsz9 hk9 => ?_) ?_ (Nat.le_of_ble_eq_true rfl) (Nat.le_of_ble_eq_true rfl)
            · exact ⟨(), trivial, (by rw [fe]; exact Or.inr ⟨rfl, rfl⟩), ⟨Nat.le_trans hS.1 hsz9, fun q h1 h2 => (hk9 q (Nat.lt_of_lt_of_le h1 hS.1)).trans (hS.2.1 q h1 h2)⟩⟩
            · exact hS.2.2
        · have fe : f_S_requireComparison p1 p2 p3 = 2 := by unfold f_S_requireComparison; first | with_reducible exact (if_pos h1).trans ((if_pos h5).trans ((if_neg e1_18).trans (if_neg e2_28))) | exact (if_pos h1).trans ((if_pos h5).trans ((if_neg e1_18).trans (if_neg e2_28)))
          obtain ⟨sa, hsa⟩ := hX.2.2.1 (167, "there is no such comparison") (by decide)
          refine vx_throwS hx hb hlt hown (cls := eA) (names := eN) (by decide +kernel) (by decide +kernel) (hG _ (List.mem_append_right _ (by decide +kernel))) (hG _ (List.mem_append_right _ (by decide +kernel))) hsa (hat_A hG hX) ot_A hX.1 hX.2.1 hS (hl.1.trans hml.symm) d_S_requireComparison_18 d_S_requireComparison_21 d_S_requireComparison_22 d_S_requireComparison_24 d_S_requireComparison_27 (fun x hx9 => (htab x hx9).elim) (Nat.le_of_ble_eq_true rfl) (by show _ ≤ _; decide) (Nat.le_of_ble_eq_true rfl) (Nat.le_of_ble_eq_true rfl) hlocks (fun t9 hal hsz9 hk9 => ?_) ?_ (Nat.le_of_ble_eq_true rfl) (Nat.le_of_ble_eq_true rfl)
          · exact ⟨(), trivial, (by rw [fe]; exact Or.inr ⟨rfl, rfl⟩), ⟨Nat.le_trans hS.1 hsz9, fun q h1 h2 => (hk9 q (Nat.lt_of_lt_of_le h1 hS.1)).trans (hS.2.1 q h1 h2)⟩⟩
          · exact hS.2.2
theorem rc_ok1 {a b c : Int32} (h : f_S_requireComparison a b c = 0) : okp b := by
  unfold f_S_requireComparison at h
  by_cases h1 : f_S_requirePlace b = 0
  · exact rp_ok h1
  · rw [if_neg h1] at h; exact absurd h h1
theorem rc_ok2 {a b c : Int32} (h : f_S_requireComparison a b c = 0) : okp c := by
  unfold f_S_requireComparison at h
  by_cases h1 : f_S_requirePlace b = 0
  · rw [if_pos h1] at h
    by_cases h2 : f_S_requirePlace c = 0
    · exact rp_ok h2
    · rw [if_neg h2] at h; exact absurd h h2
  · rw [if_neg h1] at h; exact absurd h h1
