-- ValueSieve.requirePlace
theorem d_S_requirePlace_0 : decode b_S_requirePlace 0 = .ok (.iload_n 0, 1) := by decide +kernel
theorem d_S_requirePlace_1 : decode b_S_requirePlace 1 = .ok (.ifCond .lt 9, 3) := by decide +kernel
theorem d_S_requirePlace_4 : decode b_S_requirePlace 4 = .ok (.iload_n 0, 1) := by decide +kernel
theorem d_S_requirePlace_5 : decode b_S_requirePlace 5 = .ok (.bipush 16, 2) := by decide +kernel
theorem d_S_requirePlace_7 : decode b_S_requirePlace 7 = .ok (.if_icmp .lt 13, 3) := by decide +kernel
theorem d_S_requirePlace_10 : decode b_S_requirePlace 10 = .ok (.new 162, 3) := by decide +kernel
theorem d_S_requirePlace_13 : decode b_S_requirePlace 13 = .ok (.dup, 1) := by decide +kernel
theorem d_S_requirePlace_14 : decode b_S_requirePlace 14 = .ok (.ldc 164, 2) := by decide +kernel
theorem d_S_requirePlace_16 : decode b_S_requirePlace 16 = .ok (.invokespecial 166, 3) := by decide +kernel
theorem d_S_requirePlace_19 : decode b_S_requirePlace 19 = .ok (.athrow, 1) := by decide +kernel
theorem d_S_requirePlace_20 : decode b_S_requirePlace 20 = .ok (.return_, 1) := by decide +kernel
def f_S_requirePlace (p1 : Int32) : Int32 := (if p1 < 0 then 1 else (if p1 < 16 then 0 else 1))
set_option maxRecDepth 100000 in
set_option maxHeartbeats 4000000 in
theorem c_S_requirePlace (l : Launch) (hlt : l.stackTraces = false) (sz : Nat) (p1 : Int32) : vx_Met l y_S_requirePlace k_S_requirePlace ({ frames := 6, cells := 1, slots := 6, locals := 100 } : Room) (va_Pc [.int (p1)] (xP sz)) (va_Qv (fun _ : Unit => f_S_requirePlace p1 = 0) (fun _ _ => True) (fun _ => False)) (vx_X (fun _ : Unit => True) (fun E _ _ => xE (f_S_requirePlace p1) E) (fun _ => False)) 1 6 (fun _ => False) := by
  refine vx_ofW (cc := b_S_requirePlace) (maxL := 1) (ret := none) (by decide) rfl ?_
  intro p e s m args below meth c s₁ B hml htab hv
  obtain ⟨rfl, hsz, hX⟩ := hv
  have hx := B.exec
  have hb := B.bytes
  have hr := B.returns
  have hts := atoms_spec (ws := k_S_requirePlace) B.pre
  have hG : ∀ w ∈ gP, w.before _ s = true := fun w h => hts w (List.mem_cons_of_mem _ h)
  have hown : s.vm.findClass R_S = some m.cls := findClass_of_methodNamed B.named
  have hlocks := B.notSynchronized
  subst hsz
  have hP : va_P ((fun _ => m.cls), (fun _ _ => 0)) classes [] s.heap := fun k q hq => by cases hq
  obtain ⟨A, hAe⟩ : ∃ A : Nat → Prop, A = fun q => s.heap.size ≤ q := ⟨_, rfl⟩
  rw [← hAe] at hX
  have hA : ∀ q : Nat, s.heap.size ≤ q → A q := fun q h => by rw [hAe]; exact h
  have hS : va_S A s.heap s.heap [] := va_S.rf
  have hl := lv_entry ([.int (p1)]) (n := 1) (Nat.le_of_ble_eq_true rfl)
  rw [lg_entry_eq]
  generalize (lg_sl ([.int (p1)]) ++ List.replicate (1 - (lg_sl ([.int (p1)])).length) Slot.unset).toArray = ls at hl ⊢
  have hl : lv_has ls 1 [(0, .int (p1))] := hl
  refine lv_iload_n hx hb d_S_requirePlace_0 rfl (lv_at hl 0 rfl) ?_
  refine lv_if_lt (tgt := 10) hx hb d_S_requirePlace_1 (by decide) (fun e1_10 => ?_) (fun e1_10 => ?_)
  · have fe : f_S_requirePlace p1 = 1 := by unfold f_S_requirePlace; first | with_reducible exact if_pos e1_10 | exact if_pos e1_10
    obtain ⟨sa, hsa⟩ := hX.2.2.1 (164, "there is no such place") (by decide)
    refine vx_throwS hx hb hlt hown (cls := eI) (names := eN) (by decide +kernel) (by decide +kernel) (hG _ (List.mem_append_right _ (by decide +kernel))) (hG _ (List.mem_append_right _ (by decide +kernel))) hsa (hat_I hG hX) ot_I hX.1 hX.2.1 hS (hl.1.trans hml.symm) d_S_requirePlace_10 d_S_requirePlace_13 d_S_requirePlace_14 d_S_requirePlace_16 d_S_requirePlace_19 (fun x hx9 => (htab x hx9).elim) (Nat.le_of_ble_eq_true rfl) (by show _ ≤ _; decide) (Nat.le_of_ble_eq_true rfl) (Nat.le_of_ble_eq_true rfl) hlocks (fun t9 hal hsz9 hk9 => ?_) ?_ (Nat.le_of_ble_eq_true rfl) (Nat.le_of_ble_eq_true rfl)
    · exact ⟨(), trivial, (by rw [fe]; exact Or.inl ⟨rfl, rfl⟩), ⟨hsz9, fun q h1 _ => hk9 q h1⟩⟩
    · exact fun z h => by cases h
  · refine lv_iload_n hx hb d_S_requirePlace_4 rfl (lv_at hl 0 rfl) ?_
    refine lv_bipush (v := 16) hx hb d_S_requirePlace_5 (by decide) ?_
    refine lv_icmp_lt (tgt := 20) hx hb d_S_requirePlace_7 (by decide) (fun e2_20 => ?_) (fun e2_20 => ?_)
    · have fe : f_S_requirePlace p1 = 0 := by unfold f_S_requirePlace; first | with_reducible exact (if_neg e1_10).trans (if_pos e2_20) | exact (if_neg e1_10).trans (if_pos e2_20)
      refine w_widen (k := 1) (n := 6) (Nat.le_of_ble_eq_true rfl) (Nat.le_of_ble_eq_true rfl) ?_
      refine vx_ret ?_
      exact W.vret hx hb hr (fun t9 ht hW => ⟨⟨(), rfl, fe, trivial⟩, va_S.F va_S.rf ht⟩) (fun _ h => by cases h) d_S_requirePlace_20
    · have fe : f_S_requirePlace p1 = 1 := by unfold f_S_requirePlace; first | with_reducible exact (if_neg e1_10).trans (if_neg e2_20) | exact (if_neg e1_10).trans (if_neg e2_20)
      obtain ⟨sa, hsa⟩ := hX.2.2.1 (164, "there is no such place") (by decide)
      refine vx_throwS hx hb hlt hown (cls := eI) (names := eN) (by decide +kernel) (by decide +kernel) (hG _ (List.mem_append_right _ (by decide +kernel))) (hG _ (List.mem_append_right _ (by decide +kernel))) hsa (hat_I hG hX) ot_I hX.1 hX.2.1 hS (hl.1.trans hml.symm) d_S_requirePlace_10 d_S_requirePlace_13 d_S_requirePlace_14 d_S_requirePlace_16 d_S_requirePlace_19 (fun x hx9 => (htab x hx9).elim) (Nat.le_of_ble_eq_true rfl) (by show _ ≤ _; decide) (Nat.le_of_ble_eq_true rfl) (Nat.le_of_ble_eq_true rfl) hlocks (fun t9 hal hsz9 hk9 => ?_) ?_ (Nat.le_of_ble_eq_true rfl) (Nat.le_of_ble_eq_true rfl)
      · exact ⟨(), trivial, (by rw [fe]; exact Or.inl ⟨rfl, rfl⟩), ⟨hsz9, fun q h1 _ => hk9 q h1⟩⟩
      · exact fun z h => by cases h
