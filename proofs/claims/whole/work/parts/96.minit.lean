/-! the constructors -/
def zeV : VV := (0, 0, 0, 0, 0, 0, false)
def adL (l : List Nat) : Nat → Nat := fun j => l.getD j 0
theorem gI9 {c0 : Cond} {y : MethodName} {b : ByteArray} {n : Nat} {r : Option FieldType} (h : Cond.code y b n r ∈ gG) : GoodIn (c0 :: gG) (Cond.code y b n r :: gG) := fun w hw => by
  have hm : w ∈ gG := (List.mem_cons.mp hw).elim (fun e => e ▸ h) id
  exact ⟨List.mem_cons_of_mem _ hm, (gGood w hm).2⟩
section MKI
variable {p : Program} {l : Launch} {e : Env} {R : Room} {s : State} {m : MethodId} {args : Array Value} {below : List Frame} {meth : Method} {c : Code} {H : Heap} {locs : List Loc} {cells slots : Nat} {Q : State → Prop}
variable {pc : Nat} {ls : Array Slot} {rest st0 : List Value} {a : Array Value} {A0 : Nat → Prop} {H0 : Heap} {D : va_G} {ws : va_W}
/-- a call that leaves its one cell as it was -/
theorem mc_same {k q : Nat} {e9 : va_E} (hq : ws[k]? = some (q, e9)) (hr : va_Run p l e R s m args below meth c H locs cells slots 0 0 (F0 m pc ls st0) rest (va_Qv (fun _ : Unit => True) (mB D (va_A [(q, e9)] H.size) [(q, e9)]) (va_A [(q, e9)] H.size) a) (va_A [(q, e9)] H.size)) (hP : va_P D classes ws H) (hD : va_D A0 ws) (hS : va_S A0 H0 H locs) (hA : ∀ q, H0.size ≤ q → A0 q)
    (kk : ∀ (H1 : Heap) (locs1 : List Loc), va_P D classes ws H1 → va_S A0 H0 H1 locs1 → W p l e R s m args below meth c H1 locs1 cells slots Q (F0 m (pc + 3) ls rest)) : W p l e R s m args below meth c H locs cells slots Q (F0 m pc ls st0) := by
  have hF := va_free (wc := [(q, e9)]) hD hS hA [k] (mp1 hq)
  refine va_callv hr hS (fun q _ h => hF q h) hF (fun u t H1 locs1 ht hvm hw hBB hz1 hk1 hS1 => ?_)
  obtain ⟨hP1, hD1⟩ := hBB
  rw [ht] at hP1
  refine kk H1 locs1 (va_mix (ws' := ws) hP hD [k] (mp1 hq) hk1 hP1 (fun i q9 h => ?_) (fun i q9 h => ⟨q9.2, h⟩)).1 hS1
  by_cases hi : i = k
  · subst hi; rw [hq] at h; cases h; exact Or.inl List.mem_cons_self
  · exact Or.inr ⟨fun hc => hi ((List.mem_cons.mp hc).elim id (fun z => by cases z)), h⟩
end MKI
theorem d_M_init_0 : decode b_M_init 0 = .ok (.aload_n 0, 1) := by decide +kernel
theorem d_M_init_1 : decode b_M_init 1 = .ok (.invokespecial 1, 3) := by decide +kernel
theorem d_M_init_4 : decode b_M_init 4 = .ok (.aload_n 0, 1) := by decide +kernel
theorem d_M_init_5 : decode b_M_init 5 = .ok (.bipush 24, 2) := by decide +kernel
theorem d_M_init_7 : decode b_M_init 7 = .ok (.newarray .long, 2) := by decide +kernel
theorem d_M_init_9 : decode b_M_init 9 = .ok (.putfield 7, 3) := by decide +kernel
theorem d_M_init_12 : decode b_M_init 12 = .ok (.aload_n 0, 1) := by decide +kernel
theorem d_M_init_13 : decode b_M_init 13 = .ok (.bipush 24, 2) := by decide +kernel
theorem d_M_init_15 : decode b_M_init 15 = .ok (.newarray .long, 2) := by decide +kernel
theorem d_M_init_17 : decode b_M_init 17 = .ok (.putfield 13, 3) := by decide +kernel
theorem d_M_init_20 : decode b_M_init 20 = .ok (.aload_n 0, 1) := by decide +kernel
theorem d_M_init_21 : decode b_M_init 21 = .ok (.bipush 24, 2) := by decide +kernel
theorem d_M_init_23 : decode b_M_init 23 = .ok (.newarray .long, 2) := by decide +kernel
theorem d_M_init_25 : decode b_M_init 25 = .ok (.putfield 16, 3) := by decide +kernel
theorem d_M_init_28 : decode b_M_init 28 = .ok (.aload_n 0, 1) := by decide +kernel
theorem d_M_init_29 : decode b_M_init 29 = .ok (.bipush 24, 2) := by decide +kernel
theorem d_M_init_31 : decode b_M_init 31 = .ok (.newarray .long, 2) := by decide +kernel
theorem d_M_init_33 : decode b_M_init 33 = .ok (.putfield 19, 3) := by decide +kernel
theorem d_M_init_36 : decode b_M_init 36 = .ok (.aload_n 0, 1) := by decide +kernel
theorem d_M_init_37 : decode b_M_init 37 = .ok (.bipush 24, 2) := by decide +kernel
theorem d_M_init_39 : decode b_M_init 39 = .ok (.newarray .long, 2) := by decide +kernel
theorem d_M_init_41 : decode b_M_init 41 = .ok (.putfield 22, 3) := by decide +kernel
theorem d_M_init_44 : decode b_M_init 44 = .ok (.aload_n 0, 1) := by decide +kernel
theorem d_M_init_45 : decode b_M_init 45 = .ok (.bipush 24, 2) := by decide +kernel
theorem d_M_init_47 : decode b_M_init 47 = .ok (.newarray .long, 2) := by decide +kernel
theorem d_M_init_49 : decode b_M_init 49 = .ok (.putfield 25, 3) := by decide +kernel
theorem d_M_init_52 : decode b_M_init 52 = .ok (.aload_n 0, 1) := by decide +kernel
theorem d_M_init_53 : decode b_M_init 53 = .ok (.bipush 24, 2) := by decide +kernel
theorem d_M_init_55 : decode b_M_init 55 = .ok (.newarray .boolean, 2) := by decide +kernel
theorem d_M_init_57 : decode b_M_init 57 = .ok (.putfield 28, 3) := by decide +kernel
theorem d_M_init_60 : decode b_M_init 60 = .ok (.aload_n 0, 1) := by decide +kernel
theorem d_M_init_61 : decode b_M_init 61 = .ok (.bipush 16, 2) := by decide +kernel
theorem d_M_init_63 : decode b_M_init 63 = .ok (.newarray .long, 2) := by decide +kernel
theorem d_M_init_65 : decode b_M_init 65 = .ok (.putfield 32, 3) := by decide +kernel
theorem d_M_init_68 : decode b_M_init 68 = .ok (.return_, 1) := by decide +kernel
set_option maxRecDepth 100000 in
set_option maxHeartbeats 4000000 in
theorem c_M_init (l : Launch) (dC : Nat → ClassId) (dI : Nat → Nat → Nat) (a0 : Nat) (cJ : ClassId) (sz : Nat) : Met l y_M_init w_M_init ({ frames := 1, cells := 8, slots := 184, locals := 20 } : Room) (va_Pc [.ref a0] (nP (dC, dI) [(cJ, .long)] [(a0, .inr (2, [.int 0, .null, .null, .null, .null, .null, .null, .null, .null, .int 0]))] sz)) (va_Qv (fun u : (Nat → Nat) × ClassId => u.1 0 = a0) (fun u t => va_P (dC, dI) classes (mW u.1 cJ u.2 0 (fun _ => zeV) (fun _ => 0) 0) t.heap ∧ va_D (va_A [(a0, .inr (2, [.int 0, .null, .null, .null, .null, .null, .null, .null, .null, .int 0]))] sz) (mW u.1 cJ u.2 0 (fun _ => zeV) (fun _ => 0) 0) ∧ va_K (dC, dI) classes (mT cJ u.2) t) (va_A [(a0, .inr (2, [.int 0, .null, .null, .null, .null, .null, .null, .null, .null, .int 0]))] sz)) 8 184 (va_A [(a0, .inr (2, [.int 0, .null, .null, .null, .null, .null, .null, .null, .null, .int 0]))] sz) := by
  refine Met.ofW (cc := b_M_init) (maxL := 1) (ret := none) (by decide) rfl ?_
  intro p e s m args below meth c s₁ B hml hv
  obtain ⟨rfl, hsz, hP, hK, hD0⟩ := hv
  have hx := B.exec
  have hb := B.bytes
  have hr := B.returns
  have hts := atoms_spec (ws := w_M_init) B.pre
  have hG : ∀ w ∈ gM, w.before _ s = true := fun w h => hts w (List.mem_cons_of_mem _ h)
  have hown : s.vm.findClass R_M = some m.cls := findClass_of_methodNamed B.named
  have hlocks := B.notSynchronized
  have hin : meth.name = "<init>" := (name_of_methodNamed B.named B.method).1
  subst hsz
  have hD := hD0.self (sz := s.heap.size)
  generalize hAe : va_A [(a0, .inr (2, [.int 0, .null, .null, .null, .null, .null, .null, .null, .null, .int 0]))] s.heap.size = A at hD ⊢
  have hA : ∀ q : Nat, s.heap.size ≤ q → A q := fun q h => by rw [← hAe]; exact Or.inr h
  have hS : va_S A s.heap s.heap [] := va_S.rf
  have hl := lv_entry ([.ref a0]) (n := 1) (Nat.le_of_ble_eq_true rfl)
  rw [lg_entry_eq]
  generalize (lg_sl ([.ref a0]) ++ List.replicate (1 - (lg_sl ([.ref a0])).length) Slot.unset).toArray = ls at hl ⊢
  have hl : lv_has ls 1 [(0, .ref a0)] := hl
  refine lv_aload_n hx hb d_M_init_0 rfl (lv_at hl 0 rfl) ?_
  refine W.objInit hx hb hown (hG (.methodLink R_M 1 objectInit) gx8) (hG (.instanceMethod objectInit) gx1) (hG (.code objectInit ⟨#[0xb1]⟩ 1 none) gx2) rfl (by rw [hml]; exact hl.1) rfl d_M_init_1 (Nat.le_of_ble_eq_true rfl) (Nat.le_of_ble_eq_true rfl) ?_
  refine W.eq (g2 := F0 m 4 ls []) rfl ?_
  refine lv_aload_n hx hb d_M_init_4 rfl (lv_at hl 0 rfl) ?_
  refine lv_bipush (v := 24) hx hb d_M_init_5 (by decide) ?_
  refine va_newa (atype := .long) (a0 := (24, .inr (.inl (fun _ => (0 : Int64))))) hx hb (hG (.arrayClass .long) gx3) (ty := .long) rfl hK hP hD hS hA (fun _ => rfl) (by decide) (N' := 24) (by decide) (by decide) (Nat.le_of_ble_eq_true rfl) (Nat.le_of_ble_eq_true rfl) d_M_init_7 (fun q1 cA1 H hK1 hP hD hS => ?_)
  have ec1 : cA1 = cJ := Option.some.inj ((hK1.2 1 _ rfl).2.symm.trans (hK1.2 0 _ rfl).2)
  rw [ec1] at hP hD
  have hP : va_P (dC, dI) classes [(a0, .inr (2, [.int 0, .null, .null, .null, .null, .null, .null, .null, .null, .int 0])), (q1, .inl (cJ, 24, .inr (.inl (fun _ => (0 : Int64)))))] H := hP
  have hD : va_D A [(a0, .inr (2, [.int 0, .null, .null, .null, .null, .null, .null, .null, .null, .int 0])), (q1, .inl (cJ, 24, .inr (.inl (fun _ => (0 : Int64)))))] := hD
  refine va_putF (D := (dC, dI)) (ci := 2) (v := .ref q1) (ty := .array .long) (C := R_M) (T := F_M) (N := 10) hx hb hts (fun w h => List.mem_cons_of_mem _ (uw_M w h)) t_M t_M_ok n_M hown hK hP hD hS 0 rfl rfl 1 (by decide) (hG (.fieldLink R_M 7 "ValueSieveModel" "bits" "[J") gx10) (fun _ h9 => h9) rfl hin rfl (by decide +kernel) rfl rfl (Nat.le_of_ble_eq_true rfl) d_M_init_9 (fun H locs hP hD hS => ?_)
  have hP : va_P (dC, dI) classes [(a0, .inr (2, [.int 0, .ref q1, .null, .null, .null, .null, .null, .null, .null, .int 0])), (q1, .inl (cJ, 24, .inr (.inl (fun _ => (0 : Int64)))))] H := hP
  have hD : va_D A [(a0, .inr (2, [.int 0, .ref q1, .null, .null, .null, .null, .null, .null, .null, .int 0])), (q1, .inl (cJ, 24, .inr (.inl (fun _ => (0 : Int64)))))] := hD
  refine lv_aload_n hx hb d_M_init_12 rfl (lv_at hl 0 rfl) ?_
  refine lv_bipush (v := 24) hx hb d_M_init_13 (by decide) ?_
  refine va_newa (atype := .long) (a0 := (24, .inr (.inl (fun _ => (0 : Int64))))) hx hb (hG (.arrayClass .long) gx3) (ty := .long) rfl hK hP hD hS hA (fun _ => rfl) (by decide) (N' := 24) (by decide) (by decide) (Nat.le_of_ble_eq_true rfl) (Nat.le_of_ble_eq_true rfl) d_M_init_15 (fun q2 cA2 H hK2 hP hD hS => ?_)
  have ec2 : cA2 = cJ := Option.some.inj ((hK2.2 1 _ rfl).2.symm.trans (hK2.2 0 _ rfl).2)
  rw [ec2] at hP hD
  have hP : va_P (dC, dI) classes [(a0, .inr (2, [.int 0, .ref q1, .null, .null, .null, .null, .null, .null, .null, .int 0])), (q1, .inl (cJ, 24, .inr (.inl (fun _ => (0 : Int64))))), (q2, .inl (cJ, 24, .inr (.inl (fun _ => (0 : Int64)))))] H := hP
  have hD : va_D A [(a0, .inr (2, [.int 0, .ref q1, .null, .null, .null, .null, .null, .null, .null, .int 0])), (q1, .inl (cJ, 24, .inr (.inl (fun _ => (0 : Int64))))), (q2, .inl (cJ, 24, .inr (.inl (fun _ => (0 : Int64)))))] := hD
  refine va_putF (D := (dC, dI)) (ci := 2) (v := .ref q2) (ty := .array .long) (C := R_M) (T := F_M) (N := 10) hx hb hts (fun w h => List.mem_cons_of_mem _ (uw_M w h)) t_M t_M_ok n_M hown hK hP hD hS 0 rfl rfl 2 (by decide) (hG (.fieldLink R_M 13 "ValueSieveModel" "open" "[J") gx11) (fun _ h9 => h9) rfl hin rfl (by decide +kernel) rfl rfl (Nat.le_of_ble_eq_true rfl) d_M_init_17 (fun H locs hP hD hS => ?_)
  have hP : va_P (dC, dI) classes [(a0, .inr (2, [.int 0, .ref q1, .ref q2, .null, .null, .null, .null, .null, .null, .int 0])), (q1, .inl (cJ, 24, .inr (.inl (fun _ => (0 : Int64))))), (q2, .inl (cJ, 24, .inr (.inl (fun _ => (0 : Int64)))))] H := hP
  have hD : va_D A [(a0, .inr (2, [.int 0, .ref q1, .ref q2, .null, .null, .null, .null, .null, .null, .int 0])), (q1, .inl (cJ, 24, .inr (.inl (fun _ => (0 : Int64))))), (q2, .inl (cJ, 24, .inr (.inl (fun _ => (0 : Int64)))))] := hD
  refine lv_aload_n hx hb d_M_init_20 rfl (lv_at hl 0 rfl) ?_
  refine lv_bipush (v := 24) hx hb d_M_init_21 (by decide) ?_
  refine va_newa (atype := .long) (a0 := (24, .inr (.inl (fun _ => (0 : Int64))))) hx hb (hG (.arrayClass .long) gx3) (ty := .long) rfl hK hP hD hS hA (fun _ => rfl) (by decide) (N' := 24) (by decide) (by decide) (Nat.le_of_ble_eq_true rfl) (Nat.le_of_ble_eq_true rfl) d_M_init_23 (fun q3 cA3 H hK3 hP hD hS => ?_)
  have ec3 : cA3 = cJ := Option.some.inj ((hK3.2 1 _ rfl).2.symm.trans (hK3.2 0 _ rfl).2)
  rw [ec3] at hP hD
  have hP : va_P (dC, dI) classes [(a0, .inr (2, [.int 0, .ref q1, .ref q2, .null, .null, .null, .null, .null, .null, .int 0])), (q1, .inl (cJ, 24, .inr (.inl (fun _ => (0 : Int64))))), (q2, .inl (cJ, 24, .inr (.inl (fun _ => (0 : Int64))))), (q3, .inl (cJ, 24, .inr (.inl (fun _ => (0 : Int64)))))] H := hP
  have hD : va_D A [(a0, .inr (2, [.int 0, .ref q1, .ref q2, .null, .null, .null, .null, .null, .null, .int 0])), (q1, .inl (cJ, 24, .inr (.inl (fun _ => (0 : Int64))))), (q2, .inl (cJ, 24, .inr (.inl (fun _ => (0 : Int64))))), (q3, .inl (cJ, 24, .inr (.inl (fun _ => (0 : Int64)))))] := hD
  refine va_putF (D := (dC, dI)) (ci := 2) (v := .ref q3) (ty := .array .long) (C := R_M) (T := F_M) (N := 10) hx hb hts (fun w h => List.mem_cons_of_mem _ (uw_M w h)) t_M t_M_ok n_M hown hK hP hD hS 0 rfl rfl 3 (by decide) (hG (.fieldLink R_M 16 "ValueSieveModel" "low" "[J") gx12) (fun _ h9 => h9) rfl hin rfl (by decide +kernel) rfl rfl (Nat.le_of_ble_eq_true rfl) d_M_init_25 (fun H locs hP hD hS => ?_)
  have hP : va_P (dC, dI) classes [(a0, .inr (2, [.int 0, .ref q1, .ref q2, .ref q3, .null, .null, .null, .null, .null, .int 0])), (q1, .inl (cJ, 24, .inr (.inl (fun _ => (0 : Int64))))), (q2, .inl (cJ, 24, .inr (.inl (fun _ => (0 : Int64))))), (q3, .inl (cJ, 24, .inr (.inl (fun _ => (0 : Int64)))))] H := hP
  have hD : va_D A [(a0, .inr (2, [.int 0, .ref q1, .ref q2, .ref q3, .null, .null, .null, .null, .null, .int 0])), (q1, .inl (cJ, 24, .inr (.inl (fun _ => (0 : Int64))))), (q2, .inl (cJ, 24, .inr (.inl (fun _ => (0 : Int64))))), (q3, .inl (cJ, 24, .inr (.inl (fun _ => (0 : Int64)))))] := hD
  refine lv_aload_n hx hb d_M_init_28 rfl (lv_at hl 0 rfl) ?_
  refine lv_bipush (v := 24) hx hb d_M_init_29 (by decide) ?_
  refine va_newa (atype := .long) (a0 := (24, .inr (.inl (fun _ => (0 : Int64))))) hx hb (hG (.arrayClass .long) gx3) (ty := .long) rfl hK hP hD hS hA (fun _ => rfl) (by decide) (N' := 24) (by decide) (by decide) (Nat.le_of_ble_eq_true rfl) (Nat.le_of_ble_eq_true rfl) d_M_init_31 (fun q4 cA4 H hK4 hP hD hS => ?_)
  have ec4 : cA4 = cJ := Option.some.inj ((hK4.2 1 _ rfl).2.symm.trans (hK4.2 0 _ rfl).2)
  rw [ec4] at hP hD
  have hP : va_P (dC, dI) classes [(a0, .inr (2, [.int 0, .ref q1, .ref q2, .ref q3, .null, .null, .null, .null, .null, .int 0])), (q1, .inl (cJ, 24, .inr (.inl (fun _ => (0 : Int64))))), (q2, .inl (cJ, 24, .inr (.inl (fun _ => (0 : Int64))))), (q3, .inl (cJ, 24, .inr (.inl (fun _ => (0 : Int64))))), (q4, .inl (cJ, 24, .inr (.inl (fun _ => (0 : Int64)))))] H := hP
  have hD : va_D A [(a0, .inr (2, [.int 0, .ref q1, .ref q2, .ref q3, .null, .null, .null, .null, .null, .int 0])), (q1, .inl (cJ, 24, .inr (.inl (fun _ => (0 : Int64))))), (q2, .inl (cJ, 24, .inr (.inl (fun _ => (0 : Int64))))), (q3, .inl (cJ, 24, .inr (.inl (fun _ => (0 : Int64))))), (q4, .inl (cJ, 24, .inr (.inl (fun _ => (0 : Int64)))))] := hD
  refine va_putF (D := (dC, dI)) (ci := 2) (v := .ref q4) (ty := .array .long) (C := R_M) (T := F_M) (N := 10) hx hb hts (fun w h => List.mem_cons_of_mem _ (uw_M w h)) t_M t_M_ok n_M hown hK hP hD hS 0 rfl rfl 4 (by decide) (hG (.fieldLink R_M 19 "ValueSieveModel" "high" "[J") gx13) (fun _ h9 => h9) rfl hin rfl (by decide +kernel) rfl rfl (Nat.le_of_ble_eq_true rfl) d_M_init_33 (fun H locs hP hD hS => ?_)
  have hP : va_P (dC, dI) classes [(a0, .inr (2, [.int 0, .ref q1, .ref q2, .ref q3, .ref q4, .null, .null, .null, .null, .int 0])), (q1, .inl (cJ, 24, .inr (.inl (fun _ => (0 : Int64))))), (q2, .inl (cJ, 24, .inr (.inl (fun _ => (0 : Int64))))), (q3, .inl (cJ, 24, .inr (.inl (fun _ => (0 : Int64))))), (q4, .inl (cJ, 24, .inr (.inl (fun _ => (0 : Int64)))))] H := hP
  have hD : va_D A [(a0, .inr (2, [.int 0, .ref q1, .ref q2, .ref q3, .ref q4, .null, .null, .null, .null, .int 0])), (q1, .inl (cJ, 24, .inr (.inl (fun _ => (0 : Int64))))), (q2, .inl (cJ, 24, .inr (.inl (fun _ => (0 : Int64))))), (q3, .inl (cJ, 24, .inr (.inl (fun _ => (0 : Int64))))), (q4, .inl (cJ, 24, .inr (.inl (fun _ => (0 : Int64)))))] := hD
  refine lv_aload_n hx hb d_M_init_36 rfl (lv_at hl 0 rfl) ?_
  refine lv_bipush (v := 24) hx hb d_M_init_37 (by decide) ?_
  refine va_newa (atype := .long) (a0 := (24, .inr (.inl (fun _ => (0 : Int64))))) hx hb (hG (.arrayClass .long) gx3) (ty := .long) rfl hK hP hD hS hA (fun _ => rfl) (by decide) (N' := 24) (by decide) (by decide) (Nat.le_of_ble_eq_true rfl) (Nat.le_of_ble_eq_true rfl) d_M_init_39 (fun q5 cA5 H hK5 hP hD hS => ?_)
  have ec5 : cA5 = cJ := Option.some.inj ((hK5.2 1 _ rfl).2.symm.trans (hK5.2 0 _ rfl).2)
  rw [ec5] at hP hD
  have hP : va_P (dC, dI) classes [(a0, .inr (2, [.int 0, .ref q1, .ref q2, .ref q3, .ref q4, .null, .null, .null, .null, .int 0])), (q1, .inl (cJ, 24, .inr (.inl (fun _ => (0 : Int64))))), (q2, .inl (cJ, 24, .inr (.inl (fun _ => (0 : Int64))))), (q3, .inl (cJ, 24, .inr (.inl (fun _ => (0 : Int64))))), (q4, .inl (cJ, 24, .inr (.inl (fun _ => (0 : Int64))))), (q5, .inl (cJ, 24, .inr (.inl (fun _ => (0 : Int64)))))] H := hP
  have hD : va_D A [(a0, .inr (2, [.int 0, .ref q1, .ref q2, .ref q3, .ref q4, .null, .null, .null, .null, .int 0])), (q1, .inl (cJ, 24, .inr (.inl (fun _ => (0 : Int64))))), (q2, .inl (cJ, 24, .inr (.inl (fun _ => (0 : Int64))))), (q3, .inl (cJ, 24, .inr (.inl (fun _ => (0 : Int64))))), (q4, .inl (cJ, 24, .inr (.inl (fun _ => (0 : Int64))))), (q5, .inl (cJ, 24, .inr (.inl (fun _ => (0 : Int64)))))] := hD
  refine va_putF (D := (dC, dI)) (ci := 2) (v := .ref q5) (ty := .array .long) (C := R_M) (T := F_M) (N := 10) hx hb hts (fun w h => List.mem_cons_of_mem _ (uw_M w h)) t_M t_M_ok n_M hown hK hP hD hS 0 rfl rfl 5 (by decide) (hG (.fieldLink R_M 22 "ValueSieveModel" "least" "[J") gx14) (fun _ h9 => h9) rfl hin rfl (by decide +kernel) rfl rfl (Nat.le_of_ble_eq_true rfl) d_M_init_41 (fun H locs hP hD hS => ?_)
  have hP : va_P (dC, dI) classes [(a0, .inr (2, [.int 0, .ref q1, .ref q2, .ref q3, .ref q4, .ref q5, .null, .null, .null, .int 0])), (q1, .inl (cJ, 24, .inr (.inl (fun _ => (0 : Int64))))), (q2, .inl (cJ, 24, .inr (.inl (fun _ => (0 : Int64))))), (q3, .inl (cJ, 24, .inr (.inl (fun _ => (0 : Int64))))), (q4, .inl (cJ, 24, .inr (.inl (fun _ => (0 : Int64))))), (q5, .inl (cJ, 24, .inr (.inl (fun _ => (0 : Int64)))))] H := hP
  have hD : va_D A [(a0, .inr (2, [.int 0, .ref q1, .ref q2, .ref q3, .ref q4, .ref q5, .null, .null, .null, .int 0])), (q1, .inl (cJ, 24, .inr (.inl (fun _ => (0 : Int64))))), (q2, .inl (cJ, 24, .inr (.inl (fun _ => (0 : Int64))))), (q3, .inl (cJ, 24, .inr (.inl (fun _ => (0 : Int64))))), (q4, .inl (cJ, 24, .inr (.inl (fun _ => (0 : Int64))))), (q5, .inl (cJ, 24, .inr (.inl (fun _ => (0 : Int64)))))] := hD
  refine lv_aload_n hx hb d_M_init_44 rfl (lv_at hl 0 rfl) ?_
  refine lv_bipush (v := 24) hx hb d_M_init_45 (by decide) ?_
  refine va_newa (atype := .long) (a0 := (24, .inr (.inl (fun _ => (0 : Int64))))) hx hb (hG (.arrayClass .long) gx3) (ty := .long) rfl hK hP hD hS hA (fun _ => rfl) (by decide) (N' := 24) (by decide) (by decide) (Nat.le_of_ble_eq_true rfl) (Nat.le_of_ble_eq_true rfl) d_M_init_47 (fun q6 cA6 H hK6 hP hD hS => ?_)
  have ec6 : cA6 = cJ := Option.some.inj ((hK6.2 1 _ rfl).2.symm.trans (hK6.2 0 _ rfl).2)
  rw [ec6] at hP hD
  have hP : va_P (dC, dI) classes [(a0, .inr (2, [.int 0, .ref q1, .ref q2, .ref q3, .ref q4, .ref q5, .null, .null, .null, .int 0])), (q1, .inl (cJ, 24, .inr (.inl (fun _ => (0 : Int64))))), (q2, .inl (cJ, 24, .inr (.inl (fun _ => (0 : Int64))))), (q3, .inl (cJ, 24, .inr (.inl (fun _ => (0 : Int64))))), (q4, .inl (cJ, 24, .inr (.inl (fun _ => (0 : Int64))))), (q5, .inl (cJ, 24, .inr (.inl (fun _ => (0 : Int64))))), (q6, .inl (cJ, 24, .inr (.inl (fun _ => (0 : Int64)))))] H := hP
  have hD : va_D A [(a0, .inr (2, [.int 0, .ref q1, .ref q2, .ref q3, .ref q4, .ref q5, .null, .null, .null, .int 0])), (q1, .inl (cJ, 24, .inr (.inl (fun _ => (0 : Int64))))), (q2, .inl (cJ, 24, .inr (.inl (fun _ => (0 : Int64))))), (q3, .inl (cJ, 24, .inr (.inl (fun _ => (0 : Int64))))), (q4, .inl (cJ, 24, .inr (.inl (fun _ => (0 : Int64))))), (q5, .inl (cJ, 24, .inr (.inl (fun _ => (0 : Int64))))), (q6, .inl (cJ, 24, .inr (.inl (fun _ => (0 : Int64)))))] := hD
  refine va_putF (D := (dC, dI)) (ci := 2) (v := .ref q6) (ty := .array .long) (C := R_M) (T := F_M) (N := 10) hx hb hts (fun w h => List.mem_cons_of_mem _ (uw_M w h)) t_M t_M_ok n_M hown hK hP hD hS 0 rfl rfl 6 (by decide) (hG (.fieldLink R_M 25 "ValueSieveModel" "greatest" "[J") gx15) (fun _ h9 => h9) rfl hin rfl (by decide +kernel) rfl rfl (Nat.le_of_ble_eq_true rfl) d_M_init_49 (fun H locs hP hD hS => ?_)
  have hP : va_P (dC, dI) classes [(a0, .inr (2, [.int 0, .ref q1, .ref q2, .ref q3, .ref q4, .ref q5, .ref q6, .null, .null, .int 0])), (q1, .inl (cJ, 24, .inr (.inl (fun _ => (0 : Int64))))), (q2, .inl (cJ, 24, .inr (.inl (fun _ => (0 : Int64))))), (q3, .inl (cJ, 24, .inr (.inl (fun _ => (0 : Int64))))), (q4, .inl (cJ, 24, .inr (.inl (fun _ => (0 : Int64))))), (q5, .inl (cJ, 24, .inr (.inl (fun _ => (0 : Int64))))), (q6, .inl (cJ, 24, .inr (.inl (fun _ => (0 : Int64)))))] H := hP
  have hD : va_D A [(a0, .inr (2, [.int 0, .ref q1, .ref q2, .ref q3, .ref q4, .ref q5, .ref q6, .null, .null, .int 0])), (q1, .inl (cJ, 24, .inr (.inl (fun _ => (0 : Int64))))), (q2, .inl (cJ, 24, .inr (.inl (fun _ => (0 : Int64))))), (q3, .inl (cJ, 24, .inr (.inl (fun _ => (0 : Int64))))), (q4, .inl (cJ, 24, .inr (.inl (fun _ => (0 : Int64))))), (q5, .inl (cJ, 24, .inr (.inl (fun _ => (0 : Int64))))), (q6, .inl (cJ, 24, .inr (.inl (fun _ => (0 : Int64)))))] := hD
  refine lv_aload_n hx hb d_M_init_52 rfl (lv_at hl 0 rfl) ?_
  refine lv_bipush (v := 24) hx hb d_M_init_53 (by decide) ?_
  refine va_newa (atype := .boolean) (a0 := (24, .inl (fun _ => bI false))) hx hb (hG (.arrayClass .boolean) gx29) (ty := .boolean) rfl hK hP hD hS hA (fun _ => rfl) (by decide) (N' := 24) (by decide) (by decide) (Nat.le_of_ble_eq_true rfl) (Nat.le_of_ble_eq_true rfl) d_M_init_55 (fun q7 cZ H hK7 hP hD hS => ?_)
  have hP : va_P (dC, dI) classes [(a0, .inr (2, [.int 0, .ref q1, .ref q2, .ref q3, .ref q4, .ref q5, .ref q6, .null, .null, .int 0])), (q1, .inl (cJ, 24, .inr (.inl (fun _ => (0 : Int64))))), (q2, .inl (cJ, 24, .inr (.inl (fun _ => (0 : Int64))))), (q3, .inl (cJ, 24, .inr (.inl (fun _ => (0 : Int64))))), (q4, .inl (cJ, 24, .inr (.inl (fun _ => (0 : Int64))))), (q5, .inl (cJ, 24, .inr (.inl (fun _ => (0 : Int64))))), (q6, .inl (cJ, 24, .inr (.inl (fun _ => (0 : Int64))))), (q7, .inl (cZ, 24, .inl (fun _ => bI false)))] H := hP
  have hD : va_D A [(a0, .inr (2, [.int 0, .ref q1, .ref q2, .ref q3, .ref q4, .ref q5, .ref q6, .null, .null, .int 0])), (q1, .inl (cJ, 24, .inr (.inl (fun _ => (0 : Int64))))), (q2, .inl (cJ, 24, .inr (.inl (fun _ => (0 : Int64))))), (q3, .inl (cJ, 24, .inr (.inl (fun _ => (0 : Int64))))), (q4, .inl (cJ, 24, .inr (.inl (fun _ => (0 : Int64))))), (q5, .inl (cJ, 24, .inr (.inl (fun _ => (0 : Int64))))), (q6, .inl (cJ, 24, .inr (.inl (fun _ => (0 : Int64))))), (q7, .inl (cZ, 24, .inl (fun _ => bI false)))] := hD
  refine va_putF (D := (dC, dI)) (ci := 2) (v := .ref q7) (ty := .array .boolean) (C := R_M) (T := F_M) (N := 10) hx hb hts (fun w h => List.mem_cons_of_mem _ (uw_M w h)) t_M t_M_ok n_M hown hK hP hD hS 0 rfl rfl 7 (by decide) (hG (.fieldLink R_M 28 "ValueSieveModel" "empty" "[Z") gx16) (fun _ h9 => h9) rfl hin rfl (by decide +kernel) rfl rfl (Nat.le_of_ble_eq_true rfl) d_M_init_57 (fun H locs hP hD hS => ?_)
  have hP : va_P (dC, dI) classes [(a0, .inr (2, [.int 0, .ref q1, .ref q2, .ref q3, .ref q4, .ref q5, .ref q6, .ref q7, .null, .int 0])), (q1, .inl (cJ, 24, .inr (.inl (fun _ => (0 : Int64))))), (q2, .inl (cJ, 24, .inr (.inl (fun _ => (0 : Int64))))), (q3, .inl (cJ, 24, .inr (.inl (fun _ => (0 : Int64))))), (q4, .inl (cJ, 24, .inr (.inl (fun _ => (0 : Int64))))), (q5, .inl (cJ, 24, .inr (.inl (fun _ => (0 : Int64))))), (q6, .inl (cJ, 24, .inr (.inl (fun _ => (0 : Int64))))), (q7, .inl (cZ, 24, .inl (fun _ => bI false)))] H := hP
  have hD : va_D A [(a0, .inr (2, [.int 0, .ref q1, .ref q2, .ref q3, .ref q4, .ref q5, .ref q6, .ref q7, .null, .int 0])), (q1, .inl (cJ, 24, .inr (.inl (fun _ => (0 : Int64))))), (q2, .inl (cJ, 24, .inr (.inl (fun _ => (0 : Int64))))), (q3, .inl (cJ, 24, .inr (.inl (fun _ => (0 : Int64))))), (q4, .inl (cJ, 24, .inr (.inl (fun _ => (0 : Int64))))), (q5, .inl (cJ, 24, .inr (.inl (fun _ => (0 : Int64))))), (q6, .inl (cJ, 24, .inr (.inl (fun _ => (0 : Int64))))), (q7, .inl (cZ, 24, .inl (fun _ => bI false)))] := hD
  refine lv_aload_n hx hb d_M_init_60 rfl (lv_at hl 0 rfl) ?_
  refine lv_bipush (v := 16) hx hb d_M_init_61 (by decide) ?_
  refine va_newa (atype := .long) (a0 := (16, .inr (.inl (fun _ => (0 : Int64))))) hx hb (hG (.arrayClass .long) gx3) (ty := .long) rfl hK hP hD hS hA (fun _ => rfl) (by decide) (N' := 16) (by decide) (by decide) (Nat.le_of_ble_eq_true rfl) (Nat.le_of_ble_eq_true rfl) d_M_init_63 (fun q8 cA8 H hK8 hP hD hS => ?_)
  have ec8 : cA8 = cJ := Option.some.inj ((hK8.2 1 _ rfl).2.symm.trans (hK8.2 0 _ rfl).2)
  rw [ec8] at hP hD
  have hP : va_P (dC, dI) classes [(a0, .inr (2, [.int 0, .ref q1, .ref q2, .ref q3, .ref q4, .ref q5, .ref q6, .ref q7, .null, .int 0])), (q1, .inl (cJ, 24, .inr (.inl (fun _ => (0 : Int64))))), (q2, .inl (cJ, 24, .inr (.inl (fun _ => (0 : Int64))))), (q3, .inl (cJ, 24, .inr (.inl (fun _ => (0 : Int64))))), (q4, .inl (cJ, 24, .inr (.inl (fun _ => (0 : Int64))))), (q5, .inl (cJ, 24, .inr (.inl (fun _ => (0 : Int64))))), (q6, .inl (cJ, 24, .inr (.inl (fun _ => (0 : Int64))))), (q7, .inl (cZ, 24, .inl (fun _ => bI false))), (q8, .inl (cJ, 16, .inr (.inl (fun _ => (0 : Int64)))))] H := hP
  have hD : va_D A [(a0, .inr (2, [.int 0, .ref q1, .ref q2, .ref q3, .ref q4, .ref q5, .ref q6, .ref q7, .null, .int 0])), (q1, .inl (cJ, 24, .inr (.inl (fun _ => (0 : Int64))))), (q2, .inl (cJ, 24, .inr (.inl (fun _ => (0 : Int64))))), (q3, .inl (cJ, 24, .inr (.inl (fun _ => (0 : Int64))))), (q4, .inl (cJ, 24, .inr (.inl (fun _ => (0 : Int64))))), (q5, .inl (cJ, 24, .inr (.inl (fun _ => (0 : Int64))))), (q6, .inl (cJ, 24, .inr (.inl (fun _ => (0 : Int64))))), (q7, .inl (cZ, 24, .inl (fun _ => bI false))), (q8, .inl (cJ, 16, .inr (.inl (fun _ => (0 : Int64)))))] := hD
  refine va_putF (D := (dC, dI)) (ci := 2) (v := .ref q8) (ty := .array .long) (C := R_M) (T := F_M) (N := 10) hx hb hts (fun w h => List.mem_cons_of_mem _ (uw_M w h)) t_M t_M_ok n_M hown hK hP hD hS 0 rfl rfl 8 (by decide) (hG (.fieldLink R_M 32 "ValueSieveModel" "witness" "[J") gx17) (fun _ h9 => h9) rfl hin rfl (by decide +kernel) rfl rfl (Nat.le_of_ble_eq_true rfl) d_M_init_65 (fun H locs hP hD hS => ?_)
  have hP : va_P (dC, dI) classes [(a0, .inr (2, [.int 0, .ref q1, .ref q2, .ref q3, .ref q4, .ref q5, .ref q6, .ref q7, .ref q8, .int 0])), (q1, .inl (cJ, 24, .inr (.inl (fun _ => (0 : Int64))))), (q2, .inl (cJ, 24, .inr (.inl (fun _ => (0 : Int64))))), (q3, .inl (cJ, 24, .inr (.inl (fun _ => (0 : Int64))))), (q4, .inl (cJ, 24, .inr (.inl (fun _ => (0 : Int64))))), (q5, .inl (cJ, 24, .inr (.inl (fun _ => (0 : Int64))))), (q6, .inl (cJ, 24, .inr (.inl (fun _ => (0 : Int64))))), (q7, .inl (cZ, 24, .inl (fun _ => bI false))), (q8, .inl (cJ, 16, .inr (.inl (fun _ => (0 : Int64)))))] H := hP
  have hD : va_D A [(a0, .inr (2, [.int 0, .ref q1, .ref q2, .ref q3, .ref q4, .ref q5, .ref q6, .ref q7, .ref q8, .int 0])), (q1, .inl (cJ, 24, .inr (.inl (fun _ => (0 : Int64))))), (q2, .inl (cJ, 24, .inr (.inl (fun _ => (0 : Int64))))), (q3, .inl (cJ, 24, .inr (.inl (fun _ => (0 : Int64))))), (q4, .inl (cJ, 24, .inr (.inl (fun _ => (0 : Int64))))), (q5, .inl (cJ, 24, .inr (.inl (fun _ => (0 : Int64))))), (q6, .inl (cJ, 24, .inr (.inl (fun _ => (0 : Int64))))), (q7, .inl (cZ, 24, .inl (fun _ => bI false))), (q8, .inl (cJ, 16, .inr (.inl (fun _ => (0 : Int64)))))] := hD
  exact W.vret hx hb hr (fun t9 ht hW => ⟨⟨(adL [a0, q1, q2, q3, q4, q5, q6, q7, q8], cZ), rfl, rfl, by rw [ht]; exact hP, hD, va_K.moved hW.alike hK7⟩, hS.F ht⟩) hS.2.2 d_M_init_68
