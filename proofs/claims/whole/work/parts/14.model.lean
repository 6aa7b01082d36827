-- mayBe
theorem d_M_mayBe_0 : decode b_M_mayBe 0 = .ok (.aload_n 0, 1) := by decide +kernel
theorem d_M_mayBe_1 : decode b_M_mayBe 1 = .ok (.getfield 13, 3) := by decide +kernel
theorem d_M_mayBe_4 : decode b_M_mayBe 4 = .ok (.iload_n 1, 1) := by decide +kernel
theorem d_M_mayBe_5 : decode b_M_mayBe 5 = .ok (.laload, 1) := by decide +kernel
theorem d_M_mayBe_6 : decode b_M_mayBe 6 = .ok (.iload_n 2, 1) := by decide +kernel
theorem d_M_mayBe_7 : decode b_M_mayBe 7 = .ok (.lushr, 1) := by decide +kernel
theorem d_M_mayBe_8 : decode b_M_mayBe 8 = .ok (.lconst 1, 1) := by decide +kernel
theorem d_M_mayBe_9 : decode b_M_mayBe 9 = .ok (.land, 1) := by decide +kernel
theorem d_M_mayBe_10 : decode b_M_mayBe 10 = .ok (.lconst 1, 1) := by decide +kernel
theorem d_M_mayBe_11 : decode b_M_mayBe 11 = .ok (.lcmp, 1) := by decide +kernel
theorem d_M_mayBe_12 : decode b_M_mayBe 12 = .ok (.ifCond .eq 18, 3) := by decide +kernel
theorem d_M_mayBe_15 : decode b_M_mayBe 15 = .ok (.aload_n 0, 1) := by decide +kernel
theorem d_M_mayBe_16 : decode b_M_mayBe 16 = .ok (.getfield 7, 3) := by decide +kernel
theorem d_M_mayBe_19 : decode b_M_mayBe 19 = .ok (.iload_n 1, 1) := by decide +kernel
theorem d_M_mayBe_20 : decode b_M_mayBe 20 = .ok (.laload, 1) := by decide +kernel
theorem d_M_mayBe_21 : decode b_M_mayBe 21 = .ok (.iload_n 2, 1) := by decide +kernel
theorem d_M_mayBe_22 : decode b_M_mayBe 22 = .ok (.lushr, 1) := by decide +kernel
theorem d_M_mayBe_23 : decode b_M_mayBe 23 = .ok (.lconst 1, 1) := by decide +kernel
theorem d_M_mayBe_24 : decode b_M_mayBe 24 = .ok (.land, 1) := by decide +kernel
theorem d_M_mayBe_25 : decode b_M_mayBe 25 = .ok (.l2i, 1) := by decide +kernel
theorem d_M_mayBe_26 : decode b_M_mayBe 26 = .ok (.iload_n 3, 1) := by decide +kernel
theorem d_M_mayBe_27 : decode b_M_mayBe 27 = .ok (.if_icmp .ne 7, 3) := by decide +kernel
theorem d_M_mayBe_30 : decode b_M_mayBe 30 = .ok (.iconst 1, 1) := by decide +kernel
theorem d_M_mayBe_31 : decode b_M_mayBe 31 = .ok (.goto 4, 3) := by decide +kernel
theorem d_M_mayBe_34 : decode b_M_mayBe 34 = .ok (.iconst 0, 1) := by decide +kernel
theorem d_M_mayBe_35 : decode b_M_mayBe 35 = .ok (.ireturn, 1) := by decide +kernel
def f_M_mayBe_30 (r0 : (Nat → VV)) (p1 : Nat) (p2 : Int32) (p3 : Int32) : Bool := true
def f_M_mayBe (r0 : (Nat → VV)) (p1 : Nat) (p2 : Int32) (p3 : Int32) : Bool := (if (((((r0 p1).2.1).toUInt64 >>> (p2.toInt64.toUInt64 &&& Int64.toUInt64 63)).toInt64) &&& (1 : Int64)) = 1 then f_M_mayBe_30 r0 p1 p2 p3 else (if ((((((r0 p1).1).toUInt64 >>> (p2.toInt64.toUInt64 &&& Int64.toUInt64 63)).toInt64) &&& (1 : Int64)).toInt32) = p3 then f_M_mayBe_30 r0 p1 p2 p3 else false))
set_option maxRecDepth 100000 in
set_option maxHeartbeats 4000000 in
theorem c_M_mayBe (l : Launch) (dC : Nat → ClassId) (dI : Nat → Nat → Nat) (ad : Nat → Nat) (cJ cZ : ClassId) (c0 : Int32) (r0 : (Nat → VV)) (w0 : (Nat → Int64)) (s0 : Int32) (p1 : Nat) (p2 : Int32) (p3 : Int32) (b1 : p1 < 24) : Met l y_M_mayBe w_M_mayBe ({ frames := 0, cells := 0, slots := 0, locals := 0 } : Room) (va_Pc [.ref (ad 0), .int (nI p1), .int (p2), .int (p3)] (nR (dC, dI) (mT cJ cZ) (mW ad cJ cZ c0 r0 w0 s0))) (vp_Si (fun r => r = bI (f_M_mayBe r0 p1 p2 p3))) 0 0 (fun _ => False) := by
  refine Met.ofW (cc := b_M_mayBe) (maxL := 4) (ret := (some .boolean)) (by decide) rfl ?_
  intro p e s m args below meth c s₁ B hml hv
  obtain ⟨rfl, hP, hK⟩ := hv
  have hx := B.exec
  have hb := B.bytes
  have hr := B.returns
  have hts := atoms_spec (ws := w_M_mayBe) B.pre
  have hG : ∀ w ∈ gM, w.before _ s = true := fun w h => hts w (List.mem_cons_of_mem _ h)
  have hown : s.vm.findClass R_M = some m.cls := findClass_of_methodNamed B.named
  have hlocks := B.notSynchronized
  have hl := lv_entry ([.ref (ad 0), .int (nI p1), .int (p2), .int (p3)]) (n := 4) (Nat.le_of_ble_eq_true rfl)
  rw [lg_entry_eq]
  generalize (lg_sl ([.ref (ad 0), .int (nI p1), .int (p2), .int (p3)]) ++ List.replicate (4 - (lg_sl ([.ref (ad 0), .int (nI p1), .int (p2), .int (p3)])).length) Slot.unset).toArray = ls at hl ⊢
  have hl : lv_has ls 4 [(0, .ref (ad 0)), (1, .int (nI p1)), (2, .int (p2)), (3, .int (p3))] := hl
  have K30 : ∀ (hj : f_M_mayBe r0 p1 p2 p3 = f_M_mayBe_30 r0 p1 p2 p3) (ls : Array Slot) (hl : lv_has ls 4 []), W p l e (headSpec w_M_mayBe ({ frames := 0, cells := 0, slots := 0, locals := 0 } : Room)).room s m ([.ref (ad 0), .int (nI p1), .int (p2), .int (p3)] : List Value).toArray below meth c s.heap [] 0 0 (MQ below (vp_Si (fun r => r = bI (f_M_mayBe r0 p1 p2 p3))) ([.ref (ad 0), .int (nI p1), .int (p2), .int (p3)] : List Value).toArray s 0 0 (fun _ => False)) (F0 m 30 ls []) := by
    intro hj ls hl
    refine lv_iconst (v := 1) hx hb d_M_mayBe_30 (by decide) ?_
    refine lv_goto (tgt := 35) hx hb d_M_mayBe_31 (by decide) ?_
    have fe : f_M_mayBe r0 p1 p2 p3 = true := hj.trans rfl
    exact W.zret (v := bI true) hx hb hr (bI_n true) (fun t ht hW => ⟨_, rfl, by rw [fe], ht⟩) t_nil d_M_mayBe_35
  refine lv_aload_n hx hb d_M_mayBe_0 rfl (lv_at hl 0 rfl) ?_
  refine va_get (D := (dC, dI)) (ci := 2) (v := .ref (ad 2)) (C := R_M) (T := F_M) (N := 10) hx hb hts (fun w h => List.mem_cons_of_mem _ (uw_M w h)) hown hK hP 0 rfl rfl 2 (by decide) (hG (.fieldLink R_M 13 "ValueSieveModel" "open" "[J") gx11) (fun _ h9 => h9) rfl d_M_mayBe_1 ?_
  refine lv_iload_n hx hb d_M_mayBe_4 rfl (lv_at hl 1 rfl) ?_
  refine ml_2 (P := p1) hx hb hK hP rfl b1 d_M_mayBe_5 ?_
  refine lv_iload_n hx hb d_M_mayBe_6 rfl (lv_at hl 2 rfl) ?_
  refine lv_lushr (v := (((r0 p1).2.1).toUInt64 >>> (p2.toInt64.toUInt64 &&& Int64.toUInt64 63)).toInt64) hx hb d_M_mayBe_7 rfl ?_
  refine lv_lconst (v := 1) hx hb d_M_mayBe_8 (by decide) ?_
  refine lv_land hx hb d_M_mayBe_9 ?_
  refine lv_lconst (v := 1) hx hb d_M_mayBe_10 (by decide) ?_
  refine wl_eq (tgt := 30) hx hb d_M_mayBe_11 d_M_mayBe_12 (by decide) (fun e1_30 => ?_) (fun e1_30 => ?_)
  · exact K30 (by unfold f_M_mayBe; first | with_reducible exact if_pos e1_30 | exact if_pos e1_30) ls (lv_sub hl [] rfl)
  · refine lv_aload_n hx hb d_M_mayBe_15 rfl (lv_at hl 0 rfl) ?_
    refine va_get (D := (dC, dI)) (ci := 2) (v := .ref (ad 1)) (C := R_M) (T := F_M) (N := 10) hx hb hts (fun w h => List.mem_cons_of_mem _ (uw_M w h)) hown hK hP 0 rfl rfl 1 (by decide) (hG (.fieldLink R_M 7 "ValueSieveModel" "bits" "[J") gx10) (fun _ h9 => h9) rfl d_M_mayBe_16 ?_
    refine lv_iload_n hx hb d_M_mayBe_19 rfl (lv_at hl 1 rfl) ?_
    refine ml_1 (P := p1) hx hb hK hP rfl b1 d_M_mayBe_20 ?_
    refine lv_iload_n hx hb d_M_mayBe_21 rfl (lv_at hl 2 rfl) ?_
    refine lv_lushr (v := (((r0 p1).1).toUInt64 >>> (p2.toInt64.toUInt64 &&& Int64.toUInt64 63)).toInt64) hx hb d_M_mayBe_22 rfl ?_
    refine lv_lconst (v := 1) hx hb d_M_mayBe_23 (by decide) ?_
    refine lv_land hx hb d_M_mayBe_24 ?_
    refine lv_l2i (v := (((((r0 p1).1).toUInt64 >>> (p2.toInt64.toUInt64 &&& Int64.toUInt64 63)).toInt64) &&& (1 : Int64)).toInt32) hx hb d_M_mayBe_25 rfl ?_
    refine lv_iload_n hx hb d_M_mayBe_26 rfl (lv_at hl 3 rfl) ?_
    refine lv_icmp_ne (tgt := 34) hx hb d_M_mayBe_27 (by decide) (fun e2_34 => ?_) (fun e2_34 => ?_)
    · refine lv_iconst (v := 0) hx hb d_M_mayBe_34 (by decide) ?_
      have fe : f_M_mayBe r0 p1 p2 p3 = false := by unfold f_M_mayBe; first | with_reducible exact (if_neg e1_30).trans (if_neg e2_34) | exact (if_neg e1_30).trans (if_neg e2_34)
      exact W.zret (v := bI false) hx hb hr (bI_n false) (fun t ht hW => ⟨_, rfl, by rw [fe], ht⟩) t_nil d_M_mayBe_35
    · exact K30 (by unfold f_M_mayBe; first | with_reducible exact (if_neg e1_30).trans (if_pos e2_34) | exact (if_neg e1_30).trans (if_pos e2_34)) ls (lv_sub hl [] rfl)
-- sumBits
theorem d_M_sumBits_0 : decode b_M_sumBits 0 = .ok (.lconst 0, 1) := by decide +kernel
theorem d_M_sumBits_1 : decode b_M_sumBits 1 = .ok (.lstore_n 2, 1) := by decide +kernel
theorem d_M_sumBits_2 : decode b_M_sumBits 2 = .ok (.lconst 0, 1) := by decide +kernel
theorem d_M_sumBits_3 : decode b_M_sumBits 3 = .ok (.lstore 4, 2) := by decide +kernel
theorem d_M_sumBits_5 : decode b_M_sumBits 5 = .ok (.iconst 1, 1) := by decide +kernel
theorem d_M_sumBits_6 : decode b_M_sumBits 6 = .ok (.istore 6, 2) := by decide +kernel
theorem d_M_sumBits_8 : decode b_M_sumBits 8 = .ok (.iconst 0, 1) := by decide +kernel
theorem d_M_sumBits_9 : decode b_M_sumBits 9 = .ok (.istore 7, 2) := by decide +kernel
theorem d_M_sumBits_11 : decode b_M_sumBits 11 = .ok (.iconst 0, 1) := by decide +kernel
theorem d_M_sumBits_12 : decode b_M_sumBits 12 = .ok (.istore 8, 2) := by decide +kernel
theorem d_M_sumBits_14 : decode b_M_sumBits 14 = .ok (.iload 8, 2) := by decide +kernel
theorem d_M_sumBits_16 : decode b_M_sumBits 16 = .ok (.bipush 64, 2) := by decide +kernel
theorem d_M_sumBits_18 : decode b_M_sumBits 18 = .ok (.if_icmp .ge 282, 3) := by decide +kernel
theorem d_M_sumBits_21 : decode b_M_sumBits 21 = .ok (.iconst 0, 1) := by decide +kernel
theorem d_M_sumBits_22 : decode b_M_sumBits 22 = .ok (.istore 9, 2) := by decide +kernel
theorem d_M_sumBits_24 : decode b_M_sumBits 24 = .ok (.iconst 0, 1) := by decide +kernel
theorem d_M_sumBits_25 : decode b_M_sumBits 25 = .ok (.istore 10, 2) := by decide +kernel
theorem d_M_sumBits_27 : decode b_M_sumBits 27 = .ok (.iconst 0, 1) := by decide +kernel
theorem d_M_sumBits_28 : decode b_M_sumBits 28 = .ok (.istore 11, 2) := by decide +kernel
theorem d_M_sumBits_30 : decode b_M_sumBits 30 = .ok (.iconst 0, 1) := by decide +kernel
theorem d_M_sumBits_31 : decode b_M_sumBits 31 = .ok (.istore 12, 2) := by decide +kernel
theorem d_M_sumBits_33 : decode b_M_sumBits 33 = .ok (.iconst 0, 1) := by decide +kernel
theorem d_M_sumBits_34 : decode b_M_sumBits 34 = .ok (.istore 13, 2) := by decide +kernel
theorem d_M_sumBits_36 : decode b_M_sumBits 36 = .ok (.iload 13, 2) := by decide +kernel
theorem d_M_sumBits_38 : decode b_M_sumBits 38 = .ok (.bipush 8, 2) := by decide +kernel
theorem d_M_sumBits_40 : decode b_M_sumBits 40 = .ok (.if_icmp .ge 201, 3) := by decide +kernel
theorem d_M_sumBits_43 : decode b_M_sumBits 43 = .ok (.iload 13, 2) := by decide +kernel
theorem d_M_sumBits_45 : decode b_M_sumBits 45 = .ok (.iconst 1, 1) := by decide +kernel
theorem d_M_sumBits_46 : decode b_M_sumBits 46 = .ok (.iand, 1) := by decide +kernel
theorem d_M_sumBits_47 : decode b_M_sumBits 47 = .ok (.istore 14, 2) := by decide +kernel
theorem d_M_sumBits_49 : decode b_M_sumBits 49 = .ok (.iload 13, 2) := by decide +kernel
theorem d_M_sumBits_51 : decode b_M_sumBits 51 = .ok (.iconst 1, 1) := by decide +kernel
theorem d_M_sumBits_52 : decode b_M_sumBits 52 = .ok (.ishr, 1) := by decide +kernel
theorem d_M_sumBits_53 : decode b_M_sumBits 53 = .ok (.iconst 1, 1) := by decide +kernel
theorem d_M_sumBits_54 : decode b_M_sumBits 54 = .ok (.iand, 1) := by decide +kernel
theorem d_M_sumBits_55 : decode b_M_sumBits 55 = .ok (.istore 15, 2) := by decide +kernel
theorem d_M_sumBits_57 : decode b_M_sumBits 57 = .ok (.iload 13, 2) := by decide +kernel
theorem d_M_sumBits_59 : decode b_M_sumBits 59 = .ok (.iconst 2, 1) := by decide +kernel
theorem d_M_sumBits_60 : decode b_M_sumBits 60 = .ok (.ishr, 1) := by decide +kernel
theorem d_M_sumBits_61 : decode b_M_sumBits 61 = .ok (.istore 16, 2) := by decide +kernel
theorem d_M_sumBits_63 : decode b_M_sumBits 63 = .ok (.aload_n 0, 1) := by decide +kernel
theorem d_M_sumBits_64 : decode b_M_sumBits 64 = .ok (.bipush 16, 2) := by decide +kernel
theorem d_M_sumBits_66 : decode b_M_sumBits 66 = .ok (.iload 8, 2) := by decide +kernel
theorem d_M_sumBits_68 : decode b_M_sumBits 68 = .ok (.iload 14, 2) := by decide +kernel
theorem d_M_sumBits_70 : decode b_M_sumBits 70 = .ok (.invokevirtual 136, 3) := by decide +kernel
theorem d_M_sumBits_73 : decode b_M_sumBits 73 = .ok (.ifCond .eq 162, 3) := by decide +kernel
theorem d_M_sumBits_76 : decode b_M_sumBits 76 = .ok (.aload_n 0, 1) := by decide +kernel
theorem d_M_sumBits_77 : decode b_M_sumBits 77 = .ok (.bipush 17, 2) := by decide +kernel
theorem d_M_sumBits_79 : decode b_M_sumBits 79 = .ok (.iload 8, 2) := by decide +kernel
theorem d_M_sumBits_81 : decode b_M_sumBits 81 = .ok (.iload 15, 2) := by decide +kernel
theorem d_M_sumBits_83 : decode b_M_sumBits 83 = .ok (.invokevirtual 136, 3) := by decide +kernel
theorem d_M_sumBits_86 : decode b_M_sumBits 86 = .ok (.ifCond .eq 149, 3) := by decide +kernel
theorem d_M_sumBits_89 : decode b_M_sumBits 89 = .ok (.iload 16, 2) := by decide +kernel
theorem d_M_sumBits_91 : decode b_M_sumBits 91 = .ok (.ifCond .ne 11, 3) := by decide +kernel
theorem d_M_sumBits_94 : decode b_M_sumBits 94 = .ok (.iload 6, 2) := by decide +kernel
theorem d_M_sumBits_96 : decode b_M_sumBits 96 = .ok (.ifCond .eq 139, 3) := by decide +kernel
theorem d_M_sumBits_99 : decode b_M_sumBits 99 = .ok (.goto 8, 3) := by decide +kernel
theorem d_M_sumBits_102 : decode b_M_sumBits 102 = .ok (.iload 7, 2) := by decide +kernel
theorem d_M_sumBits_104 : decode b_M_sumBits 104 = .ok (.ifCond .eq 131, 3) := by decide +kernel
theorem d_M_sumBits_107 : decode b_M_sumBits 107 = .ok (.iload_n 1, 1) := by decide +kernel
theorem d_M_sumBits_108 : decode b_M_sumBits 108 = .ok (.ifCond .eq 14, 3) := by decide +kernel
theorem d_M_sumBits_111 : decode b_M_sumBits 111 = .ok (.iload 14, 2) := by decide +kernel
theorem d_M_sumBits_113 : decode b_M_sumBits 113 = .ok (.iload 15, 2) := by decide +kernel
theorem d_M_sumBits_115 : decode b_M_sumBits 115 = .ok (.isub, 1) := by decide +kernel
theorem d_M_sumBits_116 : decode b_M_sumBits 116 = .ok (.iload 16, 2) := by decide +kernel
theorem d_M_sumBits_118 : decode b_M_sumBits 118 = .ok (.isub, 1) := by decide +kernel
theorem d_M_sumBits_119 : decode b_M_sumBits 119 = .ok (.goto 11, 3) := by decide +kernel
theorem d_M_sumBits_122 : decode b_M_sumBits 122 = .ok (.iload 14, 2) := by decide +kernel
theorem d_M_sumBits_124 : decode b_M_sumBits 124 = .ok (.iload 15, 2) := by decide +kernel
theorem d_M_sumBits_126 : decode b_M_sumBits 126 = .ok (.iadd, 1) := by decide +kernel
theorem d_M_sumBits_127 : decode b_M_sumBits 127 = .ok (.iload 16, 2) := by decide +kernel
theorem d_M_sumBits_129 : decode b_M_sumBits 129 = .ok (.iadd, 1) := by decide +kernel
theorem d_M_sumBits_130 : decode b_M_sumBits 130 = .ok (.istore 17, 2) := by decide +kernel
theorem d_M_sumBits_132 : decode b_M_sumBits 132 = .ok (.iload 9, 2) := by decide +kernel
theorem d_M_sumBits_134 : decode b_M_sumBits 134 = .ok (.ifCond .ne 10, 3) := by decide +kernel
theorem d_M_sumBits_137 : decode b_M_sumBits 137 = .ok (.iload 17, 2) := by decide +kernel
theorem d_M_sumBits_139 : decode b_M_sumBits 139 = .ok (.iconst 1, 1) := by decide +kernel
theorem d_M_sumBits_140 : decode b_M_sumBits 140 = .ok (.iand, 1) := by decide +kernel
theorem d_M_sumBits_141 : decode b_M_sumBits 141 = .ok (.ifCond .ne 7, 3) := by decide +kernel
theorem d_M_sumBits_144 : decode b_M_sumBits 144 = .ok (.iconst 1, 1) := by decide +kernel
theorem d_M_sumBits_145 : decode b_M_sumBits 145 = .ok (.goto 4, 3) := by decide +kernel
theorem d_M_sumBits_148 : decode b_M_sumBits 148 = .ok (.iconst 0, 1) := by decide +kernel
theorem d_M_sumBits_149 : decode b_M_sumBits 149 = .ok (.istore 9, 2) := by decide +kernel
theorem d_M_sumBits_151 : decode b_M_sumBits 151 = .ok (.iload 10, 2) := by decide +kernel
theorem d_M_sumBits_153 : decode b_M_sumBits 153 = .ok (.ifCond .ne 11, 3) := by decide +kernel
theorem d_M_sumBits_156 : decode b_M_sumBits 156 = .ok (.iload 17, 2) := by decide +kernel
theorem d_M_sumBits_158 : decode b_M_sumBits 158 = .ok (.iconst 1, 1) := by decide +kernel
theorem d_M_sumBits_159 : decode b_M_sumBits 159 = .ok (.iand, 1) := by decide +kernel
theorem d_M_sumBits_160 : decode b_M_sumBits 160 = .ok (.iconst 1, 1) := by decide +kernel
theorem d_M_sumBits_161 : decode b_M_sumBits 161 = .ok (.if_icmp .ne 7, 3) := by decide +kernel
theorem d_M_sumBits_164 : decode b_M_sumBits 164 = .ok (.iconst 1, 1) := by decide +kernel
theorem d_M_sumBits_165 : decode b_M_sumBits 165 = .ok (.goto 4, 3) := by decide +kernel
theorem d_M_sumBits_168 : decode b_M_sumBits 168 = .ok (.iconst 0, 1) := by decide +kernel
theorem d_M_sumBits_169 : decode b_M_sumBits 169 = .ok (.istore 10, 2) := by decide +kernel
theorem d_M_sumBits_171 : decode b_M_sumBits 171 = .ok (.iload_n 1, 1) := by decide +kernel
theorem d_M_sumBits_172 : decode b_M_sumBits 172 = .ok (.ifCond .eq 16, 3) := by decide +kernel
theorem d_M_sumBits_175 : decode b_M_sumBits 175 = .ok (.iload 17, 2) := by decide +kernel
theorem d_M_sumBits_177 : decode b_M_sumBits 177 = .ok (.ifCond .ge 7, 3) := by decide +kernel
theorem d_M_sumBits_180 : decode b_M_sumBits 180 = .ok (.iconst 1, 1) := by decide +kernel
theorem d_M_sumBits_181 : decode b_M_sumBits 181 = .ok (.goto 18, 3) := by decide +kernel
theorem d_M_sumBits_184 : decode b_M_sumBits 184 = .ok (.iconst 0, 1) := by decide +kernel
theorem d_M_sumBits_185 : decode b_M_sumBits 185 = .ok (.goto 14, 3) := by decide +kernel
theorem d_M_sumBits_188 : decode b_M_sumBits 188 = .ok (.iload 17, 2) := by decide +kernel
theorem d_M_sumBits_190 : decode b_M_sumBits 190 = .ok (.iconst 1, 1) := by decide +kernel
theorem d_M_sumBits_191 : decode b_M_sumBits 191 = .ok (.if_icmp .le 7, 3) := by decide +kernel
theorem d_M_sumBits_194 : decode b_M_sumBits 194 = .ok (.iconst 1, 1) := by decide +kernel
theorem d_M_sumBits_195 : decode b_M_sumBits 195 = .ok (.goto 4, 3) := by decide +kernel
theorem d_M_sumBits_198 : decode b_M_sumBits 198 = .ok (.iconst 0, 1) := by decide +kernel
theorem d_M_sumBits_199 : decode b_M_sumBits 199 = .ok (.istore 18, 2) := by decide +kernel
theorem d_M_sumBits_201 : decode b_M_sumBits 201 = .ok (.iload 12, 2) := by decide +kernel
theorem d_M_sumBits_203 : decode b_M_sumBits 203 = .ok (.ifCond .ne 8, 3) := by decide +kernel
theorem d_M_sumBits_206 : decode b_M_sumBits 206 = .ok (.iload 18, 2) := by decide +kernel
theorem d_M_sumBits_208 : decode b_M_sumBits 208 = .ok (.ifCond .eq 7, 3) := by decide +kernel
theorem d_M_sumBits_211 : decode b_M_sumBits 211 = .ok (.iconst 1, 1) := by decide +kernel
theorem d_M_sumBits_212 : decode b_M_sumBits 212 = .ok (.goto 4, 3) := by decide +kernel
theorem d_M_sumBits_215 : decode b_M_sumBits 215 = .ok (.iconst 0, 1) := by decide +kernel
theorem d_M_sumBits_216 : decode b_M_sumBits 216 = .ok (.istore 12, 2) := by decide +kernel
theorem d_M_sumBits_218 : decode b_M_sumBits 218 = .ok (.iload 11, 2) := by decide +kernel
theorem d_M_sumBits_220 : decode b_M_sumBits 220 = .ok (.ifCond .ne 8, 3) := by decide +kernel
theorem d_M_sumBits_223 : decode b_M_sumBits 223 = .ok (.iload 18, 2) := by decide +kernel
theorem d_M_sumBits_225 : decode b_M_sumBits 225 = .ok (.ifCond .ne 7, 3) := by decide +kernel
theorem d_M_sumBits_228 : decode b_M_sumBits 228 = .ok (.iconst 1, 1) := by decide +kernel
theorem d_M_sumBits_229 : decode b_M_sumBits 229 = .ok (.goto 4, 3) := by decide +kernel
theorem d_M_sumBits_232 : decode b_M_sumBits 232 = .ok (.iconst 0, 1) := by decide +kernel
theorem d_M_sumBits_233 : decode b_M_sumBits 233 = .ok (.istore 11, 2) := by decide +kernel
theorem d_M_sumBits_235 : decode b_M_sumBits 235 = .ok (.iinc 13 1, 3) := by decide +kernel
theorem d_M_sumBits_238 : decode b_M_sumBits 238 = .ok (.goto (-202), 3) := by decide +kernel
theorem d_M_sumBits_241 : decode b_M_sumBits 241 = .ok (.iload 9, 2) := by decide +kernel
theorem d_M_sumBits_243 : decode b_M_sumBits 243 = .ok (.ifCond .eq 18, 3) := by decide +kernel
theorem d_M_sumBits_246 : decode b_M_sumBits 246 = .ok (.iload 10, 2) := by decide +kernel
theorem d_M_sumBits_248 : decode b_M_sumBits 248 = .ok (.ifCond .eq 13, 3) := by decide +kernel
theorem d_M_sumBits_251 : decode b_M_sumBits 251 = .ok (.lload 4, 2) := by decide +kernel
theorem d_M_sumBits_253 : decode b_M_sumBits 253 = .ok (.lconst 1, 1) := by decide +kernel
theorem d_M_sumBits_254 : decode b_M_sumBits 254 = .ok (.iload 8, 2) := by decide +kernel
theorem d_M_sumBits_256 : decode b_M_sumBits 256 = .ok (.lshl, 1) := by decide +kernel
theorem d_M_sumBits_257 : decode b_M_sumBits 257 = .ok (.lor, 1) := by decide +kernel
theorem d_M_sumBits_258 : decode b_M_sumBits 258 = .ok (.goto 5, 3) := by decide +kernel
theorem d_M_sumBits_261 : decode b_M_sumBits 261 = .ok (.lload 4, 2) := by decide +kernel
theorem d_M_sumBits_263 : decode b_M_sumBits 263 = .ok (.lstore 4, 2) := by decide +kernel
theorem d_M_sumBits_265 : decode b_M_sumBits 265 = .ok (.iload 10, 2) := by decide +kernel
theorem d_M_sumBits_267 : decode b_M_sumBits 267 = .ok (.ifCond .eq 17, 3) := by decide +kernel
theorem d_M_sumBits_270 : decode b_M_sumBits 270 = .ok (.iload 9, 2) := by decide +kernel
theorem d_M_sumBits_272 : decode b_M_sumBits 272 = .ok (.ifCond .ne 12, 3) := by decide +kernel
theorem d_M_sumBits_275 : decode b_M_sumBits 275 = .ok (.lload_n 2, 1) := by decide +kernel
theorem d_M_sumBits_276 : decode b_M_sumBits 276 = .ok (.lconst 1, 1) := by decide +kernel
theorem d_M_sumBits_277 : decode b_M_sumBits 277 = .ok (.iload 8, 2) := by decide +kernel
theorem d_M_sumBits_279 : decode b_M_sumBits 279 = .ok (.lshl, 1) := by decide +kernel
theorem d_M_sumBits_280 : decode b_M_sumBits 280 = .ok (.lor, 1) := by decide +kernel
theorem d_M_sumBits_281 : decode b_M_sumBits 281 = .ok (.goto 4, 3) := by decide +kernel
theorem d_M_sumBits_284 : decode b_M_sumBits 284 = .ok (.lload_n 2, 1) := by decide +kernel
theorem d_M_sumBits_285 : decode b_M_sumBits 285 = .ok (.lstore_n 2, 1) := by decide +kernel
theorem d_M_sumBits_286 : decode b_M_sumBits 286 = .ok (.iload 11, 2) := by decide +kernel
theorem d_M_sumBits_288 : decode b_M_sumBits 288 = .ok (.istore 6, 2) := by decide +kernel
theorem d_M_sumBits_290 : decode b_M_sumBits 290 = .ok (.iload 12, 2) := by decide +kernel
theorem d_M_sumBits_292 : decode b_M_sumBits 292 = .ok (.istore 7, 2) := by decide +kernel
theorem d_M_sumBits_294 : decode b_M_sumBits 294 = .ok (.iinc 8 1, 3) := by decide +kernel
theorem d_M_sumBits_297 : decode b_M_sumBits 297 = .ok (.goto (-283), 3) := by decide +kernel
theorem d_M_sumBits_300 : decode b_M_sumBits 300 = .ok (.aload_n 0, 1) := by decide +kernel
theorem d_M_sumBits_301 : decode b_M_sumBits 301 = .ok (.getfield 7, 3) := by decide +kernel
theorem d_M_sumBits_304 : decode b_M_sumBits 304 = .ok (.bipush 18, 2) := by decide +kernel
theorem d_M_sumBits_306 : decode b_M_sumBits 306 = .ok (.lload_n 2, 1) := by decide +kernel
theorem d_M_sumBits_307 : decode b_M_sumBits 307 = .ok (.lastore, 1) := by decide +kernel
theorem d_M_sumBits_308 : decode b_M_sumBits 308 = .ok (.aload_n 0, 1) := by decide +kernel
theorem d_M_sumBits_309 : decode b_M_sumBits 309 = .ok (.getfield 13, 3) := by decide +kernel
theorem d_M_sumBits_312 : decode b_M_sumBits 312 = .ok (.bipush 18, 2) := by decide +kernel
theorem d_M_sumBits_314 : decode b_M_sumBits 314 = .ok (.lload 4, 2) := by decide +kernel
theorem d_M_sumBits_316 : decode b_M_sumBits 316 = .ok (.lastore, 1) := by decide +kernel
theorem d_M_sumBits_317 : decode b_M_sumBits 317 = .ok (.return_, 1) := by decide +kernel
def f_M_sumBits_316u (r0 : (Nat → VV)) (p1 : Bool) (r316n : (Nat → VV)) : (Nat → VV) := r316n
def f_M_sumBits_307u (r0 : (Nat → VV)) (p1 : Bool) (x14_4 : Int64) (r307n : (Nat → VV)) : (Nat → VV) := f_M_sumBits_316u r0 p1 (u2 r307n 18 x14_4)
def f_M_sumBits_285 (r0 : (Nat → VV)) (p1 : Bool) (x14_8 : Int32) (x14_7 : Bool) (x14_6 : Bool) (x14_4 : Int64) (x14_2 : Int64) (k14 : Int32 → Bool → Bool → Int64 → Int64 → (Nat → VV)) (s263_0 : Int64) (x36_12 : Bool) (x36_11 : Bool) (s285_0 : Int64) : (Nat → VV) := k14 (x14_8 + 1) x36_12 x36_11 s263_0 s285_0
def f_M_sumBits_284 (r0 : (Nat → VV)) (p1 : Bool) (x14_8 : Int32) (x14_7 : Bool) (x14_6 : Bool) (x14_4 : Int64) (x14_2 : Int64) (k14 : Int32 → Bool → Bool → Int64 → Int64 → (Nat → VV)) (s263_0 : Int64) (x36_12 : Bool) (x36_11 : Bool) : (Nat → VV) := f_M_sumBits_285 r0 p1 x14_8 x14_7 x14_6 x14_4 x14_2 k14 s263_0 x36_12 x36_11 x14_2
def f_M_sumBits_263 (r0 : (Nat → VV)) (p1 : Bool) (x14_8 : Int32) (x14_7 : Bool) (x14_6 : Bool) (x14_4 : Int64) (x14_2 : Int64) (k14 : Int32 → Bool → Bool → Int64 → Int64 → (Nat → VV)) (x36_12 : Bool) (x36_11 : Bool) (x36_10 : Bool) (x36_9 : Bool) (s263_0 : Int64) : (Nat → VV) := (if x36_10 = true then (if x36_9 = true then f_M_sumBits_284 r0 p1 x14_8 x14_7 x14_6 x14_4 x14_2 k14 s263_0 x36_12 x36_11 else f_M_sumBits_285 r0 p1 x14_8 x14_7 x14_6 x14_4 x14_2 k14 s263_0 x36_12 x36_11 (x14_2 ||| ((1 : Int64) <<< (x14_8.toInt64 &&& 63)))) else f_M_sumBits_284 r0 p1 x14_8 x14_7 x14_6 x14_4 x14_2 k14 s263_0 x36_12 x36_11)
def f_M_sumBits_261 (r0 : (Nat → VV)) (p1 : Bool) (x14_8 : Int32) (x14_7 : Bool) (x14_6 : Bool) (x14_4 : Int64) (x14_2 : Int64) (k14 : Int32 → Bool → Bool → Int64 → Int64 → (Nat → VV)) (x36_12 : Bool) (x36_11 : Bool) (x36_10 : Bool) (x36_9 : Bool) : (Nat → VV) := f_M_sumBits_263 r0 p1 x14_8 x14_7 x14_6 x14_4 x14_2 k14 x36_12 x36_11 x36_10 x36_9 x14_4
def f_M_sumBits_235 (r0 : (Nat → VV)) (p1 : Bool) (x14_8 : Int32) (x14_7 : Bool) (x14_6 : Bool) (x14_4 : Int64) (x14_2 : Int64) (x36_13 : Int32) (x36_12 : Bool) (x36_11 : Bool) (x36_10 : Bool) (x36_9 : Bool) (k14 : Int32 → Bool → Bool → Int64 → Int64 → (Nat → VV)) (k36 : Int32 → Bool → Bool → Bool → Bool → (Nat → VV)) (x235_12 : Bool) (x235_11 : Bool) (x235_10 : Bool) (x235_9 : Bool) : (Nat → VV) := k36 (x36_13 + 1) x235_12 x235_11 x235_10 x235_9
def f_M_sumBits_233 (r0 : (Nat → VV)) (p1 : Bool) (x14_8 : Int32) (x14_7 : Bool) (x14_6 : Bool) (x14_4 : Int64) (x14_2 : Int64) (x36_13 : Int32) (x36_12 : Bool) (x36_11 : Bool) (x36_10 : Bool) (x36_9 : Bool) (k14 : Int32 → Bool → Bool → Int64 → Int64 → (Nat → VV)) (k36 : Int32 → Bool → Bool → Bool → Bool → (Nat → VV)) (s216_0 : Bool) (s169_0 : Bool) (s149_0 : Bool) (s233_0 : Bool) : (Nat → VV) := f_M_sumBits_235 r0 p1 x14_8 x14_7 x14_6 x14_4 x14_2 x36_13 x36_12 x36_11 x36_10 x36_9 k14 k36 s216_0 s233_0 s169_0 s149_0
def f_M_sumBits_228 (r0 : (Nat → VV)) (p1 : Bool) (x14_8 : Int32) (x14_7 : Bool) (x14_6 : Bool) (x14_4 : Int64) (x14_2 : Int64) (x36_13 : Int32) (x36_12 : Bool) (x36_11 : Bool) (x36_10 : Bool) (x36_9 : Bool) (k14 : Int32 → Bool → Bool → Int64 → Int64 → (Nat → VV)) (k36 : Int32 → Bool → Bool → Bool → Bool → (Nat → VV)) (s216_0 : Bool) (s169_0 : Bool) (s149_0 : Bool) : (Nat → VV) := f_M_sumBits_233 r0 p1 x14_8 x14_7 x14_6 x14_4 x14_2 x36_13 x36_12 x36_11 x36_10 x36_9 k14 k36 s216_0 s169_0 s149_0 true
def f_M_sumBits_216 (r0 : (Nat → VV)) (p1 : Bool) (x14_8 : Int32) (x14_7 : Bool) (x14_6 : Bool) (x14_4 : Int64) (x14_2 : Int64) (x36_13 : Int32) (x36_12 : Bool) (x36_11 : Bool) (x36_10 : Bool) (x36_9 : Bool) (k14 : Int32 → Bool → Bool → Int64 → Int64 → (Nat → VV)) (k36 : Int32 → Bool → Bool → Bool → Bool → (Nat → VV)) (s199_0 : Bool) (s169_0 : Bool) (s149_0 : Bool) (s216_0 : Bool) : (Nat → VV) := (if x36_11 = true then f_M_sumBits_228 r0 p1 x14_8 x14_7 x14_6 x14_4 x14_2 x36_13 x36_12 x36_11 x36_10 x36_9 k14 k36 s216_0 s169_0 s149_0 else (if s199_0 = true then f_M_sumBits_233 r0 p1 x14_8 x14_7 x14_6 x14_4 x14_2 x36_13 x36_12 x36_11 x36_10 x36_9 k14 k36 s216_0 s169_0 s149_0 false else f_M_sumBits_228 r0 p1 x14_8 x14_7 x14_6 x14_4 x14_2 x36_13 x36_12 x36_11 x36_10 x36_9 k14 k36 s216_0 s169_0 s149_0))
def f_M_sumBits_211 (r0 : (Nat → VV)) (p1 : Bool) (x14_8 : Int32) (x14_7 : Bool) (x14_6 : Bool) (x14_4 : Int64) (x14_2 : Int64) (x36_13 : Int32) (x36_12 : Bool) (x36_11 : Bool) (x36_10 : Bool) (x36_9 : Bool) (k14 : Int32 → Bool → Bool → Int64 → Int64 → (Nat → VV)) (k36 : Int32 → Bool → Bool → Bool → Bool → (Nat → VV)) (s199_0 : Bool) (s169_0 : Bool) (s149_0 : Bool) : (Nat → VV) := f_M_sumBits_216 r0 p1 x14_8 x14_7 x14_6 x14_4 x14_2 x36_13 x36_12 x36_11 x36_10 x36_9 k14 k36 s199_0 s169_0 s149_0 true
def f_M_sumBits_199 (r0 : (Nat → VV)) (p1 : Bool) (x14_8 : Int32) (x14_7 : Bool) (x14_6 : Bool) (x14_4 : Int64) (x14_2 : Int64) (x36_13 : Int32) (x36_12 : Bool) (x36_11 : Bool) (x36_10 : Bool) (x36_9 : Bool) (k14 : Int32 → Bool → Bool → Int64 → Int64 → (Nat → VV)) (k36 : Int32 → Bool → Bool → Bool → Bool → (Nat → VV)) (s169_0 : Bool) (s149_0 : Bool) (s199_0 : Bool) : (Nat → VV) := (if x36_12 = true then f_M_sumBits_211 r0 p1 x14_8 x14_7 x14_6 x14_4 x14_2 x36_13 x36_12 x36_11 x36_10 x36_9 k14 k36 s199_0 s169_0 s149_0 else (if s199_0 = true then f_M_sumBits_211 r0 p1 x14_8 x14_7 x14_6 x14_4 x14_2 x36_13 x36_12 x36_11 x36_10 x36_9 k14 k36 s199_0 s169_0 s149_0 else f_M_sumBits_216 r0 p1 x14_8 x14_7 x14_6 x14_4 x14_2 x36_13 x36_12 x36_11 x36_10 x36_9 k14 k36 s199_0 s169_0 s149_0 false))
def f_M_sumBits_169 (r0 : (Nat → VV)) (p1 : Bool) (x14_8 : Int32) (x14_7 : Bool) (x14_6 : Bool) (x14_4 : Int64) (x14_2 : Int64) (x36_13 : Int32) (x36_12 : Bool) (x36_11 : Bool) (x36_10 : Bool) (x36_9 : Bool) (k14 : Int32 → Bool → Bool → Int64 → Int64 → (Nat → VV)) (k36 : Int32 → Bool → Bool → Bool → Bool → (Nat → VV)) (s149_0 : Bool) (s130_0 : Int32) (s169_0 : Bool) : (Nat → VV) := (if p1 = true then (if 0 ≤ s130_0 then f_M_sumBits_199 r0 p1 x14_8 x14_7 x14_6 x14_4 x14_2 x36_13 x36_12 x36_11 x36_10 x36_9 k14 k36 s169_0 s149_0 false else f_M_sumBits_199 r0 p1 x14_8 x14_7 x14_6 x14_4 x14_2 x36_13 x36_12 x36_11 x36_10 x36_9 k14 k36 s169_0 s149_0 true) else (if s130_0 ≤ 1 then f_M_sumBits_199 r0 p1 x14_8 x14_7 x14_6 x14_4 x14_2 x36_13 x36_12 x36_11 x36_10 x36_9 k14 k36 s169_0 s149_0 false else f_M_sumBits_199 r0 p1 x14_8 x14_7 x14_6 x14_4 x14_2 x36_13 x36_12 x36_11 x36_10 x36_9 k14 k36 s169_0 s149_0 true))
def f_M_sumBits_164 (r0 : (Nat → VV)) (p1 : Bool) (x14_8 : Int32) (x14_7 : Bool) (x14_6 : Bool) (x14_4 : Int64) (x14_2 : Int64) (x36_13 : Int32) (x36_12 : Bool) (x36_11 : Bool) (x36_10 : Bool) (x36_9 : Bool) (k14 : Int32 → Bool → Bool → Int64 → Int64 → (Nat → VV)) (k36 : Int32 → Bool → Bool → Bool → Bool → (Nat → VV)) (s149_0 : Bool) (s130_0 : Int32) : (Nat → VV) := f_M_sumBits_169 r0 p1 x14_8 x14_7 x14_6 x14_4 x14_2 x36_13 x36_12 x36_11 x36_10 x36_9 k14 k36 s149_0 s130_0 true
def f_M_sumBits_149 (r0 : (Nat → VV)) (p1 : Bool) (x14_8 : Int32) (x14_7 : Bool) (x14_6 : Bool) (x14_4 : Int64) (x14_2 : Int64) (x36_13 : Int32) (x36_12 : Bool) (x36_11 : Bool) (x36_10 : Bool) (x36_9 : Bool) (k14 : Int32 → Bool → Bool → Int64 → Int64 → (Nat → VV)) (k36 : Int32 → Bool → Bool → Bool → Bool → (Nat → VV)) (s130_0 : Int32) (s149_0 : Bool) : (Nat → VV) := (if x36_10 = true then f_M_sumBits_164 r0 p1 x14_8 x14_7 x14_6 x14_4 x14_2 x36_13 x36_12 x36_11 x36_10 x36_9 k14 k36 s149_0 s130_0 else (if (s130_0 &&& (1 : Int32)) = 1 then f_M_sumBits_164 r0 p1 x14_8 x14_7 x14_6 x14_4 x14_2 x36_13 x36_12 x36_11 x36_10 x36_9 k14 k36 s149_0 s130_0 else f_M_sumBits_169 r0 p1 x14_8 x14_7 x14_6 x14_4 x14_2 x36_13 x36_12 x36_11 x36_10 x36_9 k14 k36 s149_0 s130_0 false))
def f_M_sumBits_144 (r0 : (Nat → VV)) (p1 : Bool) (x14_8 : Int32) (x14_7 : Bool) (x14_6 : Bool) (x14_4 : Int64) (x14_2 : Int64) (x36_13 : Int32) (x36_12 : Bool) (x36_11 : Bool) (x36_10 : Bool) (x36_9 : Bool) (k14 : Int32 → Bool → Bool → Int64 → Int64 → (Nat → VV)) (k36 : Int32 → Bool → Bool → Bool → Bool → (Nat → VV)) (s130_0 : Int32) : (Nat → VV) := f_M_sumBits_149 r0 p1 x14_8 x14_7 x14_6 x14_4 x14_2 x36_13 x36_12 x36_11 x36_10 x36_9 k14 k36 s130_0 true
def f_M_sumBits_130 (r0 : (Nat → VV)) (p1 : Bool) (x14_8 : Int32) (x14_7 : Bool) (x14_6 : Bool) (x14_4 : Int64) (x14_2 : Int64) (x36_13 : Int32) (x36_12 : Bool) (x36_11 : Bool) (x36_10 : Bool) (x36_9 : Bool) (k14 : Int32 → Bool → Bool → Int64 → Int64 → (Nat → VV)) (k36 : Int32 → Bool → Bool → Bool → Bool → (Nat → VV)) (s130_0 : Int32) : (Nat → VV) := (if x36_9 = true then f_M_sumBits_144 r0 p1 x14_8 x14_7 x14_6 x14_4 x14_2 x36_13 x36_12 x36_11 x36_10 x36_9 k14 k36 s130_0 else (if (s130_0 &&& (1 : Int32)) = 0 then f_M_sumBits_144 r0 p1 x14_8 x14_7 x14_6 x14_4 x14_2 x36_13 x36_12 x36_11 x36_10 x36_9 k14 k36 s130_0 else f_M_sumBits_149 r0 p1 x14_8 x14_7 x14_6 x14_4 x14_2 x36_13 x36_12 x36_11 x36_10 x36_9 k14 k36 s130_0 false))
def f_M_sumBits_107 (r0 : (Nat → VV)) (p1 : Bool) (x14_8 : Int32) (x14_7 : Bool) (x14_6 : Bool) (x14_4 : Int64) (x14_2 : Int64) (x36_13 : Int32) (x36_12 : Bool) (x36_11 : Bool) (x36_10 : Bool) (x36_9 : Bool) (k14 : Int32 → Bool → Bool → Int64 → Int64 → (Nat → VV)) (k36 : Int32 → Bool → Bool → Bool → Bool → (Nat → VV)) (v61 : Int32) (v55 : Int32) (v47 : Int32) : (Nat → VV) := (if p1 = true then f_M_sumBits_130 r0 p1 x14_8 x14_7 x14_6 x14_4 x14_2 x36_13 x36_12 x36_11 x36_10 x36_9 k14 k36 ((v47 - v55) - v61) else f_M_sumBits_130 r0 p1 x14_8 x14_7 x14_6 x14_4 x14_2 x36_13 x36_12 x36_11 x36_10 x36_9 k14 k36 ((v47 + v55) + v61))
def f_M_sumBits_61v (r0 : (Nat → VV)) (p1 : Bool) (x14_8 : Int32) (x14_7 : Bool) (x14_6 : Bool) (x14_4 : Int64) (x14_2 : Int64) (x36_13 : Int32) (x36_12 : Bool) (x36_11 : Bool) (x36_10 : Bool) (x36_9 : Bool) (k14 : Int32 → Bool → Bool → Int64 → Int64 → (Nat → VV)) (k36 : Int32 → Bool → Bool → Bool → Bool → (Nat → VV)) (v61 : Int32) (v55 : Int32) (v47 : Int32) : (Nat → VV) := (if (f_M_mayBe r0 16 x14_8 v47) = true then (if (f_M_mayBe r0 17 x14_8 v55) = true then (if v61 = 0 then (if x14_6 = true then f_M_sumBits_107 r0 p1 x14_8 x14_7 x14_6 x14_4 x14_2 x36_13 x36_12 x36_11 x36_10 x36_9 k14 k36 v61 v55 v47 else f_M_sumBits_235 r0 p1 x14_8 x14_7 x14_6 x14_4 x14_2 x36_13 x36_12 x36_11 x36_10 x36_9 k14 k36 x36_12 x36_11 x36_10 x36_9) else (if x14_7 = true then f_M_sumBits_107 r0 p1 x14_8 x14_7 x14_6 x14_4 x14_2 x36_13 x36_12 x36_11 x36_10 x36_9 k14 k36 v61 v55 v47 else f_M_sumBits_235 r0 p1 x14_8 x14_7 x14_6 x14_4 x14_2 x36_13 x36_12 x36_11 x36_10 x36_9 k14 k36 x36_12 x36_11 x36_10 x36_9)) else f_M_sumBits_235 r0 p1 x14_8 x14_7 x14_6 x14_4 x14_2 x36_13 x36_12 x36_11 x36_10 x36_9 k14 k36 x36_12 x36_11 x36_10 x36_9) else f_M_sumBits_235 r0 p1 x14_8 x14_7 x14_6 x14_4 x14_2 x36_13 x36_12 x36_11 x36_10 x36_9 k14 k36 x36_12 x36_11 x36_10 x36_9)
def f_M_sumBits_55v (r0 : (Nat → VV)) (p1 : Bool) (x14_8 : Int32) (x14_7 : Bool) (x14_6 : Bool) (x14_4 : Int64) (x14_2 : Int64) (x36_13 : Int32) (x36_12 : Bool) (x36_11 : Bool) (x36_10 : Bool) (x36_9 : Bool) (k14 : Int32 → Bool → Bool → Int64 → Int64 → (Nat → VV)) (k36 : Int32 → Bool → Bool → Bool → Bool → (Nat → VV)) (v55 : Int32) (v47 : Int32) : (Nat → VV) := f_M_sumBits_61v r0 p1 x14_8 x14_7 x14_6 x14_4 x14_2 x36_13 x36_12 x36_11 x36_10 x36_9 k14 k36 (x36_13 >>> ((2 : Int32) &&& 31)) v55 v47
def f_M_sumBits_47v (r0 : (Nat → VV)) (p1 : Bool) (x14_8 : Int32) (x14_7 : Bool) (x14_6 : Bool) (x14_4 : Int64) (x14_2 : Int64) (x36_13 : Int32) (x36_12 : Bool) (x36_11 : Bool) (x36_10 : Bool) (x36_9 : Bool) (k14 : Int32 → Bool → Bool → Int64 → Int64 → (Nat → VV)) (k36 : Int32 → Bool → Bool → Bool → Bool → (Nat → VV)) (v47 : Int32) : (Nat → VV) := f_M_sumBits_55v r0 p1 x14_8 x14_7 x14_6 x14_4 x14_2 x36_13 x36_12 x36_11 x36_10 x36_9 k14 k36 ((x36_13 >>> ((1 : Int32) &&& 31)) &&& (1 : Int32)) v47
def f_M_sumBits_36 (r0 : (Nat → VV)) (p1 : Bool) (x14_8 : Int32) (x14_7 : Bool) (x14_6 : Bool) (x14_4 : Int64) (x14_2 : Int64) (k14 : Int32 → Bool → Bool → Int64 → Int64 → (Nat → VV)) : Nat → Int32 → Bool → Bool → Bool → Bool → (Nat → VV)
  | 0, _, _, _, _, _ => default
  | n36 + 1, x36_13, x36_12, x36_11, x36_10, x36_9 => (if 8 ≤ x36_13 then (if x36_9 = true then (if x36_10 = true then f_M_sumBits_263 r0 p1 x14_8 x14_7 x14_6 x14_4 x14_2 k14 x36_12 x36_11 x36_10 x36_9 (x14_4 ||| ((1 : Int64) <<< (x14_8.toInt64 &&& 63))) else f_M_sumBits_261 r0 p1 x14_8 x14_7 x14_6 x14_4 x14_2 k14 x36_12 x36_11 x36_10 x36_9) else f_M_sumBits_261 r0 p1 x14_8 x14_7 x14_6 x14_4 x14_2 k14 x36_12 x36_11 x36_10 x36_9) else f_M_sumBits_47v r0 p1 x14_8 x14_7 x14_6 x14_4 x14_2 x36_13 x36_12 x36_11 x36_10 x36_9 k14 (fun y0 y1 y2 y3 y4 => f_M_sumBits_36 r0 p1 x14_8 x14_7 x14_6 x14_4 x14_2 k14 n36 y0 y1 y2 y3 y4) (x36_13 &&& (1 : Int32)))
def f_M_sumBits_14 (r0 : (Nat → VV)) (p1 : Bool) : Nat → Int32 → Bool → Bool → Int64 → Int64 → (Nat → VV)
  | 0, _, _, _, _, _ => default
  | n14 + 1, x14_8, x14_7, x14_6, x14_4, x14_2 => (if 64 ≤ x14_8 then f_M_sumBits_307u r0 p1 x14_4 (u1 r0 18 x14_2) else f_M_sumBits_36 r0 p1 x14_8 x14_7 x14_6 x14_4 x14_2 (fun y0 y1 y2 y3 y4 => f_M_sumBits_14 r0 p1 n14 y0 y1 y2 y3 y4) 9 0 false false false false)
def f_M_sumBits (r0 : (Nat → VV)) (p1 : Bool) : (Nat → VV) := f_M_sumBits_14 r0 p1 65 0 false true 0 0
set_option maxRecDepth 100000 in
set_option maxHeartbeats 4000000 in
theorem c_M_sumBits (l : Launch) (dC : Nat → ClassId) (dI : Nat → Nat → Nat) (ad : Nat → Nat) (cJ cZ : ClassId) (sz : Nat) (c0 : Int32) (r0 : (Nat → VV)) (w0 : (Nat → Int64)) (s0 : Int32) (p1 : Bool) : Met l y_M_sumBits w_M_sumBits ({ frames := 1, cells := 0, slots := 0, locals := 23 } : Room) (va_Pc [.ref (ad 0), .int (bI p1)] (nP (dC, dI) (mT cJ cZ) (mW ad cJ cZ c0 r0 w0 s0) sz)) (va_Qv (fun _ : Unit => True) (mB (dC, dI) (va_A (mW ad cJ cZ c0 r0 w0 s0) sz) (mW ad cJ cZ c0 (f_M_sumBits r0 p1) w0 s0)) (va_A (mW ad cJ cZ c0 r0 w0 s0) sz)) 0 0 (va_A (mW ad cJ cZ c0 r0 w0 s0) sz) := by
  refine Met.ofW (cc := b_M_sumBits) (maxL := 19) (ret := none) (by decide) rfl ?_
  intro p e s m args below meth c s₁ B hml hv
  obtain ⟨rfl, hsz, hP, hK, hD0⟩ := hv
  have hx := B.exec
  have hb := B.bytes
  have hr := B.returns
  have hts := atoms_spec (ws := w_M_sumBits) B.pre
  have hG : ∀ w ∈ gM, w.before _ s = true := fun w h => hts w (List.mem_cons_of_mem _ h)
  have hown : s.vm.findClass R_M = some m.cls := findClass_of_methodNamed B.named
  have hlocks := B.notSynchronized
  subst hsz
  have hD := hD0.self (sz := s.heap.size)
  generalize hAe : va_A (mW ad cJ cZ c0 r0 w0 s0) s.heap.size = A at hD ⊢
  have hA : ∀ q : Nat, s.heap.size ≤ q → A q := fun q h => by rw [← hAe]; exact Or.inr h
  have hS : va_S A s.heap s.heap [] := va_S.rf
  have hl := lv_entry ([.ref (ad 0), .int (bI p1)]) (n := 19) (Nat.le_of_ble_eq_true rfl)
  rw [lg_entry_eq]
  generalize (lg_sl ([.ref (ad 0), .int (bI p1)]) ++ List.replicate (19 - (lg_sl ([.ref (ad 0), .int (bI p1)])).length) Slot.unset).toArray = ls at hl ⊢
  have hl : lv_has ls 19 [(0, .ref (ad 0)), (1, .int (bI p1))] := hl
  have K316u : ∀ (r316n : (Nat → VV)) (hj : f_M_sumBits r0 p1 = f_M_sumBits_316u r0 p1 r316n) (H : Heap) (locs : List Loc) (hP : va_P (dC, dI) classes (mW ad cJ cZ c0 r316n w0 s0) H) (hD : va_D A (mW ad cJ cZ c0 r316n w0 s0)) (hS : va_S A s.heap H locs) (ls : Array Slot) (hl : lv_has ls 19 []), W p l e (headSpec w_M_sumBits ({ frames := 1, cells := 0, slots := 0, locals := 23 } : Room)).room s m ([.ref (ad 0), .int (bI p1)] : List Value).toArray below meth c H locs 0 0 (MQ below (va_Qv (fun _ : Unit => True) (mB (dC, dI) A (mW ad cJ cZ c0 (f_M_sumBits r0 p1) w0 s0)) A) ([.ref (ad 0), .int (bI p1)] : List Value).toArray s 0 0 A) (F0 m 317 ls []) := by
    intro r316n hj H locs hP hD hS ls hl
    have fe : f_M_sumBits r0 p1 = r316n := hj.trans rfl
    exact W.vret hx hb hr (fun t ht hW => ⟨⟨(), rfl, trivial, by rw [ht, fe]; exact hP, by rw [fe]; exact hD⟩, hS.F ht⟩) hS.2.2 d_M_sumBits_317
  have K307u : ∀ (x14_4 : Int64) (r307n : (Nat → VV)) (hj : f_M_sumBits r0 p1 = f_M_sumBits_307u r0 p1 x14_4 r307n) (H : Heap) (locs : List Loc) (hP : va_P (dC, dI) classes (mW ad cJ cZ c0 r307n w0 s0) H) (hD : va_D A (mW ad cJ cZ c0 r307n w0 s0)) (hS : va_S A s.heap H locs) (ls : Array Slot) (hl : lv_has ls 19 [(4, .long (x14_4)), (0, .ref (ad 0))]), W p l e (headSpec w_M_sumBits ({ frames := 1, cells := 0, slots := 0, locals := 23 } : Room)).room s m ([.ref (ad 0), .int (bI p1)] : List Value).toArray below meth c H locs 0 0 (MQ below (va_Qv (fun _ : Unit => True) (mB (dC, dI) A (mW ad cJ cZ c0 (f_M_sumBits r0 p1) w0 s0)) A) ([.ref (ad 0), .int (bI p1)] : List Value).toArray s 0 0 A) (F0 m 308 ls []) := by
    intro x14_4 r307n hj H locs hP hD hS ls hl
    refine lv_aload_n hx hb d_M_sumBits_308 rfl (lv_at hl 1 rfl) ?_
    refine va_get (D := (dC, dI)) (ci := 2) (v := .ref (ad 2)) (C := R_M) (T := F_M) (N := 10) hx hb hts (fun w h => List.mem_cons_of_mem _ (uw_M w h)) hown hK hP 0 rfl rfl 2 (by decide) (hG (.fieldLink R_M 13 "ValueSieveModel" "open" "[J") gx11) (fun _ h9 => h9) rfl d_M_sumBits_309 ?_
    refine lv_bipush (v := 18) hx hb d_M_sumBits_312 (by decide) ?_
    refine lv_lload hx hb d_M_sumBits_314 (lv_at hl 0 rfl) ?_
    refine ms_2 (P := 18) (x := x14_4) hx hb hK hP hD hS rfl (by decide) d_M_sumBits_316 (fun H locs hP hD hS => ?_)
    obtain ⟨r316n, er316n⟩ : ∃ z, z = u2 r307n 18 x14_4 := ⟨_, rfl⟩
    rw [← er316n] at hP hD
    refine K316u r316n (Eq.trans (hj.trans rfl) (congrArg (fun r316n => f_M_sumBits_316u r0 p1 r316n) er316n.symm)) H locs ?_ ?_ hS ls (lv_sub hl [] rfl)
    · with_reducible exact hP
    · with_reducible exact hD
  have K14 : ∀ (n14 : Nat) (x14_8 : Int32) (x14_7 : Bool) (x14_6 : Bool) (x14_4 : Int64) (x14_2 : Int64) (hm14 : (64 - x14_8.toInt).toNat < n14) (hj : f_M_sumBits r0 p1 = f_M_sumBits_14 r0 p1 n14 x14_8 x14_7 x14_6 x14_4 x14_2) (H : Heap) (locs : List Loc) (hP : va_P (dC, dI) classes (mW ad cJ cZ c0 r0 w0 s0) H) (hD : va_D A (mW ad cJ cZ c0 r0 w0 s0)) (hS : va_S A s.heap H locs) (ls : Array Slot) (hl : lv_has ls 19 [(8, .int (x14_8)), (7, .int (bI x14_7)), (6, .int (bI x14_6)), (4, .long (x14_4)), (2, .long (x14_2)), (0, .ref (ad 0)), (1, .int (bI p1))]), W p l e (headSpec w_M_sumBits ({ frames := 1, cells := 0, slots := 0, locals := 23 } : Room)).room s m ([.ref (ad 0), .int (bI p1)] : List Value).toArray below meth c H locs 0 0 (MQ below (va_Qv (fun _ : Unit => True) (mB (dC, dI) A (mW ad cJ cZ c0 (f_M_sumBits r0 p1) w0 s0)) A) ([.ref (ad 0), .int (bI p1)] : List Value).toArray s 0 0 A) (F0 m 14 ls []) := by
    intro n14
    induction n14 with
    | zero => intro x14_8 x14_7 x14_6 x14_4 x14_2 hm14 hj H locs hP hD hS ls hl; exact absurd hm14 (Nat.not_lt_zero _)
    | succ n14 ih14 =>
      intro x14_8 x14_7 x14_6 x14_4 x14_2 hm14 hj H locs hP hD hS ls hl
      have K285 : ∀ (s263_0 : Int64) (x36_12 : Bool) (x36_11 : Bool) (s285_0 : Int64) (hj : f_M_sumBits r0 p1 = f_M_sumBits_285 r0 p1 x14_8 x14_7 x14_6 x14_4 x14_2 (fun y0 y1 y2 y3 y4 => f_M_sumBits_14 r0 p1 n14 y0 y1 y2 y3 y4) s263_0 x36_12 x36_11 s285_0) (hf0 : ¬ 64 ≤ x14_8) (H : Heap) (locs : List Loc) (hP : va_P (dC, dI) classes (mW ad cJ cZ c0 r0 w0 s0) H) (hD : va_D A (mW ad cJ cZ c0 r0 w0 s0)) (hS : va_S A s.heap H locs) (ls : Array Slot) (hl : lv_has ls 19 [(4, .long (s263_0)), (12, .int (bI x36_12)), (11, .int (bI x36_11)), (8, .int (x14_8)), (0, .ref (ad 0)), (1, .int (bI p1))]), W p l e (headSpec w_M_sumBits ({ frames := 1, cells := 0, slots := 0, locals := 23 } : Room)).room s m ([.ref (ad 0), .int (bI p1)] : List Value).toArray below meth c H locs 0 0 (MQ below (va_Qv (fun _ : Unit => True) (mB (dC, dI) A (mW ad cJ cZ c0 (f_M_sumBits r0 p1) w0 s0)) A) ([.ref (ad 0), .int (bI p1)] : List Value).toArray s 0 0 A) (F0 m 285 ls [.long (s285_0)]) := by
        intro s263_0 x36_12 x36_11 s285_0 hj hf0 H locs hP hD hS ls hl
        refine lv_lstore_n (lv' := [(2, .long (s285_0)), (4, .long (s263_0)), (12, .int (bI x36_12)), (11, .int (bI x36_11)), (8, .int (x14_8)), (0, .ref (ad 0)), (1, .int (bI p1))]) hx hb d_M_sumBits_285 rfl hl (by decide) rfl (fun ls hl => ?_)
        refine lv_iload hx hb d_M_sumBits_286 (lv_at hl 3 rfl) ?_
        refine lv_istore (lv' := [(6, .int (bI x36_11)), (2, .long (s285_0)), (4, .long (s263_0)), (12, .int (bI x36_12)), (11, .int (bI x36_11)), (8, .int (x14_8)), (0, .ref (ad 0)), (1, .int (bI p1))]) hx hb d_M_sumBits_288 hl (by decide) rfl (fun ls hl => ?_)
        refine lv_iload hx hb d_M_sumBits_290 (lv_at hl 3 rfl) ?_
        refine lv_istore (lv' := [(7, .int (bI x36_12)), (6, .int (bI x36_11)), (2, .long (s285_0)), (4, .long (s263_0)), (12, .int (bI x36_12)), (11, .int (bI x36_11)), (8, .int (x14_8)), (0, .ref (ad 0)), (1, .int (bI p1))]) hx hb d_M_sumBits_292 hl (by decide) rfl (fun ls hl => ?_)
        refine lv_iinc (v := x14_8 + 1) (lv' := [(8, .int (x14_8 + 1)), (7, .int (bI x36_12)), (6, .int (bI x36_11)), (2, .long (s285_0)), (4, .long (s263_0)), (12, .int (bI x36_12)), (11, .int (bI x36_11)), (0, .ref (ad 0)), (1, .int (bI p1))]) hx hb d_M_sumBits_294 hl (k := 6) rfl rfl (by decide) rfl (fun ls hl => ?_)
        refine lv_goto (tgt := 14) hx hb d_M_sumBits_297 (by decide) ?_
        refine ih14 (x14_8 + 1) x36_12 x36_11 s263_0 s285_0 (up_step hf0 hm14) (hj.trans rfl) H locs ?_ ?_ hS ls (lv_sub hl [0, 1, 2, 4, 3, 7, 8] rfl)
        · with_reducible exact hP
        · with_reducible exact hD
      have K284 : ∀ (s263_0 : Int64) (x36_12 : Bool) (x36_11 : Bool) (hj : f_M_sumBits r0 p1 = f_M_sumBits_284 r0 p1 x14_8 x14_7 x14_6 x14_4 x14_2 (fun y0 y1 y2 y3 y4 => f_M_sumBits_14 r0 p1 n14 y0 y1 y2 y3 y4) s263_0 x36_12 x36_11) (hf0 : ¬ 64 ≤ x14_8) (H : Heap) (locs : List Loc) (hP : va_P (dC, dI) classes (mW ad cJ cZ c0 r0 w0 s0) H) (hD : va_D A (mW ad cJ cZ c0 r0 w0 s0)) (hS : va_S A s.heap H locs) (ls : Array Slot) (hl : lv_has ls 19 [(4, .long (s263_0)), (12, .int (bI x36_12)), (11, .int (bI x36_11)), (8, .int (x14_8)), (2, .long (x14_2)), (0, .ref (ad 0)), (1, .int (bI p1))]), W p l e (headSpec w_M_sumBits ({ frames := 1, cells := 0, slots := 0, locals := 23 } : Room)).room s m ([.ref (ad 0), .int (bI p1)] : List Value).toArray below meth c H locs 0 0 (MQ below (va_Qv (fun _ : Unit => True) (mB (dC, dI) A (mW ad cJ cZ c0 (f_M_sumBits r0 p1) w0 s0)) A) ([.ref (ad 0), .int (bI p1)] : List Value).toArray s 0 0 A) (F0 m 284 ls []) := by
        intro s263_0 x36_12 x36_11 hj hf0 H locs hP hD hS ls hl
        refine lv_lload_n hx hb d_M_sumBits_284 rfl (lv_at hl 4 rfl) ?_
        refine K285 s263_0 x36_12 x36_11 x14_2 (hj.trans rfl) hf0 H locs ?_ ?_ hS ls (lv_sub hl [0, 1, 2, 3, 5, 6] rfl)
        · with_reducible exact hP
        · with_reducible exact hD
      have K263 : ∀ (x36_12 : Bool) (x36_11 : Bool) (x36_10 : Bool) (x36_9 : Bool) (s263_0 : Int64) (hj : f_M_sumBits r0 p1 = f_M_sumBits_263 r0 p1 x14_8 x14_7 x14_6 x14_4 x14_2 (fun y0 y1 y2 y3 y4 => f_M_sumBits_14 r0 p1 n14 y0 y1 y2 y3 y4) x36_12 x36_11 x36_10 x36_9 s263_0) (hf0 : ¬ 64 ≤ x14_8) (H : Heap) (locs : List Loc) (hP : va_P (dC, dI) classes (mW ad cJ cZ c0 r0 w0 s0) H) (hD : va_D A (mW ad cJ cZ c0 r0 w0 s0)) (hS : va_S A s.heap H locs) (ls : Array Slot) (hl : lv_has ls 19 [(12, .int (bI x36_12)), (11, .int (bI x36_11)), (10, .int (bI x36_10)), (9, .int (bI x36_9)), (8, .int (x14_8)), (2, .long (x14_2)), (0, .ref (ad 0)), (1, .int (bI p1))]), W p l e (headSpec w_M_sumBits ({ frames := 1, cells := 0, slots := 0, locals := 23 } : Room)).room s m ([.ref (ad 0), .int (bI p1)] : List Value).toArray below meth c H locs 0 0 (MQ below (va_Qv (fun _ : Unit => True) (mB (dC, dI) A (mW ad cJ cZ c0 (f_M_sumBits r0 p1) w0 s0)) A) ([.ref (ad 0), .int (bI p1)] : List Value).toArray s 0 0 A) (F0 m 263 ls [.long (s263_0)]) := by
        intro x36_12 x36_11 x36_10 x36_9 s263_0 hj hf0 H locs hP hD hS ls hl
        refine lv_lstore (lv' := [(4, .long (s263_0)), (12, .int (bI x36_12)), (11, .int (bI x36_11)), (10, .int (bI x36_10)), (9, .int (bI x36_9)), (8, .int (x14_8)), (2, .long (x14_2)), (0, .ref (ad 0)), (1, .int (bI p1))]) hx hb d_M_sumBits_263 hl (by decide) rfl (fun ls hl => ?_)
        refine lv_iload hx hb d_M_sumBits_265 (lv_at hl 3 rfl) ?_
        refine wz_eq (tgt := 284) hx hb d_M_sumBits_267 (by decide) (fun e1_284 => ?_) (fun e1_284 => ?_)
        · refine K284 s263_0 x36_12 x36_11 (hj.trans (by unfold f_M_sumBits_263; first | with_reducible exact if_neg e1_284 | exact if_neg e1_284)) hf0 H locs ?_ ?_ hS ls (lv_sub hl [0, 1, 2, 5, 6, 7, 8] rfl)
          · with_reducible exact hP
          · with_reducible exact hD
        · refine lv_iload hx hb d_M_sumBits_270 (lv_at hl 4 rfl) ?_
          refine wz_ne (tgt := 284) hx hb d_M_sumBits_272 (by decide) (fun e2_284 => ?_) (fun e2_284 => ?_)
          · refine K284 s263_0 x36_12 x36_11 (hj.trans (by unfold f_M_sumBits_263; first | with_reducible exact (if_pos e1_284).trans (if_pos e2_284) | exact (if_pos e1_284).trans (if_pos e2_284))) hf0 H locs ?_ ?_ hS ls (lv_sub hl [0, 1, 2, 5, 6, 7, 8] rfl)
            · with_reducible exact hP
            · with_reducible exact hD
          · refine lv_lload_n hx hb d_M_sumBits_275 rfl (lv_at hl 6 rfl) ?_
            refine lv_lconst (v := 1) hx hb d_M_sumBits_276 (by decide) ?_
            refine lv_iload hx hb d_M_sumBits_277 (lv_at hl 5 rfl) ?_
            refine lv_lshl (v := (1 : Int64) <<< (x14_8.toInt64 &&& 63)) hx hb d_M_sumBits_279 rfl ?_
            refine lv_lor hx hb d_M_sumBits_280 ?_
            refine lv_goto (tgt := 285) hx hb d_M_sumBits_281 (by decide) ?_
            refine K285 s263_0 x36_12 x36_11 (x14_2 ||| ((1 : Int64) <<< (x14_8.toInt64 &&& 63))) (hj.trans (by unfold f_M_sumBits_263; first | with_reducible exact (if_pos e1_284).trans (if_neg e2_284) | exact (if_pos e1_284).trans (if_neg e2_284))) hf0 H locs ?_ ?_ hS ls (lv_sub hl [0, 1, 2, 5, 7, 8] rfl)
            · with_reducible exact hP
            · with_reducible exact hD
      have K261 : ∀ (x36_12 : Bool) (x36_11 : Bool) (x36_10 : Bool) (x36_9 : Bool) (hj : f_M_sumBits r0 p1 = f_M_sumBits_261 r0 p1 x14_8 x14_7 x14_6 x14_4 x14_2 (fun y0 y1 y2 y3 y4 => f_M_sumBits_14 r0 p1 n14 y0 y1 y2 y3 y4) x36_12 x36_11 x36_10 x36_9) (hf0 : ¬ 64 ≤ x14_8) (H : Heap) (locs : List Loc) (hP : va_P (dC, dI) classes (mW ad cJ cZ c0 r0 w0 s0) H) (hD : va_D A (mW ad cJ cZ c0 r0 w0 s0)) (hS : va_S A s.heap H locs) (ls : Array Slot) (hl : lv_has ls 19 [(12, .int (bI x36_12)), (11, .int (bI x36_11)), (10, .int (bI x36_10)), (9, .int (bI x36_9)), (8, .int (x14_8)), (4, .long (x14_4)), (2, .long (x14_2)), (0, .ref (ad 0)), (1, .int (bI p1))]), W p l e (headSpec w_M_sumBits ({ frames := 1, cells := 0, slots := 0, locals := 23 } : Room)).room s m ([.ref (ad 0), .int (bI p1)] : List Value).toArray below meth c H locs 0 0 (MQ below (va_Qv (fun _ : Unit => True) (mB (dC, dI) A (mW ad cJ cZ c0 (f_M_sumBits r0 p1) w0 s0)) A) ([.ref (ad 0), .int (bI p1)] : List Value).toArray s 0 0 A) (F0 m 261 ls []) := by
        intro x36_12 x36_11 x36_10 x36_9 hj hf0 H locs hP hD hS ls hl
        refine lv_lload hx hb d_M_sumBits_261 (lv_at hl 5 rfl) ?_
        refine K263 x36_12 x36_11 x36_10 x36_9 x14_4 (hj.trans rfl) hf0 H locs ?_ ?_ hS ls (lv_sub hl [0, 1, 2, 3, 4, 6, 7, 8] rfl)
        · with_reducible exact hP
        · with_reducible exact hD
      have K36 : ∀ (n36 : Nat) (x36_13 : Int32) (x36_12 : Bool) (x36_11 : Bool) (x36_10 : Bool) (x36_9 : Bool) (hm36 : (8 - x36_13.toInt).toNat < n36) (hj : f_M_sumBits r0 p1 = f_M_sumBits_36 r0 p1 x14_8 x14_7 x14_6 x14_4 x14_2 (fun y0 y1 y2 y3 y4 => f_M_sumBits_14 r0 p1 n14 y0 y1 y2 y3 y4) n36 x36_13 x36_12 x36_11 x36_10 x36_9) (hf0 : ¬ 64 ≤ x14_8) (H : Heap) (locs : List Loc) (hP : va_P (dC, dI) classes (mW ad cJ cZ c0 r0 w0 s0) H) (hD : va_D A (mW ad cJ cZ c0 r0 w0 s0)) (hS : va_S A s.heap H locs) (ls : Array Slot) (hl : lv_has ls 19 [(13, .int (x36_13)), (12, .int (bI x36_12)), (11, .int (bI x36_11)), (10, .int (bI x36_10)), (9, .int (bI x36_9)), (8, .int (x14_8)), (7, .int (bI x14_7)), (6, .int (bI x14_6)), (4, .long (x14_4)), (2, .long (x14_2)), (0, .ref (ad 0)), (1, .int (bI p1))]), W p l e (headSpec w_M_sumBits ({ frames := 1, cells := 0, slots := 0, locals := 23 } : Room)).room s m ([.ref (ad 0), .int (bI p1)] : List Value).toArray below meth c H locs 0 0 (MQ below (va_Qv (fun _ : Unit => True) (mB (dC, dI) A (mW ad cJ cZ c0 (f_M_sumBits r0 p1) w0 s0)) A) ([.ref (ad 0), .int (bI p1)] : List Value).toArray s 0 0 A) (F0 m 36 ls []) := by
        intro n36
        induction n36 with
        | zero => intro x36_13 x36_12 x36_11 x36_10 x36_9 hm36 hj hf0 H locs hP hD hS ls hl; exact absurd hm36 (Nat.not_lt_zero _)
        | succ n36 ih36 =>
          intro x36_13 x36_12 x36_11 x36_10 x36_9 hm36 hj hf0 H locs hP hD hS ls hl
          have K235 : ∀ (x235_12 : Bool) (x235_11 : Bool) (x235_10 : Bool) (x235_9 : Bool) (hj : f_M_sumBits r0 p1 = f_M_sumBits_235 r0 p1 x14_8 x14_7 x14_6 x14_4 x14_2 x36_13 x36_12 x36_11 x36_10 x36_9 (fun y0 y1 y2 y3 y4 => f_M_sumBits_14 r0 p1 n14 y0 y1 y2 y3 y4) (fun y0 y1 y2 y3 y4 => f_M_sumBits_36 r0 p1 x14_8 x14_7 x14_6 x14_4 x14_2 (fun y0 y1 y2 y3 y4 => f_M_sumBits_14 r0 p1 n14 y0 y1 y2 y3 y4) n36 y0 y1 y2 y3 y4) x235_12 x235_11 x235_10 x235_9) (hf0 : ¬ 64 ≤ x14_8) (hf1 : ¬ 8 ≤ x36_13) (H : Heap) (locs : List Loc) (hP : va_P (dC, dI) classes (mW ad cJ cZ c0 r0 w0 s0) H) (hD : va_D A (mW ad cJ cZ c0 r0 w0 s0)) (hS : va_S A s.heap H locs) (ls : Array Slot) (hl : lv_has ls 19 [(13, .int (x36_13)), (12, .int (bI x235_12)), (11, .int (bI x235_11)), (10, .int (bI x235_10)), (9, .int (bI x235_9)), (8, .int (x14_8)), (7, .int (bI x14_7)), (6, .int (bI x14_6)), (4, .long (x14_4)), (2, .long (x14_2)), (0, .ref (ad 0)), (1, .int (bI p1))]), W p l e (headSpec w_M_sumBits ({ frames := 1, cells := 0, slots := 0, locals := 23 } : Room)).room s m ([.ref (ad 0), .int (bI p1)] : List Value).toArray below meth c H locs 0 0 (MQ below (va_Qv (fun _ : Unit => True) (mB (dC, dI) A (mW ad cJ cZ c0 (f_M_sumBits r0 p1) w0 s0)) A) ([.ref (ad 0), .int (bI p1)] : List Value).toArray s 0 0 A) (F0 m 235 ls []) := by
            intro x235_12 x235_11 x235_10 x235_9 hj hf0 hf1 H locs hP hD hS ls hl
            refine lv_iinc (v := x36_13 + 1) (lv' := [(13, .int (x36_13 + 1)), (12, .int (bI x235_12)), (11, .int (bI x235_11)), (10, .int (bI x235_10)), (9, .int (bI x235_9)), (8, .int (x14_8)), (7, .int (bI x14_7)), (6, .int (bI x14_6)), (4, .long (x14_4)), (2, .long (x14_2)), (0, .ref (ad 0)), (1, .int (bI p1))]) hx hb d_M_sumBits_235 hl (k := 0) rfl rfl (by decide) rfl (fun ls hl => ?_)
            refine lv_goto (tgt := 36) hx hb d_M_sumBits_238 (by decide) ?_
            refine ih36 (x36_13 + 1) x235_12 x235_11 x235_10 x235_9 (up_step8 hf1 hm36) (hj.trans rfl) hf0 H locs ?_ ?_ hS ls (lv_sub hl [0, 1, 2, 3, 4, 5, 6, 7, 8, 9, 10, 11] rfl)
            · with_reducible exact hP
            · with_reducible exact hD
          have K233 : ∀ (s216_0 : Bool) (s169_0 : Bool) (s149_0 : Bool) (s233_0 : Bool) (hj : f_M_sumBits r0 p1 = f_M_sumBits_233 r0 p1 x14_8 x14_7 x14_6 x14_4 x14_2 x36_13 x36_12 x36_11 x36_10 x36_9 (fun y0 y1 y2 y3 y4 => f_M_sumBits_14 r0 p1 n14 y0 y1 y2 y3 y4) (fun y0 y1 y2 y3 y4 => f_M_sumBits_36 r0 p1 x14_8 x14_7 x14_6 x14_4 x14_2 (fun y0 y1 y2 y3 y4 => f_M_sumBits_14 r0 p1 n14 y0 y1 y2 y3 y4) n36 y0 y1 y2 y3 y4) s216_0 s169_0 s149_0 s233_0) (hf0 : ¬ 64 ≤ x14_8) (hf1 : ¬ 8 ≤ x36_13) (H : Heap) (locs : List Loc) (hP : va_P (dC, dI) classes (mW ad cJ cZ c0 r0 w0 s0) H) (hD : va_D A (mW ad cJ cZ c0 r0 w0 s0)) (hS : va_S A s.heap H locs) (ls : Array Slot) (hl : lv_has ls 19 [(12, .int (bI s216_0)), (10, .int (bI s169_0)), (9, .int (bI s149_0)), (13, .int (x36_13)), (8, .int (x14_8)), (7, .int (bI x14_7)), (6, .int (bI x14_6)), (4, .long (x14_4)), (2, .long (x14_2)), (0, .ref (ad 0)), (1, .int (bI p1))]), W p l e (headSpec w_M_sumBits ({ frames := 1, cells := 0, slots := 0, locals := 23 } : Room)).room s m ([.ref (ad 0), .int (bI p1)] : List Value).toArray below meth c H locs 0 0 (MQ below (va_Qv (fun _ : Unit => True) (mB (dC, dI) A (mW ad cJ cZ c0 (f_M_sumBits r0 p1) w0 s0)) A) ([.ref (ad 0), .int (bI p1)] : List Value).toArray s 0 0 A) (F0 m 233 ls [.int (bI s233_0)]) := by
            intro s216_0 s169_0 s149_0 s233_0 hj hf0 hf1 H locs hP hD hS ls hl
            refine lv_istore (lv' := [(11, .int (bI s233_0)), (12, .int (bI s216_0)), (10, .int (bI s169_0)), (9, .int (bI s149_0)), (13, .int (x36_13)), (8, .int (x14_8)), (7, .int (bI x14_7)), (6, .int (bI x14_6)), (4, .long (x14_4)), (2, .long (x14_2)), (0, .ref (ad 0)), (1, .int (bI p1))]) hx hb d_M_sumBits_233 hl (by decide) rfl (fun ls hl => ?_)
            refine K235 s216_0 s233_0 s169_0 s149_0 (hj.trans rfl) hf0 hf1 H locs ?_ ?_ hS ls (lv_sub hl [4, 1, 0, 2, 3, 5, 6, 7, 8, 9, 10, 11] rfl)
            · with_reducible exact hP
            · with_reducible exact hD
          have K228 : ∀ (s216_0 : Bool) (s169_0 : Bool) (s149_0 : Bool) (hj : f_M_sumBits r0 p1 = f_M_sumBits_228 r0 p1 x14_8 x14_7 x14_6 x14_4 x14_2 x36_13 x36_12 x36_11 x36_10 x36_9 (fun y0 y1 y2 y3 y4 => f_M_sumBits_14 r0 p1 n14 y0 y1 y2 y3 y4) (fun y0 y1 y2 y3 y4 => f_M_sumBits_36 r0 p1 x14_8 x14_7 x14_6 x14_4 x14_2 (fun y0 y1 y2 y3 y4 => f_M_sumBits_14 r0 p1 n14 y0 y1 y2 y3 y4) n36 y0 y1 y2 y3 y4) s216_0 s169_0 s149_0) (hf0 : ¬ 64 ≤ x14_8) (hf1 : ¬ 8 ≤ x36_13) (H : Heap) (locs : List Loc) (hP : va_P (dC, dI) classes (mW ad cJ cZ c0 r0 w0 s0) H) (hD : va_D A (mW ad cJ cZ c0 r0 w0 s0)) (hS : va_S A s.heap H locs) (ls : Array Slot) (hl : lv_has ls 19 [(12, .int (bI s216_0)), (10, .int (bI s169_0)), (9, .int (bI s149_0)), (13, .int (x36_13)), (8, .int (x14_8)), (7, .int (bI x14_7)), (6, .int (bI x14_6)), (4, .long (x14_4)), (2, .long (x14_2)), (0, .ref (ad 0)), (1, .int (bI p1))]), W p l e (headSpec w_M_sumBits ({ frames := 1, cells := 0, slots := 0, locals := 23 } : Room)).room s m ([.ref (ad 0), .int (bI p1)] : List Value).toArray below meth c H locs 0 0 (MQ below (va_Qv (fun _ : Unit => True) (mB (dC, dI) A (mW ad cJ cZ c0 (f_M_sumBits r0 p1) w0 s0)) A) ([.ref (ad 0), .int (bI p1)] : List Value).toArray s 0 0 A) (F0 m 228 ls []) := by
            intro s216_0 s169_0 s149_0 hj hf0 hf1 H locs hP hD hS ls hl
            refine lv_iconst (v := 1) hx hb d_M_sumBits_228 (by decide) ?_
            refine lv_goto (tgt := 233) hx hb d_M_sumBits_229 (by decide) ?_
            refine K233 s216_0 s169_0 s149_0 true (hj.trans rfl) hf0 hf1 H locs ?_ ?_ hS ls (lv_sub hl [0, 1, 2, 3, 4, 5, 6, 7, 8, 9, 10] rfl)
            · with_reducible exact hP
            · with_reducible exact hD
          have K216 : ∀ (s199_0 : Bool) (s169_0 : Bool) (s149_0 : Bool) (s216_0 : Bool) (hj : f_M_sumBits r0 p1 = f_M_sumBits_216 r0 p1 x14_8 x14_7 x14_6 x14_4 x14_2 x36_13 x36_12 x36_11 x36_10 x36_9 (fun y0 y1 y2 y3 y4 => f_M_sumBits_14 r0 p1 n14 y0 y1 y2 y3 y4) (fun y0 y1 y2 y3 y4 => f_M_sumBits_36 r0 p1 x14_8 x14_7 x14_6 x14_4 x14_2 (fun y0 y1 y2 y3 y4 => f_M_sumBits_14 r0 p1 n14 y0 y1 y2 y3 y4) n36 y0 y1 y2 y3 y4) s199_0 s169_0 s149_0 s216_0) (hf0 : ¬ 64 ≤ x14_8) (hf1 : ¬ 8 ≤ x36_13) (H : Heap) (locs : List Loc) (hP : va_P (dC, dI) classes (mW ad cJ cZ c0 r0 w0 s0) H) (hD : va_D A (mW ad cJ cZ c0 r0 w0 s0)) (hS : va_S A s.heap H locs) (ls : Array Slot) (hl : lv_has ls 19 [(18, .int (bI s199_0)), (10, .int (bI s169_0)), (9, .int (bI s149_0)), (13, .int (x36_13)), (11, .int (bI x36_11)), (8, .int (x14_8)), (7, .int (bI x14_7)), (6, .int (bI x14_6)), (4, .long (x14_4)), (2, .long (x14_2)), (0, .ref (ad 0)), (1, .int (bI p1))]), W p l e (headSpec w_M_sumBits ({ frames := 1, cells := 0, slots := 0, locals := 23 } : Room)).room s m ([.ref (ad 0), .int (bI p1)] : List Value).toArray below meth c H locs 0 0 (MQ below (va_Qv (fun _ : Unit => True) (mB (dC, dI) A (mW ad cJ cZ c0 (f_M_sumBits r0 p1) w0 s0)) A) ([.ref (ad 0), .int (bI p1)] : List Value).toArray s 0 0 A) (F0 m 216 ls [.int (bI s216_0)]) := by
            intro s199_0 s169_0 s149_0 s216_0 hj hf0 hf1 H locs hP hD hS ls hl
            refine lv_istore (lv' := [(12, .int (bI s216_0)), (18, .int (bI s199_0)), (10, .int (bI s169_0)), (9, .int (bI s149_0)), (13, .int (x36_13)), (11, .int (bI x36_11)), (8, .int (x14_8)), (7, .int (bI x14_7)), (6, .int (bI x14_6)), (4, .long (x14_4)), (2, .long (x14_2)), (0, .ref (ad 0)), (1, .int (bI p1))]) hx hb d_M_sumBits_216 hl (by decide) rfl (fun ls hl => ?_)
            refine lv_iload hx hb d_M_sumBits_218 (lv_at hl 5 rfl) ?_
            refine wz_ne (tgt := 228) hx hb d_M_sumBits_220 (by decide) (fun e1_228 => ?_) (fun e1_228 => ?_)
            · refine K228 s216_0 s169_0 s149_0 (hj.trans (by unfold f_M_sumBits_216; first | with_reducible exact if_pos e1_228 | exact if_pos e1_228)) hf0 hf1 H locs ?_ ?_ hS ls (lv_sub hl [0, 2, 3, 4, 6, 7, 8, 9, 10, 11, 12] rfl)
              · with_reducible exact hP
              · with_reducible exact hD
            · refine lv_iload hx hb d_M_sumBits_223 (lv_at hl 1 rfl) ?_
              refine wz_ne (tgt := 232) hx hb d_M_sumBits_225 (by decide) (fun e2_232 => ?_) (fun e2_232 => ?_)
              · refine lv_iconst (v := 0) hx hb d_M_sumBits_232 (by decide) ?_
                refine K233 s216_0 s169_0 s149_0 false (hj.trans (by unfold f_M_sumBits_216; first | with_reducible exact (if_neg e1_228).trans (if_pos e2_232) | exact (if_neg e1_228).trans (if_pos e2_232))) hf0 hf1 H locs ?_ ?_ hS ls (lv_sub hl [0, 2, 3, 4, 6, 7, 8, 9, 10, 11, 12] rfl)
                · with_reducible exact hP
                · with_reducible exact hD
              · refine K228 s216_0 s169_0 s149_0 (hj.trans (by unfold f_M_sumBits_216; first | with_reducible exact (if_neg e1_228).trans (if_neg e2_232) | exact (if_neg e1_228).trans (if_neg e2_232))) hf0 hf1 H locs ?_ ?_ hS ls (lv_sub hl [0, 2, 3, 4, 6, 7, 8, 9, 10, 11, 12] rfl)
                · with_reducible exact hP
                · with_reducible exact hD
          have K211 : ∀ (s199_0 : Bool) (s169_0 : Bool) (s149_0 : Bool) (hj : f_M_sumBits r0 p1 = f_M_sumBits_211 r0 p1 x14_8 x14_7 x14_6 x14_4 x14_2 x36_13 x36_12 x36_11 x36_10 x36_9 (fun y0 y1 y2 y3 y4 => f_M_sumBits_14 r0 p1 n14 y0 y1 y2 y3 y4) (fun y0 y1 y2 y3 y4 => f_M_sumBits_36 r0 p1 x14_8 x14_7 x14_6 x14_4 x14_2 (fun y0 y1 y2 y3 y4 => f_M_sumBits_14 r0 p1 n14 y0 y1 y2 y3 y4) n36 y0 y1 y2 y3 y4) s199_0 s169_0 s149_0) (hf0 : ¬ 64 ≤ x14_8) (hf1 : ¬ 8 ≤ x36_13) (H : Heap) (locs : List Loc) (hP : va_P (dC, dI) classes (mW ad cJ cZ c0 r0 w0 s0) H) (hD : va_D A (mW ad cJ cZ c0 r0 w0 s0)) (hS : va_S A s.heap H locs) (ls : Array Slot) (hl : lv_has ls 19 [(18, .int (bI s199_0)), (10, .int (bI s169_0)), (9, .int (bI s149_0)), (13, .int (x36_13)), (11, .int (bI x36_11)), (8, .int (x14_8)), (7, .int (bI x14_7)), (6, .int (bI x14_6)), (4, .long (x14_4)), (2, .long (x14_2)), (0, .ref (ad 0)), (1, .int (bI p1))]), W p l e (headSpec w_M_sumBits ({ frames := 1, cells := 0, slots := 0, locals := 23 } : Room)).room s m ([.ref (ad 0), .int (bI p1)] : List Value).toArray below meth c H locs 0 0 (MQ below (va_Qv (fun _ : Unit => True) (mB (dC, dI) A (mW ad cJ cZ c0 (f_M_sumBits r0 p1) w0 s0)) A) ([.ref (ad 0), .int (bI p1)] : List Value).toArray s 0 0 A) (F0 m 211 ls []) := by
            intro s199_0 s169_0 s149_0 hj hf0 hf1 H locs hP hD hS ls hl
            refine lv_iconst (v := 1) hx hb d_M_sumBits_211 (by decide) ?_
            refine lv_goto (tgt := 216) hx hb d_M_sumBits_212 (by decide) ?_
            refine K216 s199_0 s169_0 s149_0 true (hj.trans rfl) hf0 hf1 H locs ?_ ?_ hS ls (lv_sub hl [0, 1, 2, 3, 4, 5, 6, 7, 8, 9, 10, 11] rfl)
            · with_reducible exact hP
            · with_reducible exact hD
          have K199 : ∀ (s169_0 : Bool) (s149_0 : Bool) (s199_0 : Bool) (hj : f_M_sumBits r0 p1 = f_M_sumBits_199 r0 p1 x14_8 x14_7 x14_6 x14_4 x14_2 x36_13 x36_12 x36_11 x36_10 x36_9 (fun y0 y1 y2 y3 y4 => f_M_sumBits_14 r0 p1 n14 y0 y1 y2 y3 y4) (fun y0 y1 y2 y3 y4 => f_M_sumBits_36 r0 p1 x14_8 x14_7 x14_6 x14_4 x14_2 (fun y0 y1 y2 y3 y4 => f_M_sumBits_14 r0 p1 n14 y0 y1 y2 y3 y4) n36 y0 y1 y2 y3 y4) s169_0 s149_0 s199_0) (hf0 : ¬ 64 ≤ x14_8) (hf1 : ¬ 8 ≤ x36_13) (H : Heap) (locs : List Loc) (hP : va_P (dC, dI) classes (mW ad cJ cZ c0 r0 w0 s0) H) (hD : va_D A (mW ad cJ cZ c0 r0 w0 s0)) (hS : va_S A s.heap H locs) (ls : Array Slot) (hl : lv_has ls 19 [(10, .int (bI s169_0)), (9, .int (bI s149_0)), (13, .int (x36_13)), (12, .int (bI x36_12)), (11, .int (bI x36_11)), (8, .int (x14_8)), (7, .int (bI x14_7)), (6, .int (bI x14_6)), (4, .long (x14_4)), (2, .long (x14_2)), (0, .ref (ad 0)), (1, .int (bI p1))]), W p l e (headSpec w_M_sumBits ({ frames := 1, cells := 0, slots := 0, locals := 23 } : Room)).room s m ([.ref (ad 0), .int (bI p1)] : List Value).toArray below meth c H locs 0 0 (MQ below (va_Qv (fun _ : Unit => True) (mB (dC, dI) A (mW ad cJ cZ c0 (f_M_sumBits r0 p1) w0 s0)) A) ([.ref (ad 0), .int (bI p1)] : List Value).toArray s 0 0 A) (F0 m 199 ls [.int (bI s199_0)]) := by
            intro s169_0 s149_0 s199_0 hj hf0 hf1 H locs hP hD hS ls hl
            refine lv_istore (lv' := [(18, .int (bI s199_0)), (10, .int (bI s169_0)), (9, .int (bI s149_0)), (13, .int (x36_13)), (12, .int (bI x36_12)), (11, .int (bI x36_11)), (8, .int (x14_8)), (7, .int (bI x14_7)), (6, .int (bI x14_6)), (4, .long (x14_4)), (2, .long (x14_2)), (0, .ref (ad 0)), (1, .int (bI p1))]) hx hb d_M_sumBits_199 hl (by decide) rfl (fun ls hl => ?_)
            refine lv_iload hx hb d_M_sumBits_201 (lv_at hl 4 rfl) ?_
            refine wz_ne (tgt := 211) hx hb d_M_sumBits_203 (by decide) (fun e1_211 => ?_) (fun e1_211 => ?_)
            · refine K211 s199_0 s169_0 s149_0 (hj.trans (by unfold f_M_sumBits_199; first | with_reducible exact if_pos e1_211 | exact if_pos e1_211)) hf0 hf1 H locs ?_ ?_ hS ls (lv_sub hl [0, 1, 2, 3, 5, 6, 7, 8, 9, 10, 11, 12] rfl)
              · with_reducible exact hP
              · with_reducible exact hD
            · refine lv_iload hx hb d_M_sumBits_206 (lv_at hl 0 rfl) ?_
              refine wz_eq (tgt := 215) hx hb d_M_sumBits_208 (by decide) (fun e2_215 => ?_) (fun e2_215 => ?_)
              · refine lv_iconst (v := 0) hx hb d_M_sumBits_215 (by decide) ?_
                refine K216 s199_0 s169_0 s149_0 false (hj.trans (by unfold f_M_sumBits_199; first | with_reducible exact (if_neg e1_211).trans (if_neg e2_215) | exact (if_neg e1_211).trans (if_neg e2_215))) hf0 hf1 H locs ?_ ?_ hS ls (lv_sub hl [0, 1, 2, 3, 5, 6, 7, 8, 9, 10, 11, 12] rfl)
                · with_reducible exact hP
                · with_reducible exact hD
              · refine K211 s199_0 s169_0 s149_0 (hj.trans (by unfold f_M_sumBits_199; first | with_reducible exact (if_neg e1_211).trans (if_pos e2_215) | exact (if_neg e1_211).trans (if_pos e2_215))) hf0 hf1 H locs ?_ ?_ hS ls (lv_sub hl [0, 1, 2, 3, 5, 6, 7, 8, 9, 10, 11, 12] rfl)
                · with_reducible exact hP
                · with_reducible exact hD
          have K169 : ∀ (s149_0 : Bool) (s130_0 : Int32) (s169_0 : Bool) (hj : f_M_sumBits r0 p1 = f_M_sumBits_169 r0 p1 x14_8 x14_7 x14_6 x14_4 x14_2 x36_13 x36_12 x36_11 x36_10 x36_9 (fun y0 y1 y2 y3 y4 => f_M_sumBits_14 r0 p1 n14 y0 y1 y2 y3 y4) (fun y0 y1 y2 y3 y4 => f_M_sumBits_36 r0 p1 x14_8 x14_7 x14_6 x14_4 x14_2 (fun y0 y1 y2 y3 y4 => f_M_sumBits_14 r0 p1 n14 y0 y1 y2 y3 y4) n36 y0 y1 y2 y3 y4) s149_0 s130_0 s169_0) (hf0 : ¬ 64 ≤ x14_8) (hf1 : ¬ 8 ≤ x36_13) (H : Heap) (locs : List Loc) (hP : va_P (dC, dI) classes (mW ad cJ cZ c0 r0 w0 s0) H) (hD : va_D A (mW ad cJ cZ c0 r0 w0 s0)) (hS : va_S A s.heap H locs) (ls : Array Slot) (hl : lv_has ls 19 [(9, .int (bI s149_0)), (17, .int (s130_0)), (13, .int (x36_13)), (12, .int (bI x36_12)), (11, .int (bI x36_11)), (8, .int (x14_8)), (7, .int (bI x14_7)), (6, .int (bI x14_6)), (4, .long (x14_4)), (2, .long (x14_2)), (0, .ref (ad 0)), (1, .int (bI p1))]), W p l e (headSpec w_M_sumBits ({ frames := 1, cells := 0, slots := 0, locals := 23 } : Room)).room s m ([.ref (ad 0), .int (bI p1)] : List Value).toArray below meth c H locs 0 0 (MQ below (va_Qv (fun _ : Unit => True) (mB (dC, dI) A (mW ad cJ cZ c0 (f_M_sumBits r0 p1) w0 s0)) A) ([.ref (ad 0), .int (bI p1)] : List Value).toArray s 0 0 A) (F0 m 169 ls [.int (bI s169_0)]) := by
            intro s149_0 s130_0 s169_0 hj hf0 hf1 H locs hP hD hS ls hl
            refine lv_istore (lv' := [(10, .int (bI s169_0)), (9, .int (bI s149_0)), (17, .int (s130_0)), (13, .int (x36_13)), (12, .int (bI x36_12)), (11, .int (bI x36_11)), (8, .int (x14_8)), (7, .int (bI x14_7)), (6, .int (bI x14_6)), (4, .long (x14_4)), (2, .long (x14_2)), (0, .ref (ad 0)), (1, .int (bI p1))]) hx hb d_M_sumBits_169 hl (by decide) rfl (fun ls hl => ?_)
            refine lv_iload_n hx hb d_M_sumBits_171 rfl (lv_at hl 12 rfl) ?_
            refine wz_eq (tgt := 188) hx hb d_M_sumBits_172 (by decide) (fun e1_188 => ?_) (fun e1_188 => ?_)
            · refine lv_iload hx hb d_M_sumBits_188 (lv_at hl 2 rfl) ?_
              refine lv_iconst (v := 1) hx hb d_M_sumBits_190 (by decide) ?_
              refine lv_icmp_le (tgt := 198) hx hb d_M_sumBits_191 (by decide) (fun e2_198 => ?_) (fun e2_198 => ?_)
              · refine lv_iconst (v := 0) hx hb d_M_sumBits_198 (by decide) ?_
                refine K199 s169_0 s149_0 false (hj.trans (by unfold f_M_sumBits_169; first | with_reducible exact (if_neg e1_188).trans (if_pos e2_198) | exact (if_neg e1_188).trans (if_pos e2_198))) hf0 hf1 H locs ?_ ?_ hS ls (lv_sub hl [0, 1, 3, 4, 5, 6, 7, 8, 9, 10, 11, 12] rfl)
                · with_reducible exact hP
                · with_reducible exact hD
              · refine lv_iconst (v := 1) hx hb d_M_sumBits_194 (by decide) ?_
                refine lv_goto (tgt := 199) hx hb d_M_sumBits_195 (by decide) ?_
                refine K199 s169_0 s149_0 true (hj.trans (by unfold f_M_sumBits_169; first | with_reducible exact (if_neg e1_188).trans (if_neg e2_198) | exact (if_neg e1_188).trans (if_neg e2_198))) hf0 hf1 H locs ?_ ?_ hS ls (lv_sub hl [0, 1, 3, 4, 5, 6, 7, 8, 9, 10, 11, 12] rfl)
                · with_reducible exact hP
                · with_reducible exact hD
            · refine lv_iload hx hb d_M_sumBits_175 (lv_at hl 2 rfl) ?_
              refine lv_if_ge (tgt := 184) hx hb d_M_sumBits_177 (by decide) (fun e3_184 => ?_) (fun e3_184 => ?_)
              · refine lv_iconst (v := 0) hx hb d_M_sumBits_184 (by decide) ?_
                refine lv_goto (tgt := 199) hx hb d_M_sumBits_185 (by decide) ?_
                refine K199 s169_0 s149_0 false (hj.trans (by unfold f_M_sumBits_169; first | with_reducible exact (if_pos e1_188).trans (if_pos e3_184) | exact (if_pos e1_188).trans (if_pos e3_184))) hf0 hf1 H locs ?_ ?_ hS ls (lv_sub hl [0, 1, 3, 4, 5, 6, 7, 8, 9, 10, 11, 12] rfl)
                · with_reducible exact hP
                · with_reducible exact hD
              · refine lv_iconst (v := 1) hx hb d_M_sumBits_180 (by decide) ?_
                refine lv_goto (tgt := 199) hx hb d_M_sumBits_181 (by decide) ?_
                refine K199 s169_0 s149_0 true (hj.trans (by unfold f_M_sumBits_169; first | with_reducible exact (if_pos e1_188).trans (if_neg e3_184) | exact (if_pos e1_188).trans (if_neg e3_184))) hf0 hf1 H locs ?_ ?_ hS ls (lv_sub hl [0, 1, 3, 4, 5, 6, 7, 8, 9, 10, 11, 12] rfl)
                · with_reducible exact hP
                · with_reducible exact hD
          have K164 : ∀ (s149_0 : Bool) (s130_0 : Int32) (hj : f_M_sumBits r0 p1 = f_M_sumBits_164 r0 p1 x14_8 x14_7 x14_6 x14_4 x14_2 x36_13 x36_12 x36_11 x36_10 x36_9 (fun y0 y1 y2 y3 y4 => f_M_sumBits_14 r0 p1 n14 y0 y1 y2 y3 y4) (fun y0 y1 y2 y3 y4 => f_M_sumBits_36 r0 p1 x14_8 x14_7 x14_6 x14_4 x14_2 (fun y0 y1 y2 y3 y4 => f_M_sumBits_14 r0 p1 n14 y0 y1 y2 y3 y4) n36 y0 y1 y2 y3 y4) s149_0 s130_0) (hf0 : ¬ 64 ≤ x14_8) (hf1 : ¬ 8 ≤ x36_13) (H : Heap) (locs : List Loc) (hP : va_P (dC, dI) classes (mW ad cJ cZ c0 r0 w0 s0) H) (hD : va_D A (mW ad cJ cZ c0 r0 w0 s0)) (hS : va_S A s.heap H locs) (ls : Array Slot) (hl : lv_has ls 19 [(9, .int (bI s149_0)), (17, .int (s130_0)), (13, .int (x36_13)), (12, .int (bI x36_12)), (11, .int (bI x36_11)), (8, .int (x14_8)), (7, .int (bI x14_7)), (6, .int (bI x14_6)), (4, .long (x14_4)), (2, .long (x14_2)), (0, .ref (ad 0)), (1, .int (bI p1))]), W p l e (headSpec w_M_sumBits ({ frames := 1, cells := 0, slots := 0, locals := 23 } : Room)).room s m ([.ref (ad 0), .int (bI p1)] : List Value).toArray below meth c H locs 0 0 (MQ below (va_Qv (fun _ : Unit => True) (mB (dC, dI) A (mW ad cJ cZ c0 (f_M_sumBits r0 p1) w0 s0)) A) ([.ref (ad 0), .int (bI p1)] : List Value).toArray s 0 0 A) (F0 m 164 ls []) := by
            intro s149_0 s130_0 hj hf0 hf1 H locs hP hD hS ls hl
            refine lv_iconst (v := 1) hx hb d_M_sumBits_164 (by decide) ?_
            refine lv_goto (tgt := 169) hx hb d_M_sumBits_165 (by decide) ?_
            refine K169 s149_0 s130_0 true (hj.trans rfl) hf0 hf1 H locs ?_ ?_ hS ls (lv_sub hl [0, 1, 2, 3, 4, 5, 6, 7, 8, 9, 10, 11] rfl)
            · with_reducible exact hP
            · with_reducible exact hD
          have K149 : ∀ (s130_0 : Int32) (s149_0 : Bool) (hj : f_M_sumBits r0 p1 = f_M_sumBits_149 r0 p1 x14_8 x14_7 x14_6 x14_4 x14_2 x36_13 x36_12 x36_11 x36_10 x36_9 (fun y0 y1 y2 y3 y4 => f_M_sumBits_14 r0 p1 n14 y0 y1 y2 y3 y4) (fun y0 y1 y2 y3 y4 => f_M_sumBits_36 r0 p1 x14_8 x14_7 x14_6 x14_4 x14_2 (fun y0 y1 y2 y3 y4 => f_M_sumBits_14 r0 p1 n14 y0 y1 y2 y3 y4) n36 y0 y1 y2 y3 y4) s130_0 s149_0) (hf0 : ¬ 64 ≤ x14_8) (hf1 : ¬ 8 ≤ x36_13) (H : Heap) (locs : List Loc) (hP : va_P (dC, dI) classes (mW ad cJ cZ c0 r0 w0 s0) H) (hD : va_D A (mW ad cJ cZ c0 r0 w0 s0)) (hS : va_S A s.heap H locs) (ls : Array Slot) (hl : lv_has ls 19 [(17, .int (s130_0)), (13, .int (x36_13)), (12, .int (bI x36_12)), (11, .int (bI x36_11)), (10, .int (bI x36_10)), (8, .int (x14_8)), (7, .int (bI x14_7)), (6, .int (bI x14_6)), (4, .long (x14_4)), (2, .long (x14_2)), (0, .ref (ad 0)), (1, .int (bI p1))]), W p l e (headSpec w_M_sumBits ({ frames := 1, cells := 0, slots := 0, locals := 23 } : Room)).room s m ([.ref (ad 0), .int (bI p1)] : List Value).toArray below meth c H locs 0 0 (MQ below (va_Qv (fun _ : Unit => True) (mB (dC, dI) A (mW ad cJ cZ c0 (f_M_sumBits r0 p1) w0 s0)) A) ([.ref (ad 0), .int (bI p1)] : List Value).toArray s 0 0 A) (F0 m 149 ls [.int (bI s149_0)]) := by
            intro s130_0 s149_0 hj hf0 hf1 H locs hP hD hS ls hl
            refine lv_istore (lv' := [(9, .int (bI s149_0)), (17, .int (s130_0)), (13, .int (x36_13)), (12, .int (bI x36_12)), (11, .int (bI x36_11)), (10, .int (bI x36_10)), (8, .int (x14_8)), (7, .int (bI x14_7)), (6, .int (bI x14_6)), (4, .long (x14_4)), (2, .long (x14_2)), (0, .ref (ad 0)), (1, .int (bI p1))]) hx hb d_M_sumBits_149 hl (by decide) rfl (fun ls hl => ?_)
            refine lv_iload hx hb d_M_sumBits_151 (lv_at hl 5 rfl) ?_
            refine wz_ne (tgt := 164) hx hb d_M_sumBits_153 (by decide) (fun e1_164 => ?_) (fun e1_164 => ?_)
            · refine K164 s149_0 s130_0 (hj.trans (by unfold f_M_sumBits_149; first | with_reducible exact if_pos e1_164 | exact if_pos e1_164)) hf0 hf1 H locs ?_ ?_ hS ls (lv_sub hl [0, 1, 2, 3, 4, 6, 7, 8, 9, 10, 11, 12] rfl)
              · with_reducible exact hP
              · with_reducible exact hD
            · refine lv_iload hx hb d_M_sumBits_156 (lv_at hl 1 rfl) ?_
              refine lv_iconst (v := 1) hx hb d_M_sumBits_158 (by decide) ?_
              refine lv_iand hx hb d_M_sumBits_159 ?_
              refine lv_iconst (v := 1) hx hb d_M_sumBits_160 (by decide) ?_
              refine lv_icmp_ne (tgt := 168) hx hb d_M_sumBits_161 (by decide) (fun e2_168 => ?_) (fun e2_168 => ?_)
              · refine lv_iconst (v := 0) hx hb d_M_sumBits_168 (by decide) ?_
                refine K169 s149_0 s130_0 false (hj.trans (by unfold f_M_sumBits_149; first | with_reducible exact (if_neg e1_164).trans (if_neg e2_168) | exact (if_neg e1_164).trans (if_neg e2_168))) hf0 hf1 H locs ?_ ?_ hS ls (lv_sub hl [0, 1, 2, 3, 4, 6, 7, 8, 9, 10, 11, 12] rfl)
                · with_reducible exact hP
                · with_reducible exact hD
              · refine K164 s149_0 s130_0 (hj.trans (by unfold f_M_sumBits_149; first | with_reducible exact (if_neg e1_164).trans (if_pos e2_168) | exact (if_neg e1_164).trans (if_pos e2_168))) hf0 hf1 H locs ?_ ?_ hS ls (lv_sub hl [0, 1, 2, 3, 4, 6, 7, 8, 9, 10, 11, 12] rfl)
                · with_reducible exact hP
                · with_reducible exact hD
          have K144 : ∀ (s130_0 : Int32) (hj : f_M_sumBits r0 p1 = f_M_sumBits_144 r0 p1 x14_8 x14_7 x14_6 x14_4 x14_2 x36_13 x36_12 x36_11 x36_10 x36_9 (fun y0 y1 y2 y3 y4 => f_M_sumBits_14 r0 p1 n14 y0 y1 y2 y3 y4) (fun y0 y1 y2 y3 y4 => f_M_sumBits_36 r0 p1 x14_8 x14_7 x14_6 x14_4 x14_2 (fun y0 y1 y2 y3 y4 => f_M_sumBits_14 r0 p1 n14 y0 y1 y2 y3 y4) n36 y0 y1 y2 y3 y4) s130_0) (hf0 : ¬ 64 ≤ x14_8) (hf1 : ¬ 8 ≤ x36_13) (H : Heap) (locs : List Loc) (hP : va_P (dC, dI) classes (mW ad cJ cZ c0 r0 w0 s0) H) (hD : va_D A (mW ad cJ cZ c0 r0 w0 s0)) (hS : va_S A s.heap H locs) (ls : Array Slot) (hl : lv_has ls 19 [(17, .int (s130_0)), (13, .int (x36_13)), (12, .int (bI x36_12)), (11, .int (bI x36_11)), (10, .int (bI x36_10)), (8, .int (x14_8)), (7, .int (bI x14_7)), (6, .int (bI x14_6)), (4, .long (x14_4)), (2, .long (x14_2)), (0, .ref (ad 0)), (1, .int (bI p1))]), W p l e (headSpec w_M_sumBits ({ frames := 1, cells := 0, slots := 0, locals := 23 } : Room)).room s m ([.ref (ad 0), .int (bI p1)] : List Value).toArray below meth c H locs 0 0 (MQ below (va_Qv (fun _ : Unit => True) (mB (dC, dI) A (mW ad cJ cZ c0 (f_M_sumBits r0 p1) w0 s0)) A) ([.ref (ad 0), .int (bI p1)] : List Value).toArray s 0 0 A) (F0 m 144 ls []) := by
            intro s130_0 hj hf0 hf1 H locs hP hD hS ls hl
            refine lv_iconst (v := 1) hx hb d_M_sumBits_144 (by decide) ?_
            refine lv_goto (tgt := 149) hx hb d_M_sumBits_145 (by decide) ?_
            refine K149 s130_0 true (hj.trans rfl) hf0 hf1 H locs ?_ ?_ hS ls (lv_sub hl [0, 1, 2, 3, 4, 5, 6, 7, 8, 9, 10, 11] rfl)
            · with_reducible exact hP
            · with_reducible exact hD
          have K130 : ∀ (s130_0 : Int32) (hj : f_M_sumBits r0 p1 = f_M_sumBits_130 r0 p1 x14_8 x14_7 x14_6 x14_4 x14_2 x36_13 x36_12 x36_11 x36_10 x36_9 (fun y0 y1 y2 y3 y4 => f_M_sumBits_14 r0 p1 n14 y0 y1 y2 y3 y4) (fun y0 y1 y2 y3 y4 => f_M_sumBits_36 r0 p1 x14_8 x14_7 x14_6 x14_4 x14_2 (fun y0 y1 y2 y3 y4 => f_M_sumBits_14 r0 p1 n14 y0 y1 y2 y3 y4) n36 y0 y1 y2 y3 y4) s130_0) (hf0 : ¬ 64 ≤ x14_8) (hf1 : ¬ 8 ≤ x36_13) (H : Heap) (locs : List Loc) (hP : va_P (dC, dI) classes (mW ad cJ cZ c0 r0 w0 s0) H) (hD : va_D A (mW ad cJ cZ c0 r0 w0 s0)) (hS : va_S A s.heap H locs) (ls : Array Slot) (hl : lv_has ls 19 [(13, .int (x36_13)), (12, .int (bI x36_12)), (11, .int (bI x36_11)), (10, .int (bI x36_10)), (9, .int (bI x36_9)), (8, .int (x14_8)), (7, .int (bI x14_7)), (6, .int (bI x14_6)), (4, .long (x14_4)), (2, .long (x14_2)), (0, .ref (ad 0)), (1, .int (bI p1))]), W p l e (headSpec w_M_sumBits ({ frames := 1, cells := 0, slots := 0, locals := 23 } : Room)).room s m ([.ref (ad 0), .int (bI p1)] : List Value).toArray below meth c H locs 0 0 (MQ below (va_Qv (fun _ : Unit => True) (mB (dC, dI) A (mW ad cJ cZ c0 (f_M_sumBits r0 p1) w0 s0)) A) ([.ref (ad 0), .int (bI p1)] : List Value).toArray s 0 0 A) (F0 m 130 ls [.int (s130_0)]) := by
            intro s130_0 hj hf0 hf1 H locs hP hD hS ls hl
            refine lv_istore (lv' := [(17, .int (s130_0)), (13, .int (x36_13)), (12, .int (bI x36_12)), (11, .int (bI x36_11)), (10, .int (bI x36_10)), (9, .int (bI x36_9)), (8, .int (x14_8)), (7, .int (bI x14_7)), (6, .int (bI x14_6)), (4, .long (x14_4)), (2, .long (x14_2)), (0, .ref (ad 0)), (1, .int (bI p1))]) hx hb d_M_sumBits_130 hl (by decide) rfl (fun ls hl => ?_)
            refine lv_iload hx hb d_M_sumBits_132 (lv_at hl 5 rfl) ?_
            refine wz_ne (tgt := 144) hx hb d_M_sumBits_134 (by decide) (fun e1_144 => ?_) (fun e1_144 => ?_)
            · refine K144 s130_0 (hj.trans (by unfold f_M_sumBits_130; first | with_reducible exact if_pos e1_144 | exact if_pos e1_144)) hf0 hf1 H locs ?_ ?_ hS ls (lv_sub hl [0, 1, 2, 3, 4, 6, 7, 8, 9, 10, 11, 12] rfl)
              · with_reducible exact hP
              · with_reducible exact hD
            · refine lv_iload hx hb d_M_sumBits_137 (lv_at hl 0 rfl) ?_
              refine lv_iconst (v := 1) hx hb d_M_sumBits_139 (by decide) ?_
              refine lv_iand hx hb d_M_sumBits_140 ?_
              refine lv_if_ne (tgt := 148) hx hb d_M_sumBits_141 (by decide) (fun e2_148 => ?_) (fun e2_148 => ?_)
              · refine lv_iconst (v := 0) hx hb d_M_sumBits_148 (by decide) ?_
                refine K149 s130_0 false (hj.trans (by unfold f_M_sumBits_130; first | with_reducible exact (if_neg e1_144).trans (if_neg e2_148) | exact (if_neg e1_144).trans (if_neg e2_148))) hf0 hf1 H locs ?_ ?_ hS ls (lv_sub hl [0, 1, 2, 3, 4, 6, 7, 8, 9, 10, 11, 12] rfl)
                · with_reducible exact hP
                · with_reducible exact hD
              · refine K144 s130_0 (hj.trans (by unfold f_M_sumBits_130; first | with_reducible exact (if_neg e1_144).trans (if_pos e2_148) | exact (if_neg e1_144).trans (if_pos e2_148))) hf0 hf1 H locs ?_ ?_ hS ls (lv_sub hl [0, 1, 2, 3, 4, 6, 7, 8, 9, 10, 11, 12] rfl)
                · with_reducible exact hP
                · with_reducible exact hD
          have K107 : ∀ (v61 : Int32) (v55 : Int32) (v47 : Int32) (hj : f_M_sumBits r0 p1 = f_M_sumBits_107 r0 p1 x14_8 x14_7 x14_6 x14_4 x14_2 x36_13 x36_12 x36_11 x36_10 x36_9 (fun y0 y1 y2 y3 y4 => f_M_sumBits_14 r0 p1 n14 y0 y1 y2 y3 y4) (fun y0 y1 y2 y3 y4 => f_M_sumBits_36 r0 p1 x14_8 x14_7 x14_6 x14_4 x14_2 (fun y0 y1 y2 y3 y4 => f_M_sumBits_14 r0 p1 n14 y0 y1 y2 y3 y4) n36 y0 y1 y2 y3 y4) v61 v55 v47) (hf0 : ¬ 64 ≤ x14_8) (hf1 : ¬ 8 ≤ x36_13) (H : Heap) (locs : List Loc) (hP : va_P (dC, dI) classes (mW ad cJ cZ c0 r0 w0 s0) H) (hD : va_D A (mW ad cJ cZ c0 r0 w0 s0)) (hS : va_S A s.heap H locs) (ls : Array Slot) (hl : lv_has ls 19 [(16, .int (v61)), (15, .int (v55)), (14, .int (v47)), (13, .int (x36_13)), (12, .int (bI x36_12)), (11, .int (bI x36_11)), (10, .int (bI x36_10)), (9, .int (bI x36_9)), (8, .int (x14_8)), (7, .int (bI x14_7)), (6, .int (bI x14_6)), (4, .long (x14_4)), (2, .long (x14_2)), (0, .ref (ad 0)), (1, .int (bI p1))]), W p l e (headSpec w_M_sumBits ({ frames := 1, cells := 0, slots := 0, locals := 23 } : Room)).room s m ([.ref (ad 0), .int (bI p1)] : List Value).toArray below meth c H locs 0 0 (MQ below (va_Qv (fun _ : Unit => True) (mB (dC, dI) A (mW ad cJ cZ c0 (f_M_sumBits r0 p1) w0 s0)) A) ([.ref (ad 0), .int (bI p1)] : List Value).toArray s 0 0 A) (F0 m 107 ls []) := by
            intro v61 v55 v47 hj hf0 hf1 H locs hP hD hS ls hl
            refine lv_iload_n hx hb d_M_sumBits_107 rfl (lv_at hl 14 rfl) ?_
            refine wz_eq (tgt := 122) hx hb d_M_sumBits_108 (by decide) (fun e1_122 => ?_) (fun e1_122 => ?_)
            · refine lv_iload hx hb d_M_sumBits_122 (lv_at hl 2 rfl) ?_
              refine lv_iload hx hb d_M_sumBits_124 (lv_at hl 1 rfl) ?_
              refine lv_iadd hx hb d_M_sumBits_126 ?_
              refine lv_iload hx hb d_M_sumBits_127 (lv_at hl 0 rfl) ?_
              refine lv_iadd hx hb d_M_sumBits_129 ?_
              refine K130 ((v47 + v55) + v61) (hj.trans (by unfold f_M_sumBits_107; first | with_reducible exact if_neg e1_122 | exact if_neg e1_122)) hf0 hf1 H locs ?_ ?_ hS ls (lv_sub hl [3, 4, 5, 6, 7, 8, 9, 10, 11, 12, 13, 14] rfl)
              · with_reducible exact hP
              · with_reducible exact hD
            · refine lv_iload hx hb d_M_sumBits_111 (lv_at hl 2 rfl) ?_
              refine lv_iload hx hb d_M_sumBits_113 (lv_at hl 1 rfl) ?_
              refine lv_isub hx hb d_M_sumBits_115 ?_
              refine lv_iload hx hb d_M_sumBits_116 (lv_at hl 0 rfl) ?_
              refine lv_isub hx hb d_M_sumBits_118 ?_
              refine lv_goto (tgt := 130) hx hb d_M_sumBits_119 (by decide) ?_
              refine K130 ((v47 - v55) - v61) (hj.trans (by unfold f_M_sumBits_107; first | with_reducible exact if_pos e1_122 | exact if_pos e1_122)) hf0 hf1 H locs ?_ ?_ hS ls (lv_sub hl [3, 4, 5, 6, 7, 8, 9, 10, 11, 12, 13, 14] rfl)
              · with_reducible exact hP
              · with_reducible exact hD
          have K61v : ∀ (v61 : Int32) (v55 : Int32) (v47 : Int32) (hj : f_M_sumBits r0 p1 = f_M_sumBits_61v r0 p1 x14_8 x14_7 x14_6 x14_4 x14_2 x36_13 x36_12 x36_11 x36_10 x36_9 (fun y0 y1 y2 y3 y4 => f_M_sumBits_14 r0 p1 n14 y0 y1 y2 y3 y4) (fun y0 y1 y2 y3 y4 => f_M_sumBits_36 r0 p1 x14_8 x14_7 x14_6 x14_4 x14_2 (fun y0 y1 y2 y3 y4 => f_M_sumBits_14 r0 p1 n14 y0 y1 y2 y3 y4) n36 y0 y1 y2 y3 y4) v61 v55 v47) (hf0 : ¬ 64 ≤ x14_8) (hf1 : ¬ 8 ≤ x36_13) (H : Heap) (locs : List Loc) (hP : va_P (dC, dI) classes (mW ad cJ cZ c0 r0 w0 s0) H) (hD : va_D A (mW ad cJ cZ c0 r0 w0 s0)) (hS : va_S A s.heap H locs) (ls : Array Slot) (hl : lv_has ls 19 [(16, .int (v61)), (15, .int (v55)), (14, .int (v47)), (13, .int (x36_13)), (12, .int (bI x36_12)), (11, .int (bI x36_11)), (10, .int (bI x36_10)), (9, .int (bI x36_9)), (8, .int (x14_8)), (7, .int (bI x14_7)), (6, .int (bI x14_6)), (4, .long (x14_4)), (2, .long (x14_2)), (0, .ref (ad 0)), (1, .int (bI p1))]), W p l e (headSpec w_M_sumBits ({ frames := 1, cells := 0, slots := 0, locals := 23 } : Room)).room s m ([.ref (ad 0), .int (bI p1)] : List Value).toArray below meth c H locs 0 0 (MQ below (va_Qv (fun _ : Unit => True) (mB (dC, dI) A (mW ad cJ cZ c0 (f_M_sumBits r0 p1) w0 s0)) A) ([.ref (ad 0), .int (bI p1)] : List Value).toArray s 0 0 A) (F0 m 63 ls []) := by
            intro v61 v55 v47 hj hf0 hf1 H locs hP hD hS ls hl
            refine lv_aload_n hx hb d_M_sumBits_63 rfl (lv_at hl 13 rfl) ?_
            refine lv_bipush (v := 16) hx hb d_M_sumBits_64 (by decide) ?_
            refine lv_iload hx hb d_M_sumBits_66 (lv_at hl 8 rfl) ?_
            refine lv_iload hx hb d_M_sumBits_68 (lv_at hl 2 rfl) ?_
            refine rc_i (W.runV (As := [.int (16), .int (x14_8), .int (v47)]) (rest := []) ⟨hx, hb, hml, hown, hts⟩ (c_M_mayBe l dC dI ad cJ cZ c0 r0 w0 s0 16 x14_8 v47 (by decide)) (cwV 3 hts (gxV gx133 gx134 gx282 gx0 gx135) rfl rfl rfl (by decide +kernel) ⟨(Nat.le_of_ble_eq_true rfl), (Nat.le_of_ble_eq_true rfl)⟩) ⟨bln, va_recv hK hP (ci := 2) (q0 := 0) rfl rfl, fun U hU hW => ⟨rfl, by rw [hU]; exact hP, va_K.moved hW.alike hK⟩⟩ rfl rfl hl.1 rfl (lv_room (Nat.le_of_ble_eq_true rfl)) d_M_sumBits_70 ⟨Nat.zero_le _, Nat.zero_le _⟩) ?_
            refine wz_eq (tgt := 235) hx hb d_M_sumBits_73 (by decide) (fun e1_235 => ?_) (fun e1_235 => ?_)
            · refine K235 x36_12 x36_11 x36_10 x36_9 (hj.trans (by unfold f_M_sumBits_61v; first | with_reducible exact if_neg e1_235 | exact if_neg e1_235)) hf0 hf1 H locs ?_ ?_ hS ls (lv_sub hl [3, 4, 5, 6, 7, 8, 9, 10, 11, 12, 13, 14] rfl)
              · with_reducible exact hP
              · with_reducible exact hD
            · refine lv_aload_n hx hb d_M_sumBits_76 rfl (lv_at hl 13 rfl) ?_
              refine lv_bipush (v := 17) hx hb d_M_sumBits_77 (by decide) ?_
              refine lv_iload hx hb d_M_sumBits_79 (lv_at hl 8 rfl) ?_
              refine lv_iload hx hb d_M_sumBits_81 (lv_at hl 1 rfl) ?_
              refine rc_i (W.runV (As := [.int (17), .int (x14_8), .int (v55)]) (rest := []) ⟨hx, hb, hml, hown, hts⟩ (c_M_mayBe l dC dI ad cJ cZ c0 r0 w0 s0 17 x14_8 v55 (by decide)) (cwV 3 hts (gxV gx133 gx134 gx282 gx0 gx135) rfl rfl rfl (by decide +kernel) ⟨(Nat.le_of_ble_eq_true rfl), (Nat.le_of_ble_eq_true rfl)⟩) ⟨bln, va_recv hK hP (ci := 2) (q0 := 0) rfl rfl, fun U hU hW => ⟨rfl, by rw [hU]; exact hP, va_K.moved hW.alike hK⟩⟩ rfl rfl hl.1 rfl (lv_room (Nat.le_of_ble_eq_true rfl)) d_M_sumBits_83 ⟨Nat.zero_le _, Nat.zero_le _⟩) ?_
              refine wz_eq (tgt := 235) hx hb d_M_sumBits_86 (by decide) (fun e2_235 => ?_) (fun e2_235 => ?_)
              · refine K235 x36_12 x36_11 x36_10 x36_9 (hj.trans (by unfold f_M_sumBits_61v; first | with_reducible exact (if_pos e1_235).trans (if_neg e2_235) | exact (if_pos e1_235).trans (if_neg e2_235))) hf0 hf1 H locs ?_ ?_ hS ls (lv_sub hl [3, 4, 5, 6, 7, 8, 9, 10, 11, 12, 13, 14] rfl)
                · with_reducible exact hP
                · with_reducible exact hD
              · refine lv_iload hx hb d_M_sumBits_89 (lv_at hl 0 rfl) ?_
                refine lv_if_ne (tgt := 102) hx hb d_M_sumBits_91 (by decide) (fun e3_102 => ?_) (fun e3_102 => ?_)
                · refine lv_iload hx hb d_M_sumBits_102 (lv_at hl 9 rfl) ?_
                  refine wz_eq (tgt := 235) hx hb d_M_sumBits_104 (by decide) (fun e4_235 => ?_) (fun e4_235 => ?_)
                  · refine K235 x36_12 x36_11 x36_10 x36_9 (hj.trans (by unfold f_M_sumBits_61v; first | with_reducible exact (if_pos e1_235).trans ((if_pos e2_235).trans ((if_neg e3_102).trans (if_neg e4_235))) | exact (if_pos e1_235).trans ((if_pos e2_235).trans ((if_neg e3_102).trans (if_neg e4_235))))) hf0 hf1 H locs ?_ ?_ hS ls (lv_sub hl [3, 4, 5, 6, 7, 8, 9, 10, 11, 12, 13, 14] rfl)
                    · with_reducible exact hP
                    · with_reducible exact hD
                  · refine K107 v61 v55 v47 (hj.trans (by unfold f_M_sumBits_61v; first | with_reducible exact (if_pos e1_235).trans ((if_pos e2_235).trans ((if_neg e3_102).trans (if_pos e4_235))) | exact (if_pos e1_235).trans ((if_pos e2_235).trans ((if_neg e3_102).trans (if_pos e4_235))))) hf0 hf1 H locs ?_ ?_ hS ls (lv_sub hl [0, 1, 2, 3, 4, 5, 6, 7, 8, 9, 10, 11, 12, 13, 14] rfl)
                    · with_reducible exact hP
                    · with_reducible exact hD
                · refine lv_iload hx hb d_M_sumBits_94 (lv_at hl 10 rfl) ?_
                  refine wz_eq (tgt := 235) hx hb d_M_sumBits_96 (by decide) (fun e5_235 => ?_) (fun e5_235 => ?_)
                  · refine K235 x36_12 x36_11 x36_10 x36_9 (hj.trans (by unfold f_M_sumBits_61v; first | with_reducible exact (if_pos e1_235).trans ((if_pos e2_235).trans ((if_pos e3_102).trans (if_neg e5_235))) | exact (if_pos e1_235).trans ((if_pos e2_235).trans ((if_pos e3_102).trans (if_neg e5_235))))) hf0 hf1 H locs ?_ ?_ hS ls (lv_sub hl [3, 4, 5, 6, 7, 8, 9, 10, 11, 12, 13, 14] rfl)
                    · with_reducible exact hP
                    · with_reducible exact hD
                  · refine lv_goto (tgt := 107) hx hb d_M_sumBits_99 (by decide) ?_
                    refine K107 v61 v55 v47 (hj.trans (by unfold f_M_sumBits_61v; first | with_reducible exact (if_pos e1_235).trans ((if_pos e2_235).trans ((if_pos e3_102).trans (if_pos e5_235))) | exact (if_pos e1_235).trans ((if_pos e2_235).trans ((if_pos e3_102).trans (if_pos e5_235))))) hf0 hf1 H locs ?_ ?_ hS ls (lv_sub hl [0, 1, 2, 3, 4, 5, 6, 7, 8, 9, 10, 11, 12, 13, 14] rfl)
                    · with_reducible exact hP
                    · with_reducible exact hD
          have K55v : ∀ (v55 : Int32) (v47 : Int32) (hj : f_M_sumBits r0 p1 = f_M_sumBits_55v r0 p1 x14_8 x14_7 x14_6 x14_4 x14_2 x36_13 x36_12 x36_11 x36_10 x36_9 (fun y0 y1 y2 y3 y4 => f_M_sumBits_14 r0 p1 n14 y0 y1 y2 y3 y4) (fun y0 y1 y2 y3 y4 => f_M_sumBits_36 r0 p1 x14_8 x14_7 x14_6 x14_4 x14_2 (fun y0 y1 y2 y3 y4 => f_M_sumBits_14 r0 p1 n14 y0 y1 y2 y3 y4) n36 y0 y1 y2 y3 y4) v55 v47) (hf0 : ¬ 64 ≤ x14_8) (hf1 : ¬ 8 ≤ x36_13) (H : Heap) (locs : List Loc) (hP : va_P (dC, dI) classes (mW ad cJ cZ c0 r0 w0 s0) H) (hD : va_D A (mW ad cJ cZ c0 r0 w0 s0)) (hS : va_S A s.heap H locs) (ls : Array Slot) (hl : lv_has ls 19 [(15, .int (v55)), (14, .int (v47)), (13, .int (x36_13)), (12, .int (bI x36_12)), (11, .int (bI x36_11)), (10, .int (bI x36_10)), (9, .int (bI x36_9)), (8, .int (x14_8)), (7, .int (bI x14_7)), (6, .int (bI x14_6)), (4, .long (x14_4)), (2, .long (x14_2)), (0, .ref (ad 0)), (1, .int (bI p1))]), W p l e (headSpec w_M_sumBits ({ frames := 1, cells := 0, slots := 0, locals := 23 } : Room)).room s m ([.ref (ad 0), .int (bI p1)] : List Value).toArray below meth c H locs 0 0 (MQ below (va_Qv (fun _ : Unit => True) (mB (dC, dI) A (mW ad cJ cZ c0 (f_M_sumBits r0 p1) w0 s0)) A) ([.ref (ad 0), .int (bI p1)] : List Value).toArray s 0 0 A) (F0 m 57 ls []) := by
            intro v55 v47 hj hf0 hf1 H locs hP hD hS ls hl
            refine lv_iload hx hb d_M_sumBits_57 (lv_at hl 2 rfl) ?_
            refine lv_iconst (v := 2) hx hb d_M_sumBits_59 (by decide) ?_
            refine lv_ishr hx hb d_M_sumBits_60 ?_
            refine lv_topi (fun v61 ev61 => ?_)
            refine lv_istore (lv' := [(16, .int (v61)), (15, .int (v55)), (14, .int (v47)), (13, .int (x36_13)), (12, .int (bI x36_12)), (11, .int (bI x36_11)), (10, .int (bI x36_10)), (9, .int (bI x36_9)), (8, .int (x14_8)), (7, .int (bI x14_7)), (6, .int (bI x14_6)), (4, .long (x14_4)), (2, .long (x14_2)), (0, .ref (ad 0)), (1, .int (bI p1))]) hx hb d_M_sumBits_61 hl (by decide) rfl (fun ls hl => ?_)
            refine K61v v61 v55 v47 (Eq.trans (hj.trans rfl) (congrArg (fun v61 => f_M_sumBits_61v r0 p1 x14_8 x14_7 x14_6 x14_4 x14_2 x36_13 x36_12 x36_11 x36_10 x36_9 (fun y0 y1 y2 y3 y4 => f_M_sumBits_14 r0 p1 n14 y0 y1 y2 y3 y4) (fun y0 y1 y2 y3 y4 => f_M_sumBits_36 r0 p1 x14_8 x14_7 x14_6 x14_4 x14_2 (fun y0 y1 y2 y3 y4 => f_M_sumBits_14 r0 p1 n14 y0 y1 y2 y3 y4) n36 y0 y1 y2 y3 y4) v61 v55 v47) ev61.symm)) hf0 hf1 H locs ?_ ?_ hS ls (lv_sub hl [0, 1, 2, 3, 4, 5, 6, 7, 8, 9, 10, 11, 12, 13, 14] rfl)
            · with_reducible exact hP
            · with_reducible exact hD
          have K47v : ∀ (v47 : Int32) (hj : f_M_sumBits r0 p1 = f_M_sumBits_47v r0 p1 x14_8 x14_7 x14_6 x14_4 x14_2 x36_13 x36_12 x36_11 x36_10 x36_9 (fun y0 y1 y2 y3 y4 => f_M_sumBits_14 r0 p1 n14 y0 y1 y2 y3 y4) (fun y0 y1 y2 y3 y4 => f_M_sumBits_36 r0 p1 x14_8 x14_7 x14_6 x14_4 x14_2 (fun y0 y1 y2 y3 y4 => f_M_sumBits_14 r0 p1 n14 y0 y1 y2 y3 y4) n36 y0 y1 y2 y3 y4) v47) (hf0 : ¬ 64 ≤ x14_8) (hf1 : ¬ 8 ≤ x36_13) (H : Heap) (locs : List Loc) (hP : va_P (dC, dI) classes (mW ad cJ cZ c0 r0 w0 s0) H) (hD : va_D A (mW ad cJ cZ c0 r0 w0 s0)) (hS : va_S A s.heap H locs) (ls : Array Slot) (hl : lv_has ls 19 [(14, .int (v47)), (13, .int (x36_13)), (12, .int (bI x36_12)), (11, .int (bI x36_11)), (10, .int (bI x36_10)), (9, .int (bI x36_9)), (8, .int (x14_8)), (7, .int (bI x14_7)), (6, .int (bI x14_6)), (4, .long (x14_4)), (2, .long (x14_2)), (0, .ref (ad 0)), (1, .int (bI p1))]), W p l e (headSpec w_M_sumBits ({ frames := 1, cells := 0, slots := 0, locals := 23 } : Room)).room s m ([.ref (ad 0), .int (bI p1)] : List Value).toArray below meth c H locs 0 0 (MQ below (va_Qv (fun _ : Unit => True) (mB (dC, dI) A (mW ad cJ cZ c0 (f_M_sumBits r0 p1) w0 s0)) A) ([.ref (ad 0), .int (bI p1)] : List Value).toArray s 0 0 A) (F0 m 49 ls []) := by
            intro v47 hj hf0 hf1 H locs hP hD hS ls hl
            refine lv_iload hx hb d_M_sumBits_49 (lv_at hl 1 rfl) ?_
            refine lv_iconst (v := 1) hx hb d_M_sumBits_51 (by decide) ?_
            refine lv_ishr hx hb d_M_sumBits_52 ?_
            refine lv_iconst (v := 1) hx hb d_M_sumBits_53 (by decide) ?_
            refine lv_iand hx hb d_M_sumBits_54 ?_
            refine lv_topi (fun v55 ev55 => ?_)
            refine lv_istore (lv' := [(15, .int (v55)), (14, .int (v47)), (13, .int (x36_13)), (12, .int (bI x36_12)), (11, .int (bI x36_11)), (10, .int (bI x36_10)), (9, .int (bI x36_9)), (8, .int (x14_8)), (7, .int (bI x14_7)), (6, .int (bI x14_6)), (4, .long (x14_4)), (2, .long (x14_2)), (0, .ref (ad 0)), (1, .int (bI p1))]) hx hb d_M_sumBits_55 hl (by decide) rfl (fun ls hl => ?_)
            refine K55v v55 v47 (Eq.trans (hj.trans rfl) (congrArg (fun v55 => f_M_sumBits_55v r0 p1 x14_8 x14_7 x14_6 x14_4 x14_2 x36_13 x36_12 x36_11 x36_10 x36_9 (fun y0 y1 y2 y3 y4 => f_M_sumBits_14 r0 p1 n14 y0 y1 y2 y3 y4) (fun y0 y1 y2 y3 y4 => f_M_sumBits_36 r0 p1 x14_8 x14_7 x14_6 x14_4 x14_2 (fun y0 y1 y2 y3 y4 => f_M_sumBits_14 r0 p1 n14 y0 y1 y2 y3 y4) n36 y0 y1 y2 y3 y4) v55 v47) ev55.symm)) hf0 hf1 H locs ?_ ?_ hS ls (lv_sub hl [0, 1, 2, 3, 4, 5, 6, 7, 8, 9, 10, 11, 12, 13] rfl)
            · with_reducible exact hP
            · with_reducible exact hD
          refine lv_iload hx hb d_M_sumBits_36 (lv_at hl 0 rfl) ?_
          refine lv_bipush (v := 8) hx hb d_M_sumBits_38 (by decide) ?_
          refine lv_icmp_ge (tgt := 241) hx hb d_M_sumBits_40 (by decide) (fun e1_241 => ?_) (fun e1_241 => ?_)
          · refine lv_iload hx hb d_M_sumBits_241 (lv_at hl 4 rfl) ?_
            refine wz_eq (tgt := 261) hx hb d_M_sumBits_243 (by decide) (fun e2_261 => ?_) (fun e2_261 => ?_)
            · refine K261 x36_12 x36_11 x36_10 x36_9 (hj.trans ((f_M_sumBits_36.eq_2 r0 p1 x14_8 x14_7 x14_6 x14_4 x14_2 (fun y0 y1 y2 y3 y4 => f_M_sumBits_14 r0 p1 n14 y0 y1 y2 y3 y4) _ _ _ _ _ _).trans (by first | with_reducible exact (if_pos e1_241).trans (if_neg e2_261) | exact (if_pos e1_241).trans (if_neg e2_261)))) hf0 H locs ?_ ?_ hS ls (lv_sub hl [1, 2, 3, 4, 5, 8, 9, 10, 11] rfl)
              · with_reducible exact hP
              · with_reducible exact hD
            · refine lv_iload hx hb d_M_sumBits_246 (lv_at hl 3 rfl) ?_
              refine wz_eq (tgt := 261) hx hb d_M_sumBits_248 (by decide) (fun e3_261 => ?_) (fun e3_261 => ?_)
              · refine K261 x36_12 x36_11 x36_10 x36_9 (hj.trans ((f_M_sumBits_36.eq_2 r0 p1 x14_8 x14_7 x14_6 x14_4 x14_2 (fun y0 y1 y2 y3 y4 => f_M_sumBits_14 r0 p1 n14 y0 y1 y2 y3 y4) _ _ _ _ _ _).trans (by first | with_reducible exact (if_pos e1_241).trans ((if_pos e2_261).trans (if_neg e3_261)) | exact (if_pos e1_241).trans ((if_pos e2_261).trans (if_neg e3_261))))) hf0 H locs ?_ ?_ hS ls (lv_sub hl [1, 2, 3, 4, 5, 8, 9, 10, 11] rfl)
                · with_reducible exact hP
                · with_reducible exact hD
              · refine lv_lload hx hb d_M_sumBits_251 (lv_at hl 8 rfl) ?_
                refine lv_lconst (v := 1) hx hb d_M_sumBits_253 (by decide) ?_
                refine lv_iload hx hb d_M_sumBits_254 (lv_at hl 5 rfl) ?_
                refine lv_lshl (v := (1 : Int64) <<< (x14_8.toInt64 &&& 63)) hx hb d_M_sumBits_256 rfl ?_
                refine lv_lor hx hb d_M_sumBits_257 ?_
                refine lv_goto (tgt := 263) hx hb d_M_sumBits_258 (by decide) ?_
                refine K263 x36_12 x36_11 x36_10 x36_9 (x14_4 ||| ((1 : Int64) <<< (x14_8.toInt64 &&& 63))) (hj.trans ((f_M_sumBits_36.eq_2 r0 p1 x14_8 x14_7 x14_6 x14_4 x14_2 (fun y0 y1 y2 y3 y4 => f_M_sumBits_14 r0 p1 n14 y0 y1 y2 y3 y4) _ _ _ _ _ _).trans (by first | with_reducible exact (if_pos e1_241).trans ((if_pos e2_261).trans (if_pos e3_261)) | exact (if_pos e1_241).trans ((if_pos e2_261).trans (if_pos e3_261))))) hf0 H locs ?_ ?_ hS ls (lv_sub hl [1, 2, 3, 4, 5, 9, 10, 11] rfl)
                · with_reducible exact hP
                · with_reducible exact hD
          · refine lv_iload hx hb d_M_sumBits_43 (lv_at hl 0 rfl) ?_
            refine lv_iconst (v := 1) hx hb d_M_sumBits_45 (by decide) ?_
            refine lv_iand hx hb d_M_sumBits_46 ?_
            refine lv_topi (fun v47 ev47 => ?_)
            refine lv_istore (lv' := [(14, .int (v47)), (13, .int (x36_13)), (12, .int (bI x36_12)), (11, .int (bI x36_11)), (10, .int (bI x36_10)), (9, .int (bI x36_9)), (8, .int (x14_8)), (7, .int (bI x14_7)), (6, .int (bI x14_6)), (4, .long (x14_4)), (2, .long (x14_2)), (0, .ref (ad 0)), (1, .int (bI p1))]) hx hb d_M_sumBits_47 hl (by decide) rfl (fun ls hl => ?_)
            refine K47v v47 (Eq.trans (hj.trans ((f_M_sumBits_36.eq_2 r0 p1 x14_8 x14_7 x14_6 x14_4 x14_2 (fun y0 y1 y2 y3 y4 => f_M_sumBits_14 r0 p1 n14 y0 y1 y2 y3 y4) _ _ _ _ _ _).trans (by first | with_reducible exact if_neg e1_241 | exact if_neg e1_241))) (congrArg (fun v47 => f_M_sumBits_47v r0 p1 x14_8 x14_7 x14_6 x14_4 x14_2 x36_13 x36_12 x36_11 x36_10 x36_9 (fun y0 y1 y2 y3 y4 => f_M_sumBits_14 r0 p1 n14 y0 y1 y2 y3 y4) (fun y0 y1 y2 y3 y4 => f_M_sumBits_36 r0 p1 x14_8 x14_7 x14_6 x14_4 x14_2 (fun y0 y1 y2 y3 y4 => f_M_sumBits_14 r0 p1 n14 y0 y1 y2 y3 y4) n36 y0 y1 y2 y3 y4) v47) ev47.symm)) hf0 e1_241 H locs ?_ ?_ hS ls (lv_sub hl [0, 1, 2, 3, 4, 5, 6, 7, 8, 9, 10, 11, 12] rfl)
            · with_reducible exact hP
            · with_reducible exact hD
      refine lv_iload hx hb d_M_sumBits_14 (lv_at hl 0 rfl) ?_
      refine lv_bipush (v := 64) hx hb d_M_sumBits_16 (by decide) ?_
      refine lv_icmp_ge (tgt := 300) hx hb d_M_sumBits_18 (by decide) (fun e1_300 => ?_) (fun e1_300 => ?_)
      · refine lv_aload_n hx hb d_M_sumBits_300 rfl (lv_at hl 5 rfl) ?_
        refine va_get (D := (dC, dI)) (ci := 2) (v := .ref (ad 1)) (C := R_M) (T := F_M) (N := 10) hx hb hts (fun w h => List.mem_cons_of_mem _ (uw_M w h)) hown hK hP 0 rfl rfl 1 (by decide) (hG (.fieldLink R_M 7 "ValueSieveModel" "bits" "[J") gx10) (fun _ h9 => h9) rfl d_M_sumBits_301 ?_
        refine lv_bipush (v := 18) hx hb d_M_sumBits_304 (by decide) ?_
        refine lv_lload_n hx hb d_M_sumBits_306 rfl (lv_at hl 4 rfl) ?_
        refine ms_1 (P := 18) (x := x14_2) hx hb hK hP hD hS rfl (by decide) d_M_sumBits_307 (fun H locs hP hD hS => ?_)
        obtain ⟨r307n, er307n⟩ : ∃ z, z = u1 r0 18 x14_2 := ⟨_, rfl⟩
        rw [← er307n] at hP hD
        refine K307u x14_4 r307n (Eq.trans (hj.trans ((f_M_sumBits_14.eq_2 r0 p1 _ _ _ _ _ _).trans (by first | with_reducible exact if_pos e1_300 | exact if_pos e1_300))) (congrArg (fun r307n => f_M_sumBits_307u r0 p1 x14_4 r307n) er307n.symm)) H locs ?_ ?_ hS ls (lv_sub hl [3, 5] rfl)
        · with_reducible exact hP
        · with_reducible exact hD
      · refine lv_iconst (v := 0) hx hb d_M_sumBits_21 (by decide) ?_
        refine lv_istore (lv' := [(9, .int (bI false)), (8, .int (x14_8)), (7, .int (bI x14_7)), (6, .int (bI x14_6)), (4, .long (x14_4)), (2, .long (x14_2)), (0, .ref (ad 0)), (1, .int (bI p1))]) hx hb d_M_sumBits_22 hl (by decide) rfl (fun ls hl => ?_)
        refine lv_iconst (v := 0) hx hb d_M_sumBits_24 (by decide) ?_
        refine lv_istore (lv' := [(10, .int (bI false)), (9, .int (bI false)), (8, .int (x14_8)), (7, .int (bI x14_7)), (6, .int (bI x14_6)), (4, .long (x14_4)), (2, .long (x14_2)), (0, .ref (ad 0)), (1, .int (bI p1))]) hx hb d_M_sumBits_25 hl (by decide) rfl (fun ls hl => ?_)
        refine lv_iconst (v := 0) hx hb d_M_sumBits_27 (by decide) ?_
        refine lv_istore (lv' := [(11, .int (bI false)), (10, .int (bI false)), (9, .int (bI false)), (8, .int (x14_8)), (7, .int (bI x14_7)), (6, .int (bI x14_6)), (4, .long (x14_4)), (2, .long (x14_2)), (0, .ref (ad 0)), (1, .int (bI p1))]) hx hb d_M_sumBits_28 hl (by decide) rfl (fun ls hl => ?_)
        refine lv_iconst (v := 0) hx hb d_M_sumBits_30 (by decide) ?_
        refine lv_istore (lv' := [(12, .int (bI false)), (11, .int (bI false)), (10, .int (bI false)), (9, .int (bI false)), (8, .int (x14_8)), (7, .int (bI x14_7)), (6, .int (bI x14_6)), (4, .long (x14_4)), (2, .long (x14_2)), (0, .ref (ad 0)), (1, .int (bI p1))]) hx hb d_M_sumBits_31 hl (by decide) rfl (fun ls hl => ?_)
        refine lv_iconst (v := 0) hx hb d_M_sumBits_33 (by decide) ?_
        refine lv_istore (lv' := [(13, .int (0)), (12, .int (bI false)), (11, .int (bI false)), (10, .int (bI false)), (9, .int (bI false)), (8, .int (x14_8)), (7, .int (bI x14_7)), (6, .int (bI x14_6)), (4, .long (x14_4)), (2, .long (x14_2)), (0, .ref (ad 0)), (1, .int (bI p1))]) hx hb d_M_sumBits_34 hl (by decide) rfl (fun ls hl => ?_)
        refine K36 9 0 false false false false (by decide) (hj.trans ((f_M_sumBits_14.eq_2 r0 p1 _ _ _ _ _ _).trans (by first | with_reducible exact if_neg e1_300 | exact if_neg e1_300))) e1_300 H locs ?_ ?_ hS ls (lv_sub hl [0, 1, 2, 3, 4, 5, 6, 7, 8, 9, 10, 11] rfl)
        · with_reducible exact hP
        · with_reducible exact hD
  refine lv_lconst (v := 0) hx hb d_M_sumBits_0 (by decide) ?_
  refine lv_lstore_n (lv' := [(2, .long (0)), (0, .ref (ad 0)), (1, .int (bI p1))]) hx hb d_M_sumBits_1 rfl hl (by decide) rfl (fun ls hl => ?_)
  refine lv_lconst (v := 0) hx hb d_M_sumBits_2 (by decide) ?_
  refine lv_lstore (lv' := [(4, .long (0)), (2, .long (0)), (0, .ref (ad 0)), (1, .int (bI p1))]) hx hb d_M_sumBits_3 hl (by decide) rfl (fun ls hl => ?_)
  refine lv_iconst (v := 1) hx hb d_M_sumBits_5 (by decide) ?_
  refine lv_istore (lv' := [(6, .int (bI true)), (4, .long (0)), (2, .long (0)), (0, .ref (ad 0)), (1, .int (bI p1))]) hx hb d_M_sumBits_6 hl (by decide) rfl (fun ls hl => ?_)
  refine lv_iconst (v := 0) hx hb d_M_sumBits_8 (by decide) ?_
  refine lv_istore (lv' := [(7, .int (bI false)), (6, .int (bI true)), (4, .long (0)), (2, .long (0)), (0, .ref (ad 0)), (1, .int (bI p1))]) hx hb d_M_sumBits_9 hl (by decide) rfl (fun ls hl => ?_)
  refine lv_iconst (v := 0) hx hb d_M_sumBits_11 (by decide) ?_
  refine lv_istore (lv' := [(8, .int (0)), (7, .int (bI false)), (6, .int (bI true)), (4, .long (0)), (2, .long (0)), (0, .ref (ad 0)), (1, .int (bI p1))]) hx hb d_M_sumBits_12 hl (by decide) rfl (fun ls hl => ?_)
  refine K14 65 0 false true 0 0 (by decide) (rfl) s.heap [] ?_ ?_ hS ls (lv_sub hl [0, 1, 2, 3, 4, 5, 6] rfl)
  · with_reducible exact hP
  · with_reducible exact hD
-- add
theorem d_M_add_0 : decode b_M_add 0 = .ok (.aload_n 0, 1) := by decide +kernel
theorem d_M_add_1 : decode b_M_add 1 = .ok (.iconst 0, 1) := by decide +kernel
theorem d_M_add_2 : decode b_M_add 2 = .ok (.invokevirtual 139, 3) := by decide +kernel
theorem d_M_add_5 : decode b_M_add 5 = .ok (.aload_n 0, 1) := by decide +kernel
theorem d_M_add_6 : decode b_M_add 6 = .ok (.getfield 16, 3) := by decide +kernel
theorem d_M_add_9 : decode b_M_add 9 = .ok (.bipush 16, 2) := by decide +kernel
theorem d_M_add_11 : decode b_M_add 11 = .ok (.laload, 1) := by decide +kernel
theorem d_M_add_12 : decode b_M_add 12 = .ok (.aload_n 0, 1) := by decide +kernel
theorem d_M_add_13 : decode b_M_add 13 = .ok (.getfield 16, 3) := by decide +kernel
theorem d_M_add_16 : decode b_M_add 16 = .ok (.bipush 17, 2) := by decide +kernel
theorem d_M_add_18 : decode b_M_add 18 = .ok (.laload, 1) := by decide +kernel
theorem d_M_add_19 : decode b_M_add 19 = .ok (.ladd, 1) := by decide +kernel
theorem d_M_add_20 : decode b_M_add 20 = .ok (.aload_n 0, 1) := by decide +kernel
theorem d_M_add_21 : decode b_M_add 21 = .ok (.getfield 16, 3) := by decide +kernel
theorem d_M_add_24 : decode b_M_add 24 = .ok (.bipush 16, 2) := by decide +kernel
theorem d_M_add_26 : decode b_M_add 26 = .ok (.laload, 1) := by decide +kernel
theorem d_M_add_27 : decode b_M_add 27 = .ok (.invokestatic 39, 3) := by decide +kernel
theorem d_M_add_30 : decode b_M_add 30 = .ok (.istore_n 1, 1) := by decide +kernel
theorem d_M_add_31 : decode b_M_add 31 = .ok (.aload_n 0, 1) := by decide +kernel
theorem d_M_add_32 : decode b_M_add 32 = .ok (.getfield 19, 3) := by decide +kernel
theorem d_M_add_35 : decode b_M_add 35 = .ok (.bipush 16, 2) := by decide +kernel
theorem d_M_add_37 : decode b_M_add 37 = .ok (.laload, 1) := by decide +kernel
theorem d_M_add_38 : decode b_M_add 38 = .ok (.aload_n 0, 1) := by decide +kernel
theorem d_M_add_39 : decode b_M_add 39 = .ok (.getfield 19, 3) := by decide +kernel
theorem d_M_add_42 : decode b_M_add 42 = .ok (.bipush 17, 2) := by decide +kernel
theorem d_M_add_44 : decode b_M_add 44 = .ok (.laload, 1) := by decide +kernel
theorem d_M_add_45 : decode b_M_add 45 = .ok (.ladd, 1) := by decide +kernel
theorem d_M_add_46 : decode b_M_add 46 = .ok (.aload_n 0, 1) := by decide +kernel
theorem d_M_add_47 : decode b_M_add 47 = .ok (.getfield 19, 3) := by decide +kernel
theorem d_M_add_50 : decode b_M_add 50 = .ok (.bipush 16, 2) := by decide +kernel
theorem d_M_add_52 : decode b_M_add 52 = .ok (.laload, 1) := by decide +kernel
theorem d_M_add_53 : decode b_M_add 53 = .ok (.invokestatic 39, 3) := by decide +kernel
theorem d_M_add_56 : decode b_M_add 56 = .ok (.istore_n 2, 1) := by decide +kernel
theorem d_M_add_57 : decode b_M_add 57 = .ok (.iload_n 1, 1) := by decide +kernel
theorem d_M_add_58 : decode b_M_add 58 = .ok (.iload_n 2, 1) := by decide +kernel
theorem d_M_add_59 : decode b_M_add 59 = .ok (.if_icmp .ne 47, 3) := by decide +kernel
theorem d_M_add_62 : decode b_M_add 62 = .ok (.aload_n 0, 1) := by decide +kernel
theorem d_M_add_63 : decode b_M_add 63 = .ok (.getfield 16, 3) := by decide +kernel
theorem d_M_add_66 : decode b_M_add 66 = .ok (.bipush 18, 2) := by decide +kernel
theorem d_M_add_68 : decode b_M_add 68 = .ok (.aload_n 0, 1) := by decide +kernel
theorem d_M_add_69 : decode b_M_add 69 = .ok (.getfield 16, 3) := by decide +kernel
theorem d_M_add_72 : decode b_M_add 72 = .ok (.bipush 16, 2) := by decide +kernel
theorem d_M_add_74 : decode b_M_add 74 = .ok (.laload, 1) := by decide +kernel
theorem d_M_add_75 : decode b_M_add 75 = .ok (.aload_n 0, 1) := by decide +kernel
theorem d_M_add_76 : decode b_M_add 76 = .ok (.getfield 16, 3) := by decide +kernel
theorem d_M_add_79 : decode b_M_add 79 = .ok (.bipush 17, 2) := by decide +kernel
theorem d_M_add_81 : decode b_M_add 81 = .ok (.laload, 1) := by decide +kernel
theorem d_M_add_82 : decode b_M_add 82 = .ok (.ladd, 1) := by decide +kernel
theorem d_M_add_83 : decode b_M_add 83 = .ok (.lastore, 1) := by decide +kernel
theorem d_M_add_84 : decode b_M_add 84 = .ok (.aload_n 0, 1) := by decide +kernel
theorem d_M_add_85 : decode b_M_add 85 = .ok (.getfield 19, 3) := by decide +kernel
theorem d_M_add_88 : decode b_M_add 88 = .ok (.bipush 18, 2) := by decide +kernel
theorem d_M_add_90 : decode b_M_add 90 = .ok (.aload_n 0, 1) := by decide +kernel
theorem d_M_add_91 : decode b_M_add 91 = .ok (.getfield 19, 3) := by decide +kernel
theorem d_M_add_94 : decode b_M_add 94 = .ok (.bipush 16, 2) := by decide +kernel
theorem d_M_add_96 : decode b_M_add 96 = .ok (.laload, 1) := by decide +kernel
theorem d_M_add_97 : decode b_M_add 97 = .ok (.aload_n 0, 1) := by decide +kernel
theorem d_M_add_98 : decode b_M_add 98 = .ok (.getfield 19, 3) := by decide +kernel
theorem d_M_add_101 : decode b_M_add 101 = .ok (.bipush 17, 2) := by decide +kernel
theorem d_M_add_103 : decode b_M_add 103 = .ok (.laload, 1) := by decide +kernel
theorem d_M_add_104 : decode b_M_add 104 = .ok (.ladd, 1) := by decide +kernel
theorem d_M_add_105 : decode b_M_add 105 = .ok (.lastore, 1) := by decide +kernel
theorem d_M_add_106 : decode b_M_add 106 = .ok (.aload_n 0, 1) := by decide +kernel
theorem d_M_add_107 : decode b_M_add 107 = .ok (.getfield 22, 3) := by decide +kernel
theorem d_M_add_110 : decode b_M_add 110 = .ok (.bipush 16, 2) := by decide +kernel
theorem d_M_add_112 : decode b_M_add 112 = .ok (.laload, 1) := by decide +kernel
theorem d_M_add_113 : decode b_M_add 113 = .ok (.aload_n 0, 1) := by decide +kernel
theorem d_M_add_114 : decode b_M_add 114 = .ok (.getfield 22, 3) := by decide +kernel
theorem d_M_add_117 : decode b_M_add 117 = .ok (.bipush 17, 2) := by decide +kernel
theorem d_M_add_119 : decode b_M_add 119 = .ok (.laload, 1) := by decide +kernel
theorem d_M_add_120 : decode b_M_add 120 = .ok (.invokestatic 143, 3) := by decide +kernel
theorem d_M_add_123 : decode b_M_add 123 = .ok (.ifCond .eq 67, 3) := by decide +kernel
theorem d_M_add_126 : decode b_M_add 126 = .ok (.aload_n 0, 1) := by decide +kernel
theorem d_M_add_127 : decode b_M_add 127 = .ok (.getfield 25, 3) := by decide +kernel
theorem d_M_add_130 : decode b_M_add 130 = .ok (.bipush 16, 2) := by decide +kernel
theorem d_M_add_132 : decode b_M_add 132 = .ok (.laload, 1) := by decide +kernel
theorem d_M_add_133 : decode b_M_add 133 = .ok (.aload_n 0, 1) := by decide +kernel
theorem d_M_add_134 : decode b_M_add 134 = .ok (.getfield 25, 3) := by decide +kernel
theorem d_M_add_137 : decode b_M_add 137 = .ok (.bipush 17, 2) := by decide +kernel
theorem d_M_add_139 : decode b_M_add 139 = .ok (.laload, 1) := by decide +kernel
theorem d_M_add_140 : decode b_M_add 140 = .ok (.invokestatic 143, 3) := by decide +kernel
theorem d_M_add_143 : decode b_M_add 143 = .ok (.ifCond .eq 47, 3) := by decide +kernel
theorem d_M_add_146 : decode b_M_add 146 = .ok (.aload_n 0, 1) := by decide +kernel
theorem d_M_add_147 : decode b_M_add 147 = .ok (.getfield 22, 3) := by decide +kernel
theorem d_M_add_150 : decode b_M_add 150 = .ok (.bipush 18, 2) := by decide +kernel
theorem d_M_add_152 : decode b_M_add 152 = .ok (.aload_n 0, 1) := by decide +kernel
theorem d_M_add_153 : decode b_M_add 153 = .ok (.getfield 22, 3) := by decide +kernel
theorem d_M_add_156 : decode b_M_add 156 = .ok (.bipush 16, 2) := by decide +kernel
theorem d_M_add_158 : decode b_M_add 158 = .ok (.laload, 1) := by decide +kernel
theorem d_M_add_159 : decode b_M_add 159 = .ok (.aload_n 0, 1) := by decide +kernel
theorem d_M_add_160 : decode b_M_add 160 = .ok (.getfield 22, 3) := by decide +kernel
theorem d_M_add_163 : decode b_M_add 163 = .ok (.bipush 17, 2) := by decide +kernel
theorem d_M_add_165 : decode b_M_add 165 = .ok (.laload, 1) := by decide +kernel
theorem d_M_add_166 : decode b_M_add 166 = .ok (.ladd, 1) := by decide +kernel
theorem d_M_add_167 : decode b_M_add 167 = .ok (.lastore, 1) := by decide +kernel
theorem d_M_add_168 : decode b_M_add 168 = .ok (.aload_n 0, 1) := by decide +kernel
theorem d_M_add_169 : decode b_M_add 169 = .ok (.getfield 25, 3) := by decide +kernel
theorem d_M_add_172 : decode b_M_add 172 = .ok (.bipush 18, 2) := by decide +kernel
theorem d_M_add_174 : decode b_M_add 174 = .ok (.aload_n 0, 1) := by decide +kernel
theorem d_M_add_175 : decode b_M_add 175 = .ok (.getfield 25, 3) := by decide +kernel
theorem d_M_add_178 : decode b_M_add 178 = .ok (.bipush 16, 2) := by decide +kernel
theorem d_M_add_180 : decode b_M_add 180 = .ok (.laload, 1) := by decide +kernel
theorem d_M_add_181 : decode b_M_add 181 = .ok (.aload_n 0, 1) := by decide +kernel
theorem d_M_add_182 : decode b_M_add 182 = .ok (.getfield 25, 3) := by decide +kernel
theorem d_M_add_185 : decode b_M_add 185 = .ok (.bipush 17, 2) := by decide +kernel
theorem d_M_add_187 : decode b_M_add 187 = .ok (.laload, 1) := by decide +kernel
theorem d_M_add_188 : decode b_M_add 188 = .ok (.ladd, 1) := by decide +kernel
theorem d_M_add_189 : decode b_M_add 189 = .ok (.lastore, 1) := by decide +kernel
theorem d_M_add_190 : decode b_M_add 190 = .ok (.return_, 1) := by decide +kernel
def f_M_add_189u (r0 : (Nat → VV)) (r189n : (Nat → VV)) : (Nat → VV) := r189n
def f_M_add_167u (r0 : (Nat → VV)) (r167n : (Nat → VV)) : (Nat → VV) := f_M_add_189u r0 (u6 r167n 18 (((r167n 16).2.2.2.2.2.1) + ((r167n 17).2.2.2.2.2.1)))
def f_M_add_106 (r0 : (Nat → VV)) (r106 : (Nat → VV)) : (Nat → VV) := (if (f_M_sumIsLong ((r106 16).2.2.2.2.1) ((r106 17).2.2.2.2.1)) = true then (if (f_M_sumIsLong ((r106 16).2.2.2.2.2.1) ((r106 17).2.2.2.2.2.1)) = true then f_M_add_167u r0 (u5 r106 18 (((r106 16).2.2.2.2.1) + ((r106 17).2.2.2.2.1))) else r106) else r106)
def f_M_add_105u (r0 : (Nat → VV)) (r105n : (Nat → VV)) : (Nat → VV) := f_M_add_106 r0 r105n
def f_M_add_83u (r0 : (Nat → VV)) (r83n : (Nat → VV)) : (Nat → VV) := f_M_add_105u r0 (u4 r83n 18 (((r83n 16).2.2.2.1) + ((r83n 17).2.2.2.1)))
def f_M_add_56v (r0 : (Nat → VV)) (v56 : Bool) (v30 : Bool) (g2 : (Nat → VV)) : (Nat → VV) := (if (bI v30) = (bI v56) then f_M_add_83u r0 (u3 g2 18 (((g2 16).2.2.1) + ((g2 17).2.2.1))) else f_M_add_106 r0 g2)
def f_M_add_30v (r0 : (Nat → VV)) (v30 : Bool) (g2 : (Nat → VV)) : (Nat → VV) := f_M_add_56v r0 (f_M_below (((g2 16).2.2.2.1) + ((g2 17).2.2.2.1)) ((g2 16).2.2.2.1)) v30 g2
def f_M_add_2g (r0 : (Nat → VV)) (g2 : (Nat → VV)) : (Nat → VV) := f_M_add_30v r0 (f_M_below (((g2 16).2.2.1) + ((g2 17).2.2.1)) ((g2 16).2.2.1)) g2
def f_M_add (r0 : (Nat → VV)) : (Nat → VV) := f_M_add_2g r0 (f_M_sumBits r0 false)
set_option maxRecDepth 100000 in
set_option maxHeartbeats 4000000 in
theorem c_M_add (l : Launch) (dC : Nat → ClassId) (dI : Nat → Nat → Nat) (ad : Nat → Nat) (cJ cZ : ClassId) (sz : Nat) (c0 : Int32) (r0 : (Nat → VV)) (w0 : (Nat → Int64)) (s0 : Int32) : Met l y_M_add w_M_add ({ frames := 2, cells := 0, slots := 0, locals := 61 } : Room) (va_Pc [.ref (ad 0)] (nP (dC, dI) (mT cJ cZ) (mW ad cJ cZ c0 r0 w0 s0) sz)) (va_Qv (fun _ : Unit => True) (mB (dC, dI) (va_A (mW ad cJ cZ c0 r0 w0 s0) sz) (mW ad cJ cZ c0 (f_M_add r0) w0 s0)) (va_A (mW ad cJ cZ c0 r0 w0 s0) sz)) 0 0 (va_A (mW ad cJ cZ c0 r0 w0 s0) sz) := by
  refine Met.ofW (cc := b_M_add) (maxL := 3) (ret := none) (by decide) rfl ?_
  intro p e s m args below meth c s₁ B hml hv
  obtain ⟨rfl, hsz, hP, hK, hD0⟩ := hv
  have hx := B.exec
  have hb := B.bytes
  have hr := B.returns
  have hts := atoms_spec (ws := w_M_add) B.pre
  have hG : ∀ w ∈ gM, w.before _ s = true := fun w h => hts w (List.mem_cons_of_mem _ h)
  have hown : s.vm.findClass R_M = some m.cls := findClass_of_methodNamed B.named
  have hlocks := B.notSynchronized
  subst hsz
  have hD := hD0.self (sz := s.heap.size)
  generalize hAe : va_A (mW ad cJ cZ c0 r0 w0 s0) s.heap.size = A at hD ⊢
  have hA : ∀ q : Nat, s.heap.size ≤ q → A q := fun q h => by rw [← hAe]; exact Or.inr h
  have hS : va_S A s.heap s.heap [] := va_S.rf
  have hl := lv_entry ([.ref (ad 0)]) (n := 3) (Nat.le_of_ble_eq_true rfl)
  rw [lg_entry_eq]
  generalize (lg_sl ([.ref (ad 0)]) ++ List.replicate (3 - (lg_sl ([.ref (ad 0)])).length) Slot.unset).toArray = ls at hl ⊢
  have hl : lv_has ls 3 [(0, .ref (ad 0))] := hl
  have K189u : ∀ (r189n : (Nat → VV)) (hj : f_M_add r0 = f_M_add_189u r0 r189n) (H : Heap) (locs : List Loc) (hP : va_P (dC, dI) classes (mW ad cJ cZ c0 r189n w0 s0) H) (hD : va_D A (mW ad cJ cZ c0 r189n w0 s0)) (hS : va_S A s.heap H locs) (ls : Array Slot) (hl : lv_has ls 3 []), W p l e (headSpec w_M_add ({ frames := 2, cells := 0, slots := 0, locals := 61 } : Room)).room s m ([.ref (ad 0)] : List Value).toArray below meth c H locs 0 0 (MQ below (va_Qv (fun _ : Unit => True) (mB (dC, dI) A (mW ad cJ cZ c0 (f_M_add r0) w0 s0)) A) ([.ref (ad 0)] : List Value).toArray s 0 0 A) (F0 m 190 ls []) := by
    intro r189n hj H locs hP hD hS ls hl
    have fe : f_M_add r0 = r189n := hj.trans rfl
    exact W.vret hx hb hr (fun t ht hW => ⟨⟨(), rfl, trivial, by rw [ht, fe]; exact hP, by rw [fe]; exact hD⟩, hS.F ht⟩) hS.2.2 d_M_add_190
  have K167u : ∀ (r167n : (Nat → VV)) (hj : f_M_add r0 = f_M_add_167u r0 r167n) (H : Heap) (locs : List Loc) (hP : va_P (dC, dI) classes (mW ad cJ cZ c0 r167n w0 s0) H) (hD : va_D A (mW ad cJ cZ c0 r167n w0 s0)) (hS : va_S A s.heap H locs) (ls : Array Slot) (hl : lv_has ls 3 [(0, .ref (ad 0))]), W p l e (headSpec w_M_add ({ frames := 2, cells := 0, slots := 0, locals := 61 } : Room)).room s m ([.ref (ad 0)] : List Value).toArray below meth c H locs 0 0 (MQ below (va_Qv (fun _ : Unit => True) (mB (dC, dI) A (mW ad cJ cZ c0 (f_M_add r0) w0 s0)) A) ([.ref (ad 0)] : List Value).toArray s 0 0 A) (F0 m 168 ls []) := by
    intro r167n hj H locs hP hD hS ls hl
    refine lv_aload_n hx hb d_M_add_168 rfl (lv_at hl 0 rfl) ?_
    refine va_get (D := (dC, dI)) (ci := 2) (v := .ref (ad 6)) (C := R_M) (T := F_M) (N := 10) hx hb hts (fun w h => List.mem_cons_of_mem _ (uw_M w h)) hown hK hP 0 rfl rfl 6 (by decide) (hG (.fieldLink R_M 25 "ValueSieveModel" "greatest" "[J") gx15) (fun _ h9 => h9) rfl d_M_add_169 ?_
    refine lv_bipush (v := 18) hx hb d_M_add_172 (by decide) ?_
    refine lv_aload_n hx hb d_M_add_174 rfl (lv_at hl 0 rfl) ?_
    refine va_get (D := (dC, dI)) (ci := 2) (v := .ref (ad 6)) (C := R_M) (T := F_M) (N := 10) hx hb hts (fun w h => List.mem_cons_of_mem _ (uw_M w h)) hown hK hP 0 rfl rfl 6 (by decide) (hG (.fieldLink R_M 25 "ValueSieveModel" "greatest" "[J") gx15) (fun _ h9 => h9) rfl d_M_add_175 ?_
    refine lv_bipush (v := 16) hx hb d_M_add_178 (by decide) ?_
    refine ml_6 (P := 16) hx hb hK hP rfl (by decide) d_M_add_180 ?_
    refine lv_aload_n hx hb d_M_add_181 rfl (lv_at hl 0 rfl) ?_
    refine va_get (D := (dC, dI)) (ci := 2) (v := .ref (ad 6)) (C := R_M) (T := F_M) (N := 10) hx hb hts (fun w h => List.mem_cons_of_mem _ (uw_M w h)) hown hK hP 0 rfl rfl 6 (by decide) (hG (.fieldLink R_M 25 "ValueSieveModel" "greatest" "[J") gx15) (fun _ h9 => h9) rfl d_M_add_182 ?_
    refine lv_bipush (v := 17) hx hb d_M_add_185 (by decide) ?_
    refine ml_6 (P := 17) hx hb hK hP rfl (by decide) d_M_add_187 ?_
    refine lv_ladd hx hb d_M_add_188 ?_
    refine ms_6 (P := 18) (x := ((r167n 16).2.2.2.2.2.1) + ((r167n 17).2.2.2.2.2.1)) hx hb hK hP hD hS rfl (by decide) d_M_add_189 (fun H locs hP hD hS => ?_)
    obtain ⟨r189n, er189n⟩ : ∃ z, z = u6 r167n 18 (((r167n 16).2.2.2.2.2.1) + ((r167n 17).2.2.2.2.2.1)) := ⟨_, rfl⟩
    rw [← er189n] at hP hD
    refine K189u r189n (Eq.trans (hj.trans rfl) (congrArg (fun r189n => f_M_add_189u r0 r189n) er189n.symm)) H locs ?_ ?_ hS ls (lv_sub hl [] rfl)
    · with_reducible exact hP
    · with_reducible exact hD
  have K106 : ∀ (r106 : (Nat → VV)) (hj : f_M_add r0 = f_M_add_106 r0 r106) (H : Heap) (locs : List Loc) (hP : va_P (dC, dI) classes (mW ad cJ cZ c0 r106 w0 s0) H) (hD : va_D A (mW ad cJ cZ c0 r106 w0 s0)) (hS : va_S A s.heap H locs) (ls : Array Slot) (hl : lv_has ls 3 [(0, .ref (ad 0))]), W p l e (headSpec w_M_add ({ frames := 2, cells := 0, slots := 0, locals := 61 } : Room)).room s m ([.ref (ad 0)] : List Value).toArray below meth c H locs 0 0 (MQ below (va_Qv (fun _ : Unit => True) (mB (dC, dI) A (mW ad cJ cZ c0 (f_M_add r0) w0 s0)) A) ([.ref (ad 0)] : List Value).toArray s 0 0 A) (F0 m 106 ls []) := by
    intro r106 hj H locs hP hD hS ls hl
    refine lv_aload_n hx hb d_M_add_106 rfl (lv_at hl 0 rfl) ?_
    refine va_get (D := (dC, dI)) (ci := 2) (v := .ref (ad 5)) (C := R_M) (T := F_M) (N := 10) hx hb hts (fun w h => List.mem_cons_of_mem _ (uw_M w h)) hown hK hP 0 rfl rfl 5 (by decide) (hG (.fieldLink R_M 22 "ValueSieveModel" "least" "[J") gx14) (fun _ h9 => h9) rfl d_M_add_107 ?_
    refine lv_bipush (v := 16) hx hb d_M_add_110 (by decide) ?_
    refine ml_5 (P := 16) hx hb hK hP rfl (by decide) d_M_add_112 ?_
    refine lv_aload_n hx hb d_M_add_113 rfl (lv_at hl 0 rfl) ?_
    refine va_get (D := (dC, dI)) (ci := 2) (v := .ref (ad 5)) (C := R_M) (T := F_M) (N := 10) hx hb hts (fun w h => List.mem_cons_of_mem _ (uw_M w h)) hown hK hP 0 rfl rfl 5 (by decide) (hG (.fieldLink R_M 22 "ValueSieveModel" "least" "[J") gx14) (fun _ h9 => h9) rfl d_M_add_114 ?_
    refine lv_bipush (v := 17) hx hb d_M_add_117 (by decide) ?_
    refine ml_5 (P := 17) hx hb hK hP rfl (by decide) d_M_add_119 ?_
    refine rc_i (W.runS (As := [.long ((r106 16).2.2.2.2.1), .long ((r106 17).2.2.2.2.1)]) (rest := []) ⟨hx, hb, hml, hown, hts⟩ (c_M_sumIsLong l ((r106 16).2.2.2.2.1) ((r106 17).2.2.2.2.1)) (va_cwS 2 hts (gxS gx136 gx137 gx0 gx138) rfl rfl rfl (by decide +kernel) ⟨(Nat.le_of_ble_eq_true rfl), (Nat.le_of_ble_eq_true rfl)⟩) ⟨bl0, fun U hU hW => ⟨rfl, trivial⟩⟩ rfl rfl hl.1 rfl (lv_room (Nat.le_of_ble_eq_true rfl)) d_M_add_120 ⟨Nat.zero_le _, Nat.zero_le _⟩) ?_
    refine wz_eq (tgt := 190) hx hb d_M_add_123 (by decide) (fun e1_190 => ?_) (fun e1_190 => ?_)
    · have fe : f_M_add r0 = r106 := hj.trans (by unfold f_M_add_106; first | with_reducible exact if_neg e1_190 | exact if_neg e1_190)
      exact W.vret hx hb hr (fun t ht hW => ⟨⟨(), rfl, trivial, by rw [ht, fe]; exact hP, by rw [fe]; exact hD⟩, hS.F ht⟩) hS.2.2 d_M_add_190
    · refine lv_aload_n hx hb d_M_add_126 rfl (lv_at hl 0 rfl) ?_
      refine va_get (D := (dC, dI)) (ci := 2) (v := .ref (ad 6)) (C := R_M) (T := F_M) (N := 10) hx hb hts (fun w h => List.mem_cons_of_mem _ (uw_M w h)) hown hK hP 0 rfl rfl 6 (by decide) (hG (.fieldLink R_M 25 "ValueSieveModel" "greatest" "[J") gx15) (fun _ h9 => h9) rfl d_M_add_127 ?_
      refine lv_bipush (v := 16) hx hb d_M_add_130 (by decide) ?_
      refine ml_6 (P := 16) hx hb hK hP rfl (by decide) d_M_add_132 ?_
      refine lv_aload_n hx hb d_M_add_133 rfl (lv_at hl 0 rfl) ?_
      refine va_get (D := (dC, dI)) (ci := 2) (v := .ref (ad 6)) (C := R_M) (T := F_M) (N := 10) hx hb hts (fun w h => List.mem_cons_of_mem _ (uw_M w h)) hown hK hP 0 rfl rfl 6 (by decide) (hG (.fieldLink R_M 25 "ValueSieveModel" "greatest" "[J") gx15) (fun _ h9 => h9) rfl d_M_add_134 ?_
      refine lv_bipush (v := 17) hx hb d_M_add_137 (by decide) ?_
      refine ml_6 (P := 17) hx hb hK hP rfl (by decide) d_M_add_139 ?_
      refine rc_i (W.runS (As := [.long ((r106 16).2.2.2.2.2.1), .long ((r106 17).2.2.2.2.2.1)]) (rest := []) ⟨hx, hb, hml, hown, hts⟩ (c_M_sumIsLong l ((r106 16).2.2.2.2.2.1) ((r106 17).2.2.2.2.2.1)) (va_cwS 2 hts (gxS gx136 gx137 gx0 gx138) rfl rfl rfl (by decide +kernel) ⟨(Nat.le_of_ble_eq_true rfl), (Nat.le_of_ble_eq_true rfl)⟩) ⟨bl0, fun U hU hW => ⟨rfl, trivial⟩⟩ rfl rfl hl.1 rfl (lv_room (Nat.le_of_ble_eq_true rfl)) d_M_add_140 ⟨Nat.zero_le _, Nat.zero_le _⟩) ?_
      refine wz_eq (tgt := 190) hx hb d_M_add_143 (by decide) (fun e2_190 => ?_) (fun e2_190 => ?_)
      · have fe : f_M_add r0 = r106 := hj.trans (by unfold f_M_add_106; first | with_reducible exact (if_pos e1_190).trans (if_neg e2_190) | exact (if_pos e1_190).trans (if_neg e2_190))
        exact W.vret hx hb hr (fun t ht hW => ⟨⟨(), rfl, trivial, by rw [ht, fe]; exact hP, by rw [fe]; exact hD⟩, hS.F ht⟩) hS.2.2 d_M_add_190
      · refine lv_aload_n hx hb d_M_add_146 rfl (lv_at hl 0 rfl) ?_
        refine va_get (D := (dC, dI)) (ci := 2) (v := .ref (ad 5)) (C := R_M) (T := F_M) (N := 10) hx hb hts (fun w h => List.mem_cons_of_mem _ (uw_M w h)) hown hK hP 0 rfl rfl 5 (by decide) (hG (.fieldLink R_M 22 "ValueSieveModel" "least" "[J") gx14) (fun _ h9 => h9) rfl d_M_add_147 ?_
        refine lv_bipush (v := 18) hx hb d_M_add_150 (by decide) ?_
        refine lv_aload_n hx hb d_M_add_152 rfl (lv_at hl 0 rfl) ?_
        refine va_get (D := (dC, dI)) (ci := 2) (v := .ref (ad 5)) (C := R_M) (T := F_M) (N := 10) hx hb hts (fun w h => List.mem_cons_of_mem _ (uw_M w h)) hown hK hP 0 rfl rfl 5 (by decide) (hG (.fieldLink R_M 22 "ValueSieveModel" "least" "[J") gx14) (fun _ h9 => h9) rfl d_M_add_153 ?_
        refine lv_bipush (v := 16) hx hb d_M_add_156 (by decide) ?_
        refine ml_5 (P := 16) hx hb hK hP rfl (by decide) d_M_add_158 ?_
        refine lv_aload_n hx hb d_M_add_159 rfl (lv_at hl 0 rfl) ?_
        refine va_get (D := (dC, dI)) (ci := 2) (v := .ref (ad 5)) (C := R_M) (T := F_M) (N := 10) hx hb hts (fun w h => List.mem_cons_of_mem _ (uw_M w h)) hown hK hP 0 rfl rfl 5 (by decide) (hG (.fieldLink R_M 22 "ValueSieveModel" "least" "[J") gx14) (fun _ h9 => h9) rfl d_M_add_160 ?_
        refine lv_bipush (v := 17) hx hb d_M_add_163 (by decide) ?_
        refine ml_5 (P := 17) hx hb hK hP rfl (by decide) d_M_add_165 ?_
        refine lv_ladd hx hb d_M_add_166 ?_
        refine ms_5 (P := 18) (x := ((r106 16).2.2.2.2.1) + ((r106 17).2.2.2.2.1)) hx hb hK hP hD hS rfl (by decide) d_M_add_167 (fun H locs hP hD hS => ?_)
        obtain ⟨r167n, er167n⟩ : ∃ z, z = u5 r106 18 (((r106 16).2.2.2.2.1) + ((r106 17).2.2.2.2.1)) := ⟨_, rfl⟩
        rw [← er167n] at hP hD
        refine K167u r167n (Eq.trans (hj.trans (by unfold f_M_add_106; first | with_reducible exact (if_pos e1_190).trans (if_pos e2_190) | exact (if_pos e1_190).trans (if_pos e2_190))) (congrArg (fun r167n => f_M_add_167u r0 r167n) er167n.symm)) H locs ?_ ?_ hS ls (lv_sub hl [0] rfl)
        · with_reducible exact hP
        · with_reducible exact hD
  have K105u : ∀ (r105n : (Nat → VV)) (hj : f_M_add r0 = f_M_add_105u r0 r105n) (H : Heap) (locs : List Loc) (hP : va_P (dC, dI) classes (mW ad cJ cZ c0 r105n w0 s0) H) (hD : va_D A (mW ad cJ cZ c0 r105n w0 s0)) (hS : va_S A s.heap H locs) (ls : Array Slot) (hl : lv_has ls 3 [(0, .ref (ad 0))]), W p l e (headSpec w_M_add ({ frames := 2, cells := 0, slots := 0, locals := 61 } : Room)).room s m ([.ref (ad 0)] : List Value).toArray below meth c H locs 0 0 (MQ below (va_Qv (fun _ : Unit => True) (mB (dC, dI) A (mW ad cJ cZ c0 (f_M_add r0) w0 s0)) A) ([.ref (ad 0)] : List Value).toArray s 0 0 A) (F0 m 106 ls []) := by
    intro r105n hj H locs hP hD hS ls hl
    refine K106 r105n (hj.trans rfl) H locs ?_ ?_ hS ls (lv_sub hl [0] rfl)
    · with_reducible exact hP
    · with_reducible exact hD
  have K83u : ∀ (r83n : (Nat → VV)) (hj : f_M_add r0 = f_M_add_83u r0 r83n) (H : Heap) (locs : List Loc) (hP : va_P (dC, dI) classes (mW ad cJ cZ c0 r83n w0 s0) H) (hD : va_D A (mW ad cJ cZ c0 r83n w0 s0)) (hS : va_S A s.heap H locs) (ls : Array Slot) (hl : lv_has ls 3 [(0, .ref (ad 0))]), W p l e (headSpec w_M_add ({ frames := 2, cells := 0, slots := 0, locals := 61 } : Room)).room s m ([.ref (ad 0)] : List Value).toArray below meth c H locs 0 0 (MQ below (va_Qv (fun _ : Unit => True) (mB (dC, dI) A (mW ad cJ cZ c0 (f_M_add r0) w0 s0)) A) ([.ref (ad 0)] : List Value).toArray s 0 0 A) (F0 m 84 ls []) := by
    intro r83n hj H locs hP hD hS ls hl
    refine lv_aload_n hx hb d_M_add_84 rfl (lv_at hl 0 rfl) ?_
    refine va_get (D := (dC, dI)) (ci := 2) (v := .ref (ad 4)) (C := R_M) (T := F_M) (N := 10) hx hb hts (fun w h => List.mem_cons_of_mem _ (uw_M w h)) hown hK hP 0 rfl rfl 4 (by decide) (hG (.fieldLink R_M 19 "ValueSieveModel" "high" "[J") gx13) (fun _ h9 => h9) rfl d_M_add_85 ?_
    refine lv_bipush (v := 18) hx hb d_M_add_88 (by decide) ?_
    refine lv_aload_n hx hb d_M_add_90 rfl (lv_at hl 0 rfl) ?_
    refine va_get (D := (dC, dI)) (ci := 2) (v := .ref (ad 4)) (C := R_M) (T := F_M) (N := 10) hx hb hts (fun w h => List.mem_cons_of_mem _ (uw_M w h)) hown hK hP 0 rfl rfl 4 (by decide) (hG (.fieldLink R_M 19 "ValueSieveModel" "high" "[J") gx13) (fun _ h9 => h9) rfl d_M_add_91 ?_
    refine lv_bipush (v := 16) hx hb d_M_add_94 (by decide) ?_
    refine ml_4 (P := 16) hx hb hK hP rfl (by decide) d_M_add_96 ?_
    refine lv_aload_n hx hb d_M_add_97 rfl (lv_at hl 0 rfl) ?_
    refine va_get (D := (dC, dI)) (ci := 2) (v := .ref (ad 4)) (C := R_M) (T := F_M) (N := 10) hx hb hts (fun w h => List.mem_cons_of_mem _ (uw_M w h)) hown hK hP 0 rfl rfl 4 (by decide) (hG (.fieldLink R_M 19 "ValueSieveModel" "high" "[J") gx13) (fun _ h9 => h9) rfl d_M_add_98 ?_
    refine lv_bipush (v := 17) hx hb d_M_add_101 (by decide) ?_
    refine ml_4 (P := 17) hx hb hK hP rfl (by decide) d_M_add_103 ?_
    refine lv_ladd hx hb d_M_add_104 ?_
    refine ms_4 (P := 18) (x := ((r83n 16).2.2.2.1) + ((r83n 17).2.2.2.1)) hx hb hK hP hD hS rfl (by decide) d_M_add_105 (fun H locs hP hD hS => ?_)
    obtain ⟨r105n, er105n⟩ : ∃ z, z = u4 r83n 18 (((r83n 16).2.2.2.1) + ((r83n 17).2.2.2.1)) := ⟨_, rfl⟩
    rw [← er105n] at hP hD
    refine K105u r105n (Eq.trans (hj.trans rfl) (congrArg (fun r105n => f_M_add_105u r0 r105n) er105n.symm)) H locs ?_ ?_ hS ls (lv_sub hl [0] rfl)
    · with_reducible exact hP
    · with_reducible exact hD
  have K56v : ∀ (v56 : Bool) (v30 : Bool) (g2 : (Nat → VV)) (hj : f_M_add r0 = f_M_add_56v r0 v56 v30 g2) (H : Heap) (locs : List Loc) (hP : va_P (dC, dI) classes (mW ad cJ cZ c0 g2 w0 s0) H) (hD : va_D A (mW ad cJ cZ c0 g2 w0 s0)) (hS : va_S A s.heap H locs) (ls : Array Slot) (hl : lv_has ls 3 [(2, .int (bI v56)), (1, .int (bI v30)), (0, .ref (ad 0))]), W p l e (headSpec w_M_add ({ frames := 2, cells := 0, slots := 0, locals := 61 } : Room)).room s m ([.ref (ad 0)] : List Value).toArray below meth c H locs 0 0 (MQ below (va_Qv (fun _ : Unit => True) (mB (dC, dI) A (mW ad cJ cZ c0 (f_M_add r0) w0 s0)) A) ([.ref (ad 0)] : List Value).toArray s 0 0 A) (F0 m 57 ls []) := by
    intro v56 v30 g2 hj H locs hP hD hS ls hl
    refine lv_iload_n hx hb d_M_add_57 rfl (lv_at hl 1 rfl) ?_
    refine lv_iload_n hx hb d_M_add_58 rfl (lv_at hl 0 rfl) ?_
    refine lv_icmp_ne (tgt := 106) hx hb d_M_add_59 (by decide) (fun e1_106 => ?_) (fun e1_106 => ?_)
    · refine K106 g2 (hj.trans (by unfold f_M_add_56v; first | with_reducible exact if_neg e1_106 | exact if_neg e1_106)) H locs ?_ ?_ hS ls (lv_sub hl [2] rfl)
      · with_reducible exact hP
      · with_reducible exact hD
    · refine lv_aload_n hx hb d_M_add_62 rfl (lv_at hl 2 rfl) ?_
      refine va_get (D := (dC, dI)) (ci := 2) (v := .ref (ad 3)) (C := R_M) (T := F_M) (N := 10) hx hb hts (fun w h => List.mem_cons_of_mem _ (uw_M w h)) hown hK hP 0 rfl rfl 3 (by decide) (hG (.fieldLink R_M 16 "ValueSieveModel" "low" "[J") gx12) (fun _ h9 => h9) rfl d_M_add_63 ?_
      refine lv_bipush (v := 18) hx hb d_M_add_66 (by decide) ?_
      refine lv_aload_n hx hb d_M_add_68 rfl (lv_at hl 2 rfl) ?_
      refine va_get (D := (dC, dI)) (ci := 2) (v := .ref (ad 3)) (C := R_M) (T := F_M) (N := 10) hx hb hts (fun w h => List.mem_cons_of_mem _ (uw_M w h)) hown hK hP 0 rfl rfl 3 (by decide) (hG (.fieldLink R_M 16 "ValueSieveModel" "low" "[J") gx12) (fun _ h9 => h9) rfl d_M_add_69 ?_
      refine lv_bipush (v := 16) hx hb d_M_add_72 (by decide) ?_
      refine ml_3 (P := 16) hx hb hK hP rfl (by decide) d_M_add_74 ?_
      refine lv_aload_n hx hb d_M_add_75 rfl (lv_at hl 2 rfl) ?_
      refine va_get (D := (dC, dI)) (ci := 2) (v := .ref (ad 3)) (C := R_M) (T := F_M) (N := 10) hx hb hts (fun w h => List.mem_cons_of_mem _ (uw_M w h)) hown hK hP 0 rfl rfl 3 (by decide) (hG (.fieldLink R_M 16 "ValueSieveModel" "low" "[J") gx12) (fun _ h9 => h9) rfl d_M_add_76 ?_
      refine lv_bipush (v := 17) hx hb d_M_add_79 (by decide) ?_
      refine ml_3 (P := 17) hx hb hK hP rfl (by decide) d_M_add_81 ?_
      refine lv_ladd hx hb d_M_add_82 ?_
      refine ms_3 (P := 18) (x := ((g2 16).2.2.1) + ((g2 17).2.2.1)) hx hb hK hP hD hS rfl (by decide) d_M_add_83 (fun H locs hP hD hS => ?_)
      obtain ⟨r83n, er83n⟩ : ∃ z, z = u3 g2 18 (((g2 16).2.2.1) + ((g2 17).2.2.1)) := ⟨_, rfl⟩
      rw [← er83n] at hP hD
      refine K83u r83n (Eq.trans (hj.trans (by unfold f_M_add_56v; first | with_reducible exact if_pos e1_106 | exact if_pos e1_106)) (congrArg (fun r83n => f_M_add_83u r0 r83n) er83n.symm)) H locs ?_ ?_ hS ls (lv_sub hl [2] rfl)
      · with_reducible exact hP
      · with_reducible exact hD
  have K30v : ∀ (v30 : Bool) (g2 : (Nat → VV)) (hj : f_M_add r0 = f_M_add_30v r0 v30 g2) (H : Heap) (locs : List Loc) (hP : va_P (dC, dI) classes (mW ad cJ cZ c0 g2 w0 s0) H) (hD : va_D A (mW ad cJ cZ c0 g2 w0 s0)) (hS : va_S A s.heap H locs) (ls : Array Slot) (hl : lv_has ls 3 [(1, .int (bI v30)), (0, .ref (ad 0))]), W p l e (headSpec w_M_add ({ frames := 2, cells := 0, slots := 0, locals := 61 } : Room)).room s m ([.ref (ad 0)] : List Value).toArray below meth c H locs 0 0 (MQ below (va_Qv (fun _ : Unit => True) (mB (dC, dI) A (mW ad cJ cZ c0 (f_M_add r0) w0 s0)) A) ([.ref (ad 0)] : List Value).toArray s 0 0 A) (F0 m 31 ls []) := by
    intro v30 g2 hj H locs hP hD hS ls hl
    refine lv_aload_n hx hb d_M_add_31 rfl (lv_at hl 1 rfl) ?_
    refine va_get (D := (dC, dI)) (ci := 2) (v := .ref (ad 4)) (C := R_M) (T := F_M) (N := 10) hx hb hts (fun w h => List.mem_cons_of_mem _ (uw_M w h)) hown hK hP 0 rfl rfl 4 (by decide) (hG (.fieldLink R_M 19 "ValueSieveModel" "high" "[J") gx13) (fun _ h9 => h9) rfl d_M_add_32 ?_
    refine lv_bipush (v := 16) hx hb d_M_add_35 (by decide) ?_
    refine ml_4 (P := 16) hx hb hK hP rfl (by decide) d_M_add_37 ?_
    refine lv_aload_n hx hb d_M_add_38 rfl (lv_at hl 1 rfl) ?_
    refine va_get (D := (dC, dI)) (ci := 2) (v := .ref (ad 4)) (C := R_M) (T := F_M) (N := 10) hx hb hts (fun w h => List.mem_cons_of_mem _ (uw_M w h)) hown hK hP 0 rfl rfl 4 (by decide) (hG (.fieldLink R_M 19 "ValueSieveModel" "high" "[J") gx13) (fun _ h9 => h9) rfl d_M_add_39 ?_
    refine lv_bipush (v := 17) hx hb d_M_add_42 (by decide) ?_
    refine ml_4 (P := 17) hx hb hK hP rfl (by decide) d_M_add_44 ?_
    refine lv_ladd hx hb d_M_add_45 ?_
    refine lv_aload_n hx hb d_M_add_46 rfl (lv_at hl 1 rfl) ?_
    refine va_get (D := (dC, dI)) (ci := 2) (v := .ref (ad 4)) (C := R_M) (T := F_M) (N := 10) hx hb hts (fun w h => List.mem_cons_of_mem _ (uw_M w h)) hown hK hP 0 rfl rfl 4 (by decide) (hG (.fieldLink R_M 19 "ValueSieveModel" "high" "[J") gx13) (fun _ h9 => h9) rfl d_M_add_47 ?_
    refine lv_bipush (v := 16) hx hb d_M_add_50 (by decide) ?_
    refine ml_4 (P := 16) hx hb hK hP rfl (by decide) d_M_add_52 ?_
    refine rc_i (W.runS (As := [.long (((g2 16).2.2.2.1) + ((g2 17).2.2.2.1)), .long ((g2 16).2.2.2.1)]) (rest := []) ⟨hx, hb, hml, hown, hts⟩ (c_M_below l (((g2 16).2.2.2.1) + ((g2 17).2.2.2.1)) ((g2 16).2.2.2.1)) (va_cwS 2 hts (gxS gx57 gx58 gx0 gx59) rfl rfl rfl (by decide +kernel) ⟨(Nat.le_of_ble_eq_true rfl), (Nat.le_of_ble_eq_true rfl)⟩) ⟨bl0, fun U hU hW => ⟨rfl, trivial⟩⟩ rfl rfl hl.1 rfl (lv_room (Nat.le_of_ble_eq_true rfl)) d_M_add_53 ⟨Nat.zero_le _, Nat.zero_le _⟩) ?_
    refine top_b (fun v56 ev56 => ?_)
    refine lv_istore_n (lv' := [(2, .int (bI v56)), (1, .int (bI v30)), (0, .ref (ad 0))]) hx hb d_M_add_56 rfl hl (by decide) rfl (fun ls hl => ?_)
    refine K56v v56 v30 g2 (Eq.trans (hj.trans rfl) (congrArg (fun v56 => f_M_add_56v r0 v56 v30 g2) ev56.symm)) H locs ?_ ?_ hS ls (lv_sub hl [0, 1, 2] rfl)
    · with_reducible exact hP
    · with_reducible exact hD
  have K2g : ∀ (g2 : (Nat → VV)) (hj : f_M_add r0 = f_M_add_2g r0 g2) (H : Heap) (locs : List Loc) (hP : va_P (dC, dI) classes (mW ad cJ cZ c0 g2 w0 s0) H) (hD : va_D A (mW ad cJ cZ c0 g2 w0 s0)) (hS : va_S A s.heap H locs) (ls : Array Slot) (hl : lv_has ls 3 [(0, .ref (ad 0))]), W p l e (headSpec w_M_add ({ frames := 2, cells := 0, slots := 0, locals := 61 } : Room)).room s m ([.ref (ad 0)] : List Value).toArray below meth c H locs 0 0 (MQ below (va_Qv (fun _ : Unit => True) (mB (dC, dI) A (mW ad cJ cZ c0 (f_M_add r0) w0 s0)) A) ([.ref (ad 0)] : List Value).toArray s 0 0 A) (F0 m 5 ls []) := by
    intro g2 hj H locs hP hD hS ls hl
    refine lv_aload_n hx hb d_M_add_5 rfl (lv_at hl 0 rfl) ?_
    refine va_get (D := (dC, dI)) (ci := 2) (v := .ref (ad 3)) (C := R_M) (T := F_M) (N := 10) hx hb hts (fun w h => List.mem_cons_of_mem _ (uw_M w h)) hown hK hP 0 rfl rfl 3 (by decide) (hG (.fieldLink R_M 16 "ValueSieveModel" "low" "[J") gx12) (fun _ h9 => h9) rfl d_M_add_6 ?_
    refine lv_bipush (v := 16) hx hb d_M_add_9 (by decide) ?_
    refine ml_3 (P := 16) hx hb hK hP rfl (by decide) d_M_add_11 ?_
    refine lv_aload_n hx hb d_M_add_12 rfl (lv_at hl 0 rfl) ?_
    refine va_get (D := (dC, dI)) (ci := 2) (v := .ref (ad 3)) (C := R_M) (T := F_M) (N := 10) hx hb hts (fun w h => List.mem_cons_of_mem _ (uw_M w h)) hown hK hP 0 rfl rfl 3 (by decide) (hG (.fieldLink R_M 16 "ValueSieveModel" "low" "[J") gx12) (fun _ h9 => h9) rfl d_M_add_13 ?_
    refine lv_bipush (v := 17) hx hb d_M_add_16 (by decide) ?_
    refine ml_3 (P := 17) hx hb hK hP rfl (by decide) d_M_add_18 ?_
    refine lv_ladd hx hb d_M_add_19 ?_
    refine lv_aload_n hx hb d_M_add_20 rfl (lv_at hl 0 rfl) ?_
    refine va_get (D := (dC, dI)) (ci := 2) (v := .ref (ad 3)) (C := R_M) (T := F_M) (N := 10) hx hb hts (fun w h => List.mem_cons_of_mem _ (uw_M w h)) hown hK hP 0 rfl rfl 3 (by decide) (hG (.fieldLink R_M 16 "ValueSieveModel" "low" "[J") gx12) (fun _ h9 => h9) rfl d_M_add_21 ?_
    refine lv_bipush (v := 16) hx hb d_M_add_24 (by decide) ?_
    refine ml_3 (P := 16) hx hb hK hP rfl (by decide) d_M_add_26 ?_
    refine rc_i (W.runS (As := [.long (((g2 16).2.2.1) + ((g2 17).2.2.1)), .long ((g2 16).2.2.1)]) (rest := []) ⟨hx, hb, hml, hown, hts⟩ (c_M_below l (((g2 16).2.2.1) + ((g2 17).2.2.1)) ((g2 16).2.2.1)) (va_cwS 2 hts (gxS gx57 gx58 gx0 gx59) rfl rfl rfl (by decide +kernel) ⟨(Nat.le_of_ble_eq_true rfl), (Nat.le_of_ble_eq_true rfl)⟩) ⟨bl0, fun U hU hW => ⟨rfl, trivial⟩⟩ rfl rfl hl.1 rfl (lv_room (Nat.le_of_ble_eq_true rfl)) d_M_add_27 ⟨Nat.zero_le _, Nat.zero_le _⟩) ?_
    refine top_b (fun v30 ev30 => ?_)
    refine lv_istore_n (lv' := [(1, .int (bI v30)), (0, .ref (ad 0))]) hx hb d_M_add_30 rfl hl (by decide) rfl (fun ls hl => ?_)
    refine K30v v30 g2 (Eq.trans (hj.trans rfl) (congrArg (fun v30 => f_M_add_30v r0 v30 g2) ev30.symm)) H locs ?_ ?_ hS ls (lv_sub hl [0, 1] rfl)
    · with_reducible exact hP
    · with_reducible exact hD
  refine lv_aload_n hx hb d_M_add_0 rfl (lv_at hl 0 rfl) ?_
  refine lv_iconst (v := 0) hx hb d_M_add_1 (by decide) ?_
  refine mm_v (F := f_M_sumBits r0 false) (w1 := fun g2 => (mW ad cJ cZ c0 g2 w0 s0)) (va_runV (As := [.int (0)]) (rest := []) ⟨hx, hb, hml, hown, hts⟩ (c_M_sumBits l dC dI ad cJ cZ s.heap.size c0 r0 w0 s0 false) (cwV 1 hts (gxV gx130 gx131 gx283 gx0 gx132) rfl rfl rfl (by decide +kernel) ⟨(Nat.le_of_ble_eq_true rfl), (Nat.le_of_ble_eq_true rfl)⟩) ⟨blp, va_recv hK hP (ci := 2) (q0 := 0) rfl rfl, fun U hU hW => ⟨rfl, by rw [hU], by rw [hU]; exact hP, va_K.moved hW.alike hK, hD.weaken (fun _ _ _ _ => trivial)⟩⟩ rfl rfl hl.1 rfl (lv_room (Nat.le_of_ble_eq_true rfl)) d_M_add_2 ⟨Nat.zero_le _, Nat.zero_le _⟩) hD hS hA (fun g2 eg2 H locs hP hD hS => ?_)
  refine K2g g2 (Eq.trans (rfl) (congrArg (fun g2 => f_M_add_2g r0 g2) eg2)) H locs ?_ ?_ hS ls (lv_sub hl [0] rfl)
  · with_reducible exact hP
  · with_reducible exact hD
-- subtract
theorem d_M_subtract_0 : decode b_M_subtract 0 = .ok (.aload_n 0, 1) := by decide +kernel
theorem d_M_subtract_1 : decode b_M_subtract 1 = .ok (.iconst 1, 1) := by decide +kernel
theorem d_M_subtract_2 : decode b_M_subtract 2 = .ok (.invokevirtual 139, 3) := by decide +kernel
theorem d_M_subtract_5 : decode b_M_subtract 5 = .ok (.aload_n 0, 1) := by decide +kernel
theorem d_M_subtract_6 : decode b_M_subtract 6 = .ok (.getfield 16, 3) := by decide +kernel
theorem d_M_subtract_9 : decode b_M_subtract 9 = .ok (.bipush 16, 2) := by decide +kernel
theorem d_M_subtract_11 : decode b_M_subtract 11 = .ok (.laload, 1) := by decide +kernel
theorem d_M_subtract_12 : decode b_M_subtract 12 = .ok (.aload_n 0, 1) := by decide +kernel
theorem d_M_subtract_13 : decode b_M_subtract 13 = .ok (.getfield 19, 3) := by decide +kernel
theorem d_M_subtract_16 : decode b_M_subtract 16 = .ok (.bipush 17, 2) := by decide +kernel
theorem d_M_subtract_18 : decode b_M_subtract 18 = .ok (.laload, 1) := by decide +kernel
theorem d_M_subtract_19 : decode b_M_subtract 19 = .ok (.invokestatic 39, 3) := by decide +kernel
theorem d_M_subtract_22 : decode b_M_subtract 22 = .ok (.istore_n 1, 1) := by decide +kernel
theorem d_M_subtract_23 : decode b_M_subtract 23 = .ok (.aload_n 0, 1) := by decide +kernel
theorem d_M_subtract_24 : decode b_M_subtract 24 = .ok (.getfield 19, 3) := by decide +kernel
theorem d_M_subtract_27 : decode b_M_subtract 27 = .ok (.bipush 16, 2) := by decide +kernel
theorem d_M_subtract_29 : decode b_M_subtract 29 = .ok (.laload, 1) := by decide +kernel
theorem d_M_subtract_30 : decode b_M_subtract 30 = .ok (.aload_n 0, 1) := by decide +kernel
theorem d_M_subtract_31 : decode b_M_subtract 31 = .ok (.getfield 16, 3) := by decide +kernel
theorem d_M_subtract_34 : decode b_M_subtract 34 = .ok (.bipush 17, 2) := by decide +kernel
theorem d_M_subtract_36 : decode b_M_subtract 36 = .ok (.laload, 1) := by decide +kernel
theorem d_M_subtract_37 : decode b_M_subtract 37 = .ok (.invokestatic 39, 3) := by decide +kernel
theorem d_M_subtract_40 : decode b_M_subtract 40 = .ok (.istore_n 2, 1) := by decide +kernel
theorem d_M_subtract_41 : decode b_M_subtract 41 = .ok (.iload_n 1, 1) := by decide +kernel
theorem d_M_subtract_42 : decode b_M_subtract 42 = .ok (.iload_n 2, 1) := by decide +kernel
theorem d_M_subtract_43 : decode b_M_subtract 43 = .ok (.if_icmp .ne 47, 3) := by decide +kernel
theorem d_M_subtract_46 : decode b_M_subtract 46 = .ok (.aload_n 0, 1) := by decide +kernel
theorem d_M_subtract_47 : decode b_M_subtract 47 = .ok (.getfield 16, 3) := by decide +kernel
theorem d_M_subtract_50 : decode b_M_subtract 50 = .ok (.bipush 18, 2) := by decide +kernel
theorem d_M_subtract_52 : decode b_M_subtract 52 = .ok (.aload_n 0, 1) := by decide +kernel
theorem d_M_subtract_53 : decode b_M_subtract 53 = .ok (.getfield 16, 3) := by decide +kernel
theorem d_M_subtract_56 : decode b_M_subtract 56 = .ok (.bipush 16, 2) := by decide +kernel
theorem d_M_subtract_58 : decode b_M_subtract 58 = .ok (.laload, 1) := by decide +kernel
theorem d_M_subtract_59 : decode b_M_subtract 59 = .ok (.aload_n 0, 1) := by decide +kernel
theorem d_M_subtract_60 : decode b_M_subtract 60 = .ok (.getfield 19, 3) := by decide +kernel
theorem d_M_subtract_63 : decode b_M_subtract 63 = .ok (.bipush 17, 2) := by decide +kernel
theorem d_M_subtract_65 : decode b_M_subtract 65 = .ok (.laload, 1) := by decide +kernel
theorem d_M_subtract_66 : decode b_M_subtract 66 = .ok (.lsub, 1) := by decide +kernel
theorem d_M_subtract_67 : decode b_M_subtract 67 = .ok (.lastore, 1) := by decide +kernel
theorem d_M_subtract_68 : decode b_M_subtract 68 = .ok (.aload_n 0, 1) := by decide +kernel
theorem d_M_subtract_69 : decode b_M_subtract 69 = .ok (.getfield 19, 3) := by decide +kernel
theorem d_M_subtract_72 : decode b_M_subtract 72 = .ok (.bipush 18, 2) := by decide +kernel
theorem d_M_subtract_74 : decode b_M_subtract 74 = .ok (.aload_n 0, 1) := by decide +kernel
theorem d_M_subtract_75 : decode b_M_subtract 75 = .ok (.getfield 19, 3) := by decide +kernel
theorem d_M_subtract_78 : decode b_M_subtract 78 = .ok (.bipush 16, 2) := by decide +kernel
theorem d_M_subtract_80 : decode b_M_subtract 80 = .ok (.laload, 1) := by decide +kernel
theorem d_M_subtract_81 : decode b_M_subtract 81 = .ok (.aload_n 0, 1) := by decide +kernel
theorem d_M_subtract_82 : decode b_M_subtract 82 = .ok (.getfield 16, 3) := by decide +kernel
theorem d_M_subtract_85 : decode b_M_subtract 85 = .ok (.bipush 17, 2) := by decide +kernel
theorem d_M_subtract_87 : decode b_M_subtract 87 = .ok (.laload, 1) := by decide +kernel
theorem d_M_subtract_88 : decode b_M_subtract 88 = .ok (.lsub, 1) := by decide +kernel
theorem d_M_subtract_89 : decode b_M_subtract 89 = .ok (.lastore, 1) := by decide +kernel
theorem d_M_subtract_90 : decode b_M_subtract 90 = .ok (.aload_n 0, 1) := by decide +kernel
theorem d_M_subtract_91 : decode b_M_subtract 91 = .ok (.getfield 22, 3) := by decide +kernel
theorem d_M_subtract_94 : decode b_M_subtract 94 = .ok (.bipush 16, 2) := by decide +kernel
theorem d_M_subtract_96 : decode b_M_subtract 96 = .ok (.laload, 1) := by decide +kernel
theorem d_M_subtract_97 : decode b_M_subtract 97 = .ok (.aload_n 0, 1) := by decide +kernel
theorem d_M_subtract_98 : decode b_M_subtract 98 = .ok (.getfield 25, 3) := by decide +kernel
theorem d_M_subtract_101 : decode b_M_subtract 101 = .ok (.bipush 17, 2) := by decide +kernel
theorem d_M_subtract_103 : decode b_M_subtract 103 = .ok (.laload, 1) := by decide +kernel
theorem d_M_subtract_104 : decode b_M_subtract 104 = .ok (.invokestatic 146, 3) := by decide +kernel
theorem d_M_subtract_107 : decode b_M_subtract 107 = .ok (.ifCond .eq 67, 3) := by decide +kernel
theorem d_M_subtract_110 : decode b_M_subtract 110 = .ok (.aload_n 0, 1) := by decide +kernel
theorem d_M_subtract_111 : decode b_M_subtract 111 = .ok (.getfield 25, 3) := by decide +kernel
theorem d_M_subtract_114 : decode b_M_subtract 114 = .ok (.bipush 16, 2) := by decide +kernel
theorem d_M_subtract_116 : decode b_M_subtract 116 = .ok (.laload, 1) := by decide +kernel
theorem d_M_subtract_117 : decode b_M_subtract 117 = .ok (.aload_n 0, 1) := by decide +kernel
theorem d_M_subtract_118 : decode b_M_subtract 118 = .ok (.getfield 22, 3) := by decide +kernel
theorem d_M_subtract_121 : decode b_M_subtract 121 = .ok (.bipush 17, 2) := by decide +kernel
theorem d_M_subtract_123 : decode b_M_subtract 123 = .ok (.laload, 1) := by decide +kernel
theorem d_M_subtract_124 : decode b_M_subtract 124 = .ok (.invokestatic 146, 3) := by decide +kernel
theorem d_M_subtract_127 : decode b_M_subtract 127 = .ok (.ifCond .eq 47, 3) := by decide +kernel
theorem d_M_subtract_130 : decode b_M_subtract 130 = .ok (.aload_n 0, 1) := by decide +kernel
theorem d_M_subtract_131 : decode b_M_subtract 131 = .ok (.getfield 22, 3) := by decide +kernel
theorem d_M_subtract_134 : decode b_M_subtract 134 = .ok (.bipush 18, 2) := by decide +kernel
theorem d_M_subtract_136 : decode b_M_subtract 136 = .ok (.aload_n 0, 1) := by decide +kernel
theorem d_M_subtract_137 : decode b_M_subtract 137 = .ok (.getfield 22, 3) := by decide +kernel
theorem d_M_subtract_140 : decode b_M_subtract 140 = .ok (.bipush 16, 2) := by decide +kernel
theorem d_M_subtract_142 : decode b_M_subtract 142 = .ok (.laload, 1) := by decide +kernel
theorem d_M_subtract_143 : decode b_M_subtract 143 = .ok (.aload_n 0, 1) := by decide +kernel
theorem d_M_subtract_144 : decode b_M_subtract 144 = .ok (.getfield 25, 3) := by decide +kernel
theorem d_M_subtract_147 : decode b_M_subtract 147 = .ok (.bipush 17, 2) := by decide +kernel
theorem d_M_subtract_149 : decode b_M_subtract 149 = .ok (.laload, 1) := by decide +kernel
theorem d_M_subtract_150 : decode b_M_subtract 150 = .ok (.lsub, 1) := by decide +kernel
theorem d_M_subtract_151 : decode b_M_subtract 151 = .ok (.lastore, 1) := by decide +kernel
theorem d_M_subtract_152 : decode b_M_subtract 152 = .ok (.aload_n 0, 1) := by decide +kernel
theorem d_M_subtract_153 : decode b_M_subtract 153 = .ok (.getfield 25, 3) := by decide +kernel
theorem d_M_subtract_156 : decode b_M_subtract 156 = .ok (.bipush 18, 2) := by decide +kernel
theorem d_M_subtract_158 : decode b_M_subtract 158 = .ok (.aload_n 0, 1) := by decide +kernel
theorem d_M_subtract_159 : decode b_M_subtract 159 = .ok (.getfield 25, 3) := by decide +kernel
theorem d_M_subtract_162 : decode b_M_subtract 162 = .ok (.bipush 16, 2) := by decide +kernel
theorem d_M_subtract_164 : decode b_M_subtract 164 = .ok (.laload, 1) := by decide +kernel
theorem d_M_subtract_165 : decode b_M_subtract 165 = .ok (.aload_n 0, 1) := by decide +kernel
theorem d_M_subtract_166 : decode b_M_subtract 166 = .ok (.getfield 22, 3) := by decide +kernel
theorem d_M_subtract_169 : decode b_M_subtract 169 = .ok (.bipush 17, 2) := by decide +kernel
theorem d_M_subtract_171 : decode b_M_subtract 171 = .ok (.laload, 1) := by decide +kernel
theorem d_M_subtract_172 : decode b_M_subtract 172 = .ok (.lsub, 1) := by decide +kernel
theorem d_M_subtract_173 : decode b_M_subtract 173 = .ok (.lastore, 1) := by decide +kernel
theorem d_M_subtract_174 : decode b_M_subtract 174 = .ok (.return_, 1) := by decide +kernel
def f_M_subtract_173u (r0 : (Nat → VV)) (r173n : (Nat → VV)) : (Nat → VV) := r173n
def f_M_subtract_151u (r0 : (Nat → VV)) (r151n : (Nat → VV)) : (Nat → VV) := f_M_subtract_173u r0 (u6 r151n 18 (((r151n 16).2.2.2.2.2.1) - ((r151n 17).2.2.2.2.1)))
def f_M_subtract_90 (r0 : (Nat → VV)) (r90 : (Nat → VV)) : (Nat → VV) := (if (f_M_differenceIsLong ((r90 16).2.2.2.2.1) ((r90 17).2.2.2.2.2.1)) = true then (if (f_M_differenceIsLong ((r90 16).2.2.2.2.2.1) ((r90 17).2.2.2.2.1)) = true then f_M_subtract_151u r0 (u5 r90 18 (((r90 16).2.2.2.2.1) - ((r90 17).2.2.2.2.2.1))) else r90) else r90)
def f_M_subtract_89u (r0 : (Nat → VV)) (r89n : (Nat → VV)) : (Nat → VV) := f_M_subtract_90 r0 r89n
def f_M_subtract_67u (r0 : (Nat → VV)) (r67n : (Nat → VV)) : (Nat → VV) := f_M_subtract_89u r0 (u4 r67n 18 (((r67n 16).2.2.2.1) - ((r67n 17).2.2.1)))
def f_M_subtract_40v (r0 : (Nat → VV)) (v40 : Bool) (v22 : Bool) (g2 : (Nat → VV)) : (Nat → VV) := (if (bI v22) = (bI v40) then f_M_subtract_67u r0 (u3 g2 18 (((g2 16).2.2.1) - ((g2 17).2.2.2.1))) else f_M_subtract_90 r0 g2)
def f_M_subtract_22v (r0 : (Nat → VV)) (v22 : Bool) (g2 : (Nat → VV)) : (Nat → VV) := f_M_subtract_40v r0 (f_M_below ((g2 16).2.2.2.1) ((g2 17).2.2.1)) v22 g2
def f_M_subtract_2g (r0 : (Nat → VV)) (g2 : (Nat → VV)) : (Nat → VV) := f_M_subtract_22v r0 (f_M_below ((g2 16).2.2.1) ((g2 17).2.2.2.1)) g2
def f_M_subtract (r0 : (Nat → VV)) : (Nat → VV) := f_M_subtract_2g r0 (f_M_sumBits r0 true)
set_option maxRecDepth 100000 in
set_option maxHeartbeats 4000000 in
theorem c_M_subtract (l : Launch) (dC : Nat → ClassId) (dI : Nat → Nat → Nat) (ad : Nat → Nat) (cJ cZ : ClassId) (sz : Nat) (c0 : Int32) (r0 : (Nat → VV)) (w0 : (Nat → Int64)) (s0 : Int32) : Met l y_M_subtract w_M_subtract ({ frames := 2, cells := 0, slots := 0, locals := 61 } : Room) (va_Pc [.ref (ad 0)] (nP (dC, dI) (mT cJ cZ) (mW ad cJ cZ c0 r0 w0 s0) sz)) (va_Qv (fun _ : Unit => True) (mB (dC, dI) (va_A (mW ad cJ cZ c0 r0 w0 s0) sz) (mW ad cJ cZ c0 (f_M_subtract r0) w0 s0)) (va_A (mW ad cJ cZ c0 r0 w0 s0) sz)) 0 0 (va_A (mW ad cJ cZ c0 r0 w0 s0) sz) := by
  refine Met.ofW (cc := b_M_subtract) (maxL := 3) (ret := none) (by decide) rfl ?_
  intro p e s m args below meth c s₁ B hml hv
  obtain ⟨rfl, hsz, hP, hK, hD0⟩ := hv
  have hx := B.exec
  have hb := B.bytes
  have hr := B.returns
  have hts := atoms_spec (ws := w_M_subtract) B.pre
  have hG : ∀ w ∈ gM, w.before _ s = true := fun w h => hts w (List.mem_cons_of_mem _ h)
  have hown : s.vm.findClass R_M = some m.cls := findClass_of_methodNamed B.named
  have hlocks := B.notSynchronized
  subst hsz
  have hD := hD0.self (sz := s.heap.size)
  generalize hAe : va_A (mW ad cJ cZ c0 r0 w0 s0) s.heap.size = A at hD ⊢
  have hA : ∀ q : Nat, s.heap.size ≤ q → A q := fun q h => by rw [← hAe]; exact Or.inr h
  have hS : va_S A s.heap s.heap [] := va_S.rf
  have hl := lv_entry ([.ref (ad 0)]) (n := 3) (Nat.le_of_ble_eq_true rfl)
  rw [lg_entry_eq]
  generalize (lg_sl ([.ref (ad 0)]) ++ List.replicate (3 - (lg_sl ([.ref (ad 0)])).length) Slot.unset).toArray = ls at hl ⊢
  have hl : lv_has ls 3 [(0, .ref (ad 0))] := hl
  have K173u : ∀ (r173n : (Nat → VV)) (hj : f_M_subtract r0 = f_M_subtract_173u r0 r173n) (H : Heap) (locs : List Loc) (hP : va_P (dC, dI) classes (mW ad cJ cZ c0 r173n w0 s0) H) (hD : va_D A (mW ad cJ cZ c0 r173n w0 s0)) (hS : va_S A s.heap H locs) (ls : Array Slot) (hl : lv_has ls 3 []), W p l e (headSpec w_M_subtract ({ frames := 2, cells := 0, slots := 0, locals := 61 } : Room)).room s m ([.ref (ad 0)] : List Value).toArray below meth c H locs 0 0 (MQ below (va_Qv (fun _ : Unit => True) (mB (dC, dI) A (mW ad cJ cZ c0 (f_M_subtract r0) w0 s0)) A) ([.ref (ad 0)] : List Value).toArray s 0 0 A) (F0 m 174 ls []) := by
    intro r173n hj H locs hP hD hS ls hl
    have fe : f_M_subtract r0 = r173n := hj.trans rfl
    exact W.vret hx hb hr (fun t ht hW => ⟨⟨(), rfl, trivial, by rw [ht, fe]; exact hP, by rw [fe]; exact hD⟩, hS.F ht⟩) hS.2.2 d_M_subtract_174
  have K151u : ∀ (r151n : (Nat → VV)) (hj : f_M_subtract r0 = f_M_subtract_151u r0 r151n) (H : Heap) (locs : List Loc) (hP : va_P (dC, dI) classes (mW ad cJ cZ c0 r151n w0 s0) H) (hD : va_D A (mW ad cJ cZ c0 r151n w0 s0)) (hS : va_S A s.heap H locs) (ls : Array Slot) (hl : lv_has ls 3 [(0, .ref (ad 0))]), W p l e (headSpec w_M_subtract ({ frames := 2, cells := 0, slots := 0, locals := 61 } : Room)).room s m ([.ref (ad 0)] : List Value).toArray below meth c H locs 0 0 (MQ below (va_Qv (fun _ : Unit => True) (mB (dC, dI) A (mW ad cJ cZ c0 (f_M_subtract r0) w0 s0)) A) ([.ref (ad 0)] : List Value).toArray s 0 0 A) (F0 m 152 ls []) := by
    intro r151n hj H locs hP hD hS ls hl
    refine lv_aload_n hx hb d_M_subtract_152 rfl (lv_at hl 0 rfl) ?_
    refine va_get (D := (dC, dI)) (ci := 2) (v := .ref (ad 6)) (C := R_M) (T := F_M) (N := 10) hx hb hts (fun w h => List.mem_cons_of_mem _ (uw_M w h)) hown hK hP 0 rfl rfl 6 (by decide) (hG (.fieldLink R_M 25 "ValueSieveModel" "greatest" "[J") gx15) (fun _ h9 => h9) rfl d_M_subtract_153 ?_
    refine lv_bipush (v := 18) hx hb d_M_subtract_156 (by decide) ?_
    refine lv_aload_n hx hb d_M_subtract_158 rfl (lv_at hl 0 rfl) ?_
    refine va_get (D := (dC, dI)) (ci := 2) (v := .ref (ad 6)) (C := R_M) (T := F_M) (N := 10) hx hb hts (fun w h => List.mem_cons_of_mem _ (uw_M w h)) hown hK hP 0 rfl rfl 6 (by decide) (hG (.fieldLink R_M 25 "ValueSieveModel" "greatest" "[J") gx15) (fun _ h9 => h9) rfl d_M_subtract_159 ?_
    refine lv_bipush (v := 16) hx hb d_M_subtract_162 (by decide) ?_
    refine ml_6 (P := 16) hx hb hK hP rfl (by decide) d_M_subtract_164 ?_
    refine lv_aload_n hx hb d_M_subtract_165 rfl (lv_at hl 0 rfl) ?_
    refine va_get (D := (dC, dI)) (ci := 2) (v := .ref (ad 5)) (C := R_M) (T := F_M) (N := 10) hx hb hts (fun w h => List.mem_cons_of_mem _ (uw_M w h)) hown hK hP 0 rfl rfl 5 (by decide) (hG (.fieldLink R_M 22 "ValueSieveModel" "least" "[J") gx14) (fun _ h9 => h9) rfl d_M_subtract_166 ?_
    refine lv_bipush (v := 17) hx hb d_M_subtract_169 (by decide) ?_
    refine ml_5 (P := 17) hx hb hK hP rfl (by decide) d_M_subtract_171 ?_
    refine lv_lsub hx hb d_M_subtract_172 ?_
    refine ms_6 (P := 18) (x := ((r151n 16).2.2.2.2.2.1) - ((r151n 17).2.2.2.2.1)) hx hb hK hP hD hS rfl (by decide) d_M_subtract_173 (fun H locs hP hD hS => ?_)
    obtain ⟨r173n, er173n⟩ : ∃ z, z = u6 r151n 18 (((r151n 16).2.2.2.2.2.1) - ((r151n 17).2.2.2.2.1)) := ⟨_, rfl⟩
    rw [← er173n] at hP hD
    refine K173u r173n (Eq.trans (hj.trans rfl) (congrArg (fun r173n => f_M_subtract_173u r0 r173n) er173n.symm)) H locs ?_ ?_ hS ls (lv_sub hl [] rfl)
    · with_reducible exact hP
    · with_reducible exact hD
  have K90 : ∀ (r90 : (Nat → VV)) (hj : f_M_subtract r0 = f_M_subtract_90 r0 r90) (H : Heap) (locs : List Loc) (hP : va_P (dC, dI) classes (mW ad cJ cZ c0 r90 w0 s0) H) (hD : va_D A (mW ad cJ cZ c0 r90 w0 s0)) (hS : va_S A s.heap H locs) (ls : Array Slot) (hl : lv_has ls 3 [(0, .ref (ad 0))]), W p l e (headSpec w_M_subtract ({ frames := 2, cells := 0, slots := 0, locals := 61 } : Room)).room s m ([.ref (ad 0)] : List Value).toArray below meth c H locs 0 0 (MQ below (va_Qv (fun _ : Unit => True) (mB (dC, dI) A (mW ad cJ cZ c0 (f_M_subtract r0) w0 s0)) A) ([.ref (ad 0)] : List Value).toArray s 0 0 A) (F0 m 90 ls []) := by
    intro r90 hj H locs hP hD hS ls hl
    refine lv_aload_n hx hb d_M_subtract_90 rfl (lv_at hl 0 rfl) ?_
    refine va_get (D := (dC, dI)) (ci := 2) (v := .ref (ad 5)) (C := R_M) (T := F_M) (N := 10) hx hb hts (fun w h => List.mem_cons_of_mem _ (uw_M w h)) hown hK hP 0 rfl rfl 5 (by decide) (hG (.fieldLink R_M 22 "ValueSieveModel" "least" "[J") gx14) (fun _ h9 => h9) rfl d_M_subtract_91 ?_
    refine lv_bipush (v := 16) hx hb d_M_subtract_94 (by decide) ?_
    refine ml_5 (P := 16) hx hb hK hP rfl (by decide) d_M_subtract_96 ?_
    refine lv_aload_n hx hb d_M_subtract_97 rfl (lv_at hl 0 rfl) ?_
    refine va_get (D := (dC, dI)) (ci := 2) (v := .ref (ad 6)) (C := R_M) (T := F_M) (N := 10) hx hb hts (fun w h => List.mem_cons_of_mem _ (uw_M w h)) hown hK hP 0 rfl rfl 6 (by decide) (hG (.fieldLink R_M 25 "ValueSieveModel" "greatest" "[J") gx15) (fun _ h9 => h9) rfl d_M_subtract_98 ?_
    refine lv_bipush (v := 17) hx hb d_M_subtract_101 (by decide) ?_
    refine ml_6 (P := 17) hx hb hK hP rfl (by decide) d_M_subtract_103 ?_
    refine rc_i (W.runS (As := [.long ((r90 16).2.2.2.2.1), .long ((r90 17).2.2.2.2.2.1)]) (rest := []) ⟨hx, hb, hml, hown, hts⟩ (c_M_differenceIsLong l ((r90 16).2.2.2.2.1) ((r90 17).2.2.2.2.2.1)) (va_cwS 2 hts (gxS gx142 gx143 gx0 gx144) rfl rfl rfl (by decide +kernel) ⟨(Nat.le_of_ble_eq_true rfl), (Nat.le_of_ble_eq_true rfl)⟩) ⟨bl0, fun U hU hW => ⟨rfl, trivial⟩⟩ rfl rfl hl.1 rfl (lv_room (Nat.le_of_ble_eq_true rfl)) d_M_subtract_104 ⟨Nat.zero_le _, Nat.zero_le _⟩) ?_
    refine wz_eq (tgt := 174) hx hb d_M_subtract_107 (by decide) (fun e1_174 => ?_) (fun e1_174 => ?_)
    · have fe : f_M_subtract r0 = r90 := hj.trans (by unfold f_M_subtract_90; first | with_reducible exact if_neg e1_174 | exact if_neg e1_174)
      exact W.vret hx hb hr (fun t ht hW => ⟨⟨(), rfl, trivial, by rw [ht, fe]; exact hP, by rw [fe]; exact hD⟩, hS.F ht⟩) hS.2.2 d_M_subtract_174
    · refine lv_aload_n hx hb d_M_subtract_110 rfl (lv_at hl 0 rfl) ?_
      refine va_get (D := (dC, dI)) (ci := 2) (v := .ref (ad 6)) (C := R_M) (T := F_M) (N := 10) hx hb hts (fun w h => List.mem_cons_of_mem _ (uw_M w h)) hown hK hP 0 rfl rfl 6 (by decide) (hG (.fieldLink R_M 25 "ValueSieveModel" "greatest" "[J") gx15) (fun _ h9 => h9) rfl d_M_subtract_111 ?_
      refine lv_bipush (v := 16) hx hb d_M_subtract_114 (by decide) ?_
      refine ml_6 (P := 16) hx hb hK hP rfl (by decide) d_M_subtract_116 ?_
      refine lv_aload_n hx hb d_M_subtract_117 rfl (lv_at hl 0 rfl) ?_
      refine va_get (D := (dC, dI)) (ci := 2) (v := .ref (ad 5)) (C := R_M) (T := F_M) (N := 10) hx hb hts (fun w h => List.mem_cons_of_mem _ (uw_M w h)) hown hK hP 0 rfl rfl 5 (by decide) (hG (.fieldLink R_M 22 "ValueSieveModel" "least" "[J") gx14) (fun _ h9 => h9) rfl d_M_subtract_118 ?_
      refine lv_bipush (v := 17) hx hb d_M_subtract_121 (by decide) ?_
      refine ml_5 (P := 17) hx hb hK hP rfl (by decide) d_M_subtract_123 ?_
      refine rc_i (W.runS (As := [.long ((r90 16).2.2.2.2.2.1), .long ((r90 17).2.2.2.2.1)]) (rest := []) ⟨hx, hb, hml, hown, hts⟩ (c_M_differenceIsLong l ((r90 16).2.2.2.2.2.1) ((r90 17).2.2.2.2.1)) (va_cwS 2 hts (gxS gx142 gx143 gx0 gx144) rfl rfl rfl (by decide +kernel) ⟨(Nat.le_of_ble_eq_true rfl), (Nat.le_of_ble_eq_true rfl)⟩) ⟨bl0, fun U hU hW => ⟨rfl, trivial⟩⟩ rfl rfl hl.1 rfl (lv_room (Nat.le_of_ble_eq_true rfl)) d_M_subtract_124 ⟨Nat.zero_le _, Nat.zero_le _⟩) ?_
      refine wz_eq (tgt := 174) hx hb d_M_subtract_127 (by decide) (fun e2_174 => ?_) (fun e2_174 => ?_)
      · have fe : f_M_subtract r0 = r90 := hj.trans (by unfold f_M_subtract_90; first | with_reducible exact (if_pos e1_174).trans (if_neg e2_174) | exact (if_pos e1_174).trans (if_neg e2_174))
        exact W.vret hx hb hr (fun t ht hW => ⟨⟨(), rfl, trivial, by rw [ht, fe]; exact hP, by rw [fe]; exact hD⟩, hS.F ht⟩) hS.2.2 d_M_subtract_174
      · refine lv_aload_n hx hb d_M_subtract_130 rfl (lv_at hl 0 rfl) ?_
        refine va_get (D := (dC, dI)) (ci := 2) (v := .ref (ad 5)) (C := R_M) (T := F_M) (N := 10) hx hb hts (fun w h => List.mem_cons_of_mem _ (uw_M w h)) hown hK hP 0 rfl rfl 5 (by decide) (hG (.fieldLink R_M 22 "ValueSieveModel" "least" "[J") gx14) (fun _ h9 => h9) rfl d_M_subtract_131 ?_
        refine lv_bipush (v := 18) hx hb d_M_subtract_134 (by decide) ?_
        refine lv_aload_n hx hb d_M_subtract_136 rfl (lv_at hl 0 rfl) ?_
        refine va_get (D := (dC, dI)) (ci := 2) (v := .ref (ad 5)) (C := R_M) (T := F_M) (N := 10) hx hb hts (fun w h => List.mem_cons_of_mem _ (uw_M w h)) hown hK hP 0 rfl rfl 5 (by decide) (hG (.fieldLink R_M 22 "ValueSieveModel" "least" "[J") gx14) (fun _ h9 => h9) rfl d_M_subtract_137 ?_
        refine lv_bipush (v := 16) hx hb d_M_subtract_140 (by decide) ?_
        refine ml_5 (P := 16) hx hb hK hP rfl (by decide) d_M_subtract_142 ?_
        refine lv_aload_n hx hb d_M_subtract_143 rfl (lv_at hl 0 rfl) ?_
        refine va_get (D := (dC, dI)) (ci := 2) (v := .ref (ad 6)) (C := R_M) (T := F_M) (N := 10) hx hb hts (fun w h => List.mem_cons_of_mem _ (uw_M w h)) hown hK hP 0 rfl rfl 6 (by decide) (hG (.fieldLink R_M 25 "ValueSieveModel" "greatest" "[J") gx15) (fun _ h9 => h9) rfl d_M_subtract_144 ?_
        refine lv_bipush (v := 17) hx hb d_M_subtract_147 (by decide) ?_
        refine ml_6 (P := 17) hx hb hK hP rfl (by decide) d_M_subtract_149 ?_
        refine lv_lsub hx hb d_M_subtract_150 ?_
        refine ms_5 (P := 18) (x := ((r90 16).2.2.2.2.1) - ((r90 17).2.2.2.2.2.1)) hx hb hK hP hD hS rfl (by decide) d_M_subtract_151 (fun H locs hP hD hS => ?_)
        obtain ⟨r151n, er151n⟩ : ∃ z, z = u5 r90 18 (((r90 16).2.2.2.2.1) - ((r90 17).2.2.2.2.2.1)) := ⟨_, rfl⟩
        rw [← er151n] at hP hD
        refine K151u r151n (Eq.trans (hj.trans (by unfold f_M_subtract_90; first | with_reducible exact (if_pos e1_174).trans (if_pos e2_174) | exact (if_pos e1_174).trans (if_pos e2_174))) (congrArg (fun r151n => f_M_subtract_151u r0 r151n) er151n.symm)) H locs ?_ ?_ hS ls (lv_sub hl [0] rfl)
        · with_reducible exact hP
        · with_reducible exact hD
  have K89u : ∀ (r89n : (Nat → VV)) (hj : f_M_subtract r0 = f_M_subtract_89u r0 r89n) (H : Heap) (locs : List Loc) (hP : va_P (dC, dI) classes (mW ad cJ cZ c0 r89n w0 s0) H) (hD : va_D A (mW ad cJ cZ c0 r89n w0 s0)) (hS : va_S A s.heap H locs) (ls : Array Slot) (hl : lv_has ls 3 [(0, .ref (ad 0))]), W p l e (headSpec w_M_subtract ({ frames := 2, cells := 0, slots := 0, locals := 61 } : Room)).room s m ([.ref (ad 0)] : List Value).toArray below meth c H locs 0 0 (MQ below (va_Qv (fun _ : Unit => True) (mB (dC, dI) A (mW ad cJ cZ c0 (f_M_subtract r0) w0 s0)) A) ([.ref (ad 0)] : List Value).toArray s 0 0 A) (F0 m 90 ls []) := by
    intro r89n hj H locs hP hD hS ls hl
    refine K90 r89n (hj.trans rfl) H locs ?_ ?_ hS ls (lv_sub hl [0] rfl)
    · with_reducible exact hP
    · with_reducible exact hD
  have K67u : ∀ (r67n : (Nat → VV)) (hj : f_M_subtract r0 = f_M_subtract_67u r0 r67n) (H : Heap) (locs : List Loc) (hP : va_P (dC, dI) classes (mW ad cJ cZ c0 r67n w0 s0) H) (hD : va_D A (mW ad cJ cZ c0 r67n w0 s0)) (hS : va_S A s.heap H locs) (ls : Array Slot) (hl : lv_has ls 3 [(0, .ref (ad 0))]), W p l e (headSpec w_M_subtract ({ frames := 2, cells := 0, slots := 0, locals := 61 } : Room)).room s m ([.ref (ad 0)] : List Value).toArray below meth c H locs 0 0 (MQ below (va_Qv (fun _ : Unit => True) (mB (dC, dI) A (mW ad cJ cZ c0 (f_M_subtract r0) w0 s0)) A) ([.ref (ad 0)] : List Value).toArray s 0 0 A) (F0 m 68 ls []) := by
    intro r67n hj H locs hP hD hS ls hl
    refine lv_aload_n hx hb d_M_subtract_68 rfl (lv_at hl 0 rfl) ?_
    refine va_get (D := (dC, dI)) (ci := 2) (v := .ref (ad 4)) (C := R_M) (T := F_M) (N := 10) hx hb hts (fun w h => List.mem_cons_of_mem _ (uw_M w h)) hown hK hP 0 rfl rfl 4 (by decide) (hG (.fieldLink R_M 19 "ValueSieveModel" "high" "[J") gx13) (fun _ h9 => h9) rfl d_M_subtract_69 ?_
    refine lv_bipush (v := 18) hx hb d_M_subtract_72 (by decide) ?_
    refine lv_aload_n hx hb d_M_subtract_74 rfl (lv_at hl 0 rfl) ?_
    refine va_get (D := (dC, dI)) (ci := 2) (v := .ref (ad 4)) (C := R_M) (T := F_M) (N := 10) hx hb hts (fun w h => List.mem_cons_of_mem _ (uw_M w h)) hown hK hP 0 rfl rfl 4 (by decide) (hG (.fieldLink R_M 19 "ValueSieveModel" "high" "[J") gx13) (fun _ h9 => h9) rfl d_M_subtract_75 ?_
    refine lv_bipush (v := 16) hx hb d_M_subtract_78 (by decide) ?_
    refine ml_4 (P := 16) hx hb hK hP rfl (by decide) d_M_subtract_80 ?_
    refine lv_aload_n hx hb d_M_subtract_81 rfl (lv_at hl 0 rfl) ?_
    refine va_get (D := (dC, dI)) (ci := 2) (v := .ref (ad 3)) (C := R_M) (T := F_M) (N := 10) hx hb hts (fun w h => List.mem_cons_of_mem _ (uw_M w h)) hown hK hP 0 rfl rfl 3 (by decide) (hG (.fieldLink R_M 16 "ValueSieveModel" "low" "[J") gx12) (fun _ h9 => h9) rfl d_M_subtract_82 ?_
    refine lv_bipush (v := 17) hx hb d_M_subtract_85 (by decide) ?_
    refine ml_3 (P := 17) hx hb hK hP rfl (by decide) d_M_subtract_87 ?_
    refine lv_lsub hx hb d_M_subtract_88 ?_
    refine ms_4 (P := 18) (x := ((r67n 16).2.2.2.1) - ((r67n 17).2.2.1)) hx hb hK hP hD hS rfl (by decide) d_M_subtract_89 (fun H locs hP hD hS => ?_)
    obtain ⟨r89n, er89n⟩ : ∃ z, z = u4 r67n 18 (((r67n 16).2.2.2.1) - ((r67n 17).2.2.1)) := ⟨_, rfl⟩
    rw [← er89n] at hP hD
    refine K89u r89n (Eq.trans (hj.trans rfl) (congrArg (fun r89n => f_M_subtract_89u r0 r89n) er89n.symm)) H locs ?_ ?_ hS ls (lv_sub hl [0] rfl)
    · with_reducible exact hP
    · with_reducible exact hD
  have K40v : ∀ (v40 : Bool) (v22 : Bool) (g2 : (Nat → VV)) (hj : f_M_subtract r0 = f_M_subtract_40v r0 v40 v22 g2) (H : Heap) (locs : List Loc) (hP : va_P (dC, dI) classes (mW ad cJ cZ c0 g2 w0 s0) H) (hD : va_D A (mW ad cJ cZ c0 g2 w0 s0)) (hS : va_S A s.heap H locs) (ls : Array Slot) (hl : lv_has ls 3 [(2, .int (bI v40)), (1, .int (bI v22)), (0, .ref (ad 0))]), W p l e (headSpec w_M_subtract ({ frames := 2, cells := 0, slots := 0, locals := 61 } : Room)).room s m ([.ref (ad 0)] : List Value).toArray below meth c H locs 0 0 (MQ below (va_Qv (fun _ : Unit => True) (mB (dC, dI) A (mW ad cJ cZ c0 (f_M_subtract r0) w0 s0)) A) ([.ref (ad 0)] : List Value).toArray s 0 0 A) (F0 m 41 ls []) := by
    intro v40 v22 g2 hj H locs hP hD hS ls hl
    refine lv_iload_n hx hb d_M_subtract_41 rfl (lv_at hl 1 rfl) ?_
    refine lv_iload_n hx hb d_M_subtract_42 rfl (lv_at hl 0 rfl) ?_
    refine lv_icmp_ne (tgt := 90) hx hb d_M_subtract_43 (by decide) (fun e1_90 => ?_) (fun e1_90 => ?_)
    · refine K90 g2 (hj.trans (by unfold f_M_subtract_40v; first | with_reducible exact if_neg e1_90 | exact if_neg e1_90)) H locs ?_ ?_ hS ls (lv_sub hl [2] rfl)
      · with_reducible exact hP
      · with_reducible exact hD
    · refine lv_aload_n hx hb d_M_subtract_46 rfl (lv_at hl 2 rfl) ?_
      refine va_get (D := (dC, dI)) (ci := 2) (v := .ref (ad 3)) (C := R_M) (T := F_M) (N := 10) hx hb hts (fun w h => List.mem_cons_of_mem _ (uw_M w h)) hown hK hP 0 rfl rfl 3 (by decide) (hG (.fieldLink R_M 16 "ValueSieveModel" "low" "[J") gx12) (fun _ h9 => h9) rfl d_M_subtract_47 ?_
      refine lv_bipush (v := 18) hx hb d_M_subtract_50 (by decide) ?_
      refine lv_aload_n hx hb d_M_subtract_52 rfl (lv_at hl 2 rfl) ?_
      refine va_get (D := (dC, dI)) (ci := 2) (v := .ref (ad 3)) (C := R_M) (T := F_M) (N := 10) hx hb hts (fun w h => List.mem_cons_of_mem _ (uw_M w h)) hown hK hP 0 rfl rfl 3 (by decide) (hG (.fieldLink R_M 16 "ValueSieveModel" "low" "[J") gx12) (fun _ h9 => h9) rfl d_M_subtract_53 ?_
      refine lv_bipush (v := 16) hx hb d_M_subtract_56 (by decide) ?_
      refine ml_3 (P := 16) hx hb hK hP rfl (by decide) d_M_subtract_58 ?_
      refine lv_aload_n hx hb d_M_subtract_59 rfl (lv_at hl 2 rfl) ?_
      refine va_get (D := (dC, dI)) (ci := 2) (v := .ref (ad 4)) (C := R_M) (T := F_M) (N := 10) hx hb hts (fun w h => List.mem_cons_of_mem _ (uw_M w h)) hown hK hP 0 rfl rfl 4 (by decide) (hG (.fieldLink R_M 19 "ValueSieveModel" "high" "[J") gx13) (fun _ h9 => h9) rfl d_M_subtract_60 ?_
      refine lv_bipush (v := 17) hx hb d_M_subtract_63 (by decide) ?_
      refine ml_4 (P := 17) hx hb hK hP rfl (by decide) d_M_subtract_65 ?_
      refine lv_lsub hx hb d_M_subtract_66 ?_
      refine ms_3 (P := 18) (x := ((g2 16).2.2.1) - ((g2 17).2.2.2.1)) hx hb hK hP hD hS rfl (by decide) d_M_subtract_67 (fun H locs hP hD hS => ?_)
      obtain ⟨r67n, er67n⟩ : ∃ z, z = u3 g2 18 (((g2 16).2.2.1) - ((g2 17).2.2.2.1)) := ⟨_, rfl⟩
      rw [← er67n] at hP hD
      refine K67u r67n (Eq.trans (hj.trans (by unfold f_M_subtract_40v; first | with_reducible exact if_pos e1_90 | exact if_pos e1_90)) (congrArg (fun r67n => f_M_subtract_67u r0 r67n) er67n.symm)) H locs ?_ ?_ hS ls (lv_sub hl [2] rfl)
      · with_reducible exact hP
      · with_reducible exact hD
  have K22v : ∀ (v22 : Bool) (g2 : (Nat → VV)) (hj : f_M_subtract r0 = f_M_subtract_22v r0 v22 g2) (H : Heap) (locs : List Loc) (hP : va_P (dC, dI) classes (mW ad cJ cZ c0 g2 w0 s0) H) (hD : va_D A (mW ad cJ cZ c0 g2 w0 s0)) (hS : va_S A s.heap H locs) (ls : Array Slot) (hl : lv_has ls 3 [(1, .int (bI v22)), (0, .ref (ad 0))]), W p l e (headSpec w_M_subtract ({ frames := 2, cells := 0, slots := 0, locals := 61 } : Room)).room s m ([.ref (ad 0)] : List Value).toArray below meth c H locs 0 0 (MQ below (va_Qv (fun _ : Unit => True) (mB (dC, dI) A (mW ad cJ cZ c0 (f_M_subtract r0) w0 s0)) A) ([.ref (ad 0)] : List Value).toArray s 0 0 A) (F0 m 23 ls []) := by
    intro v22 g2 hj H locs hP hD hS ls hl
    refine lv_aload_n hx hb d_M_subtract_23 rfl (lv_at hl 1 rfl) ?_
    refine va_get (D := (dC, dI)) (ci := 2) (v := .ref (ad 4)) (C := R_M) (T := F_M) (N := 10) hx hb hts (fun w h => List.mem_cons_of_mem _ (uw_M w h)) hown hK hP 0 rfl rfl 4 (by decide) (hG (.fieldLink R_M 19 "ValueSieveModel" "high" "[J") gx13) (fun _ h9 => h9) rfl d_M_subtract_24 ?_
    refine lv_bipush (v := 16) hx hb d_M_subtract_27 (by decide) ?_
    refine ml_4 (P := 16) hx hb hK hP rfl (by decide) d_M_subtract_29 ?_
    refine lv_aload_n hx hb d_M_subtract_30 rfl (lv_at hl 1 rfl) ?_
    refine va_get (D := (dC, dI)) (ci := 2) (v := .ref (ad 3)) (C := R_M) (T := F_M) (N := 10) hx hb hts (fun w h => List.mem_cons_of_mem _ (uw_M w h)) hown hK hP 0 rfl rfl 3 (by decide) (hG (.fieldLink R_M 16 "ValueSieveModel" "low" "[J") gx12) (fun _ h9 => h9) rfl d_M_subtract_31 ?_
    refine lv_bipush (v := 17) hx hb d_M_subtract_34 (by decide) ?_
    refine ml_3 (P := 17) hx hb hK hP rfl (by decide) d_M_subtract_36 ?_
    refine rc_i (W.runS (As := [.long ((g2 16).2.2.2.1), .long ((g2 17).2.2.1)]) (rest := []) ⟨hx, hb, hml, hown, hts⟩ (c_M_below l ((g2 16).2.2.2.1) ((g2 17).2.2.1)) (va_cwS 2 hts (gxS gx57 gx58 gx0 gx59) rfl rfl rfl (by decide +kernel) ⟨(Nat.le_of_ble_eq_true rfl), (Nat.le_of_ble_eq_true rfl)⟩) ⟨bl0, fun U hU hW => ⟨rfl, trivial⟩⟩ rfl rfl hl.1 rfl (lv_room (Nat.le_of_ble_eq_true rfl)) d_M_subtract_37 ⟨Nat.zero_le _, Nat.zero_le _⟩) ?_
    refine top_b (fun v40 ev40 => ?_)
    refine lv_istore_n (lv' := [(2, .int (bI v40)), (1, .int (bI v22)), (0, .ref (ad 0))]) hx hb d_M_subtract_40 rfl hl (by decide) rfl (fun ls hl => ?_)
    refine K40v v40 v22 g2 (Eq.trans (hj.trans rfl) (congrArg (fun v40 => f_M_subtract_40v r0 v40 v22 g2) ev40.symm)) H locs ?_ ?_ hS ls (lv_sub hl [0, 1, 2] rfl)
    · with_reducible exact hP
    · with_reducible exact hD
  have K2g : ∀ (g2 : (Nat → VV)) (hj : f_M_subtract r0 = f_M_subtract_2g r0 g2) (H : Heap) (locs : List Loc) (hP : va_P (dC, dI) classes (mW ad cJ cZ c0 g2 w0 s0) H) (hD : va_D A (mW ad cJ cZ c0 g2 w0 s0)) (hS : va_S A s.heap H locs) (ls : Array Slot) (hl : lv_has ls 3 [(0, .ref (ad 0))]), W p l e (headSpec w_M_subtract ({ frames := 2, cells := 0, slots := 0, locals := 61 } : Room)).room s m ([.ref (ad 0)] : List Value).toArray below meth c H locs 0 0 (MQ below (va_Qv (fun _ : Unit => True) (mB (dC, dI) A (mW ad cJ cZ c0 (f_M_subtract r0) w0 s0)) A) ([.ref (ad 0)] : List Value).toArray s 0 0 A) (F0 m 5 ls []) := by
    intro g2 hj H locs hP hD hS ls hl
    refine lv_aload_n hx hb d_M_subtract_5 rfl (lv_at hl 0 rfl) ?_
    refine va_get (D := (dC, dI)) (ci := 2) (v := .ref (ad 3)) (C := R_M) (T := F_M) (N := 10) hx hb hts (fun w h => List.mem_cons_of_mem _ (uw_M w h)) hown hK hP 0 rfl rfl 3 (by decide) (hG (.fieldLink R_M 16 "ValueSieveModel" "low" "[J") gx12) (fun _ h9 => h9) rfl d_M_subtract_6 ?_
    refine lv_bipush (v := 16) hx hb d_M_subtract_9 (by decide) ?_
    refine ml_3 (P := 16) hx hb hK hP rfl (by decide) d_M_subtract_11 ?_
    refine lv_aload_n hx hb d_M_subtract_12 rfl (lv_at hl 0 rfl) ?_
    refine va_get (D := (dC, dI)) (ci := 2) (v := .ref (ad 4)) (C := R_M) (T := F_M) (N := 10) hx hb hts (fun w h => List.mem_cons_of_mem _ (uw_M w h)) hown hK hP 0 rfl rfl 4 (by decide) (hG (.fieldLink R_M 19 "ValueSieveModel" "high" "[J") gx13) (fun _ h9 => h9) rfl d_M_subtract_13 ?_
    refine lv_bipush (v := 17) hx hb d_M_subtract_16 (by decide) ?_
    refine ml_4 (P := 17) hx hb hK hP rfl (by decide) d_M_subtract_18 ?_
    refine rc_i (W.runS (As := [.long ((g2 16).2.2.1), .long ((g2 17).2.2.2.1)]) (rest := []) ⟨hx, hb, hml, hown, hts⟩ (c_M_below l ((g2 16).2.2.1) ((g2 17).2.2.2.1)) (va_cwS 2 hts (gxS gx57 gx58 gx0 gx59) rfl rfl rfl (by decide +kernel) ⟨(Nat.le_of_ble_eq_true rfl), (Nat.le_of_ble_eq_true rfl)⟩) ⟨bl0, fun U hU hW => ⟨rfl, trivial⟩⟩ rfl rfl hl.1 rfl (lv_room (Nat.le_of_ble_eq_true rfl)) d_M_subtract_19 ⟨Nat.zero_le _, Nat.zero_le _⟩) ?_
    refine top_b (fun v22 ev22 => ?_)
    refine lv_istore_n (lv' := [(1, .int (bI v22)), (0, .ref (ad 0))]) hx hb d_M_subtract_22 rfl hl (by decide) rfl (fun ls hl => ?_)
    refine K22v v22 g2 (Eq.trans (hj.trans rfl) (congrArg (fun v22 => f_M_subtract_22v r0 v22 g2) ev22.symm)) H locs ?_ ?_ hS ls (lv_sub hl [0, 1] rfl)
    · with_reducible exact hP
    · with_reducible exact hD
  refine lv_aload_n hx hb d_M_subtract_0 rfl (lv_at hl 0 rfl) ?_
  refine lv_iconst (v := 1) hx hb d_M_subtract_1 (by decide) ?_
  refine mm_v (F := f_M_sumBits r0 true) (w1 := fun g2 => (mW ad cJ cZ c0 g2 w0 s0)) (va_runV (As := [.int (1)]) (rest := []) ⟨hx, hb, hml, hown, hts⟩ (c_M_sumBits l dC dI ad cJ cZ s.heap.size c0 r0 w0 s0 true) (cwV 1 hts (gxV gx130 gx131 gx283 gx0 gx132) rfl rfl rfl (by decide +kernel) ⟨(Nat.le_of_ble_eq_true rfl), (Nat.le_of_ble_eq_true rfl)⟩) ⟨blp, va_recv hK hP (ci := 2) (q0 := 0) rfl rfl, fun U hU hW => ⟨rfl, by rw [hU], by rw [hU]; exact hP, va_K.moved hW.alike hK, hD.weaken (fun _ _ _ _ => trivial)⟩⟩ rfl rfl hl.1 rfl (lv_room (Nat.le_of_ble_eq_true rfl)) d_M_subtract_2 ⟨Nat.zero_le _, Nat.zero_le _⟩) hD hS hA (fun g2 eg2 H locs hP hD hS => ?_)
  refine K2g g2 (Eq.trans (rfl) (congrArg (fun g2 => f_M_subtract_2g r0 g2) eg2)) H locs ?_ ?_ hS ls (lv_sub hl [0] rfl)
  · with_reducible exact hP
  · with_reducible exact hD
