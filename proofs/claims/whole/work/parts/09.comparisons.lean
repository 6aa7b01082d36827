-- ValueSieve$Comparisons.isSo
theorem d_C_isSo_0 : decode b_C_isSo 0 = .ok (.iload_n 0, 1) := by decide +kernel
theorem d_C_isSo_1 : decode b_C_isSo 1 = .ok (.tableswitch 185 0 10 #[59, 71, 83, 89, 103, 109, 123, 135, 147, 159, 171], 59) := by decide +kernel
theorem d_C_isSo_60 : decode b_C_isSo 60 = .ok (.lload_n 1, 1) := by decide +kernel
theorem d_C_isSo_61 : decode b_C_isSo 61 = .ok (.lload_n 3, 1) := by decide +kernel
theorem d_C_isSo_62 : decode b_C_isSo 62 = .ok (.lcmp, 1) := by decide +kernel
theorem d_C_isSo_63 : decode b_C_isSo 63 = .ok (.ifCond .ne 7, 3) := by decide +kernel
theorem d_C_isSo_66 : decode b_C_isSo 66 = .ok (.iconst 1, 1) := by decide +kernel
theorem d_C_isSo_67 : decode b_C_isSo 67 = .ok (.goto 4, 3) := by decide +kernel
theorem d_C_isSo_70 : decode b_C_isSo 70 = .ok (.iconst 0, 1) := by decide +kernel
theorem d_C_isSo_71 : decode b_C_isSo 71 = .ok (.ireturn, 1) := by decide +kernel
theorem d_C_isSo_72 : decode b_C_isSo 72 = .ok (.lload_n 1, 1) := by decide +kernel
theorem d_C_isSo_73 : decode b_C_isSo 73 = .ok (.lload_n 3, 1) := by decide +kernel
theorem d_C_isSo_74 : decode b_C_isSo 74 = .ok (.lcmp, 1) := by decide +kernel
theorem d_C_isSo_75 : decode b_C_isSo 75 = .ok (.ifCond .eq 7, 3) := by decide +kernel
theorem d_C_isSo_78 : decode b_C_isSo 78 = .ok (.iconst 1, 1) := by decide +kernel
theorem d_C_isSo_79 : decode b_C_isSo 79 = .ok (.goto 4, 3) := by decide +kernel
theorem d_C_isSo_82 : decode b_C_isSo 82 = .ok (.iconst 0, 1) := by decide +kernel
theorem d_C_isSo_83 : decode b_C_isSo 83 = .ok (.ireturn, 1) := by decide +kernel
theorem d_C_isSo_84 : decode b_C_isSo 84 = .ok (.lload_n 1, 1) := by decide +kernel
theorem d_C_isSo_85 : decode b_C_isSo 85 = .ok (.lload_n 3, 1) := by decide +kernel
theorem d_C_isSo_86 : decode b_C_isSo 86 = .ok (.invokestatic 7, 3) := by decide +kernel
theorem d_C_isSo_89 : decode b_C_isSo 89 = .ok (.ireturn, 1) := by decide +kernel
theorem d_C_isSo_90 : decode b_C_isSo 90 = .ok (.lload_n 3, 1) := by decide +kernel
theorem d_C_isSo_91 : decode b_C_isSo 91 = .ok (.lload_n 1, 1) := by decide +kernel
theorem d_C_isSo_92 : decode b_C_isSo 92 = .ok (.invokestatic 7, 3) := by decide +kernel
theorem d_C_isSo_95 : decode b_C_isSo 95 = .ok (.ifCond .ne 7, 3) := by decide +kernel
theorem d_C_isSo_98 : decode b_C_isSo 98 = .ok (.iconst 1, 1) := by decide +kernel
theorem d_C_isSo_99 : decode b_C_isSo 99 = .ok (.goto 4, 3) := by decide +kernel
theorem d_C_isSo_102 : decode b_C_isSo 102 = .ok (.iconst 0, 1) := by decide +kernel
theorem d_C_isSo_103 : decode b_C_isSo 103 = .ok (.ireturn, 1) := by decide +kernel
theorem d_C_isSo_104 : decode b_C_isSo 104 = .ok (.lload_n 3, 1) := by decide +kernel
theorem d_C_isSo_105 : decode b_C_isSo 105 = .ok (.lload_n 1, 1) := by decide +kernel
theorem d_C_isSo_106 : decode b_C_isSo 106 = .ok (.invokestatic 7, 3) := by decide +kernel
theorem d_C_isSo_109 : decode b_C_isSo 109 = .ok (.ireturn, 1) := by decide +kernel
theorem d_C_isSo_110 : decode b_C_isSo 110 = .ok (.lload_n 1, 1) := by decide +kernel
theorem d_C_isSo_111 : decode b_C_isSo 111 = .ok (.lload_n 3, 1) := by decide +kernel
theorem d_C_isSo_112 : decode b_C_isSo 112 = .ok (.invokestatic 7, 3) := by decide +kernel
theorem d_C_isSo_115 : decode b_C_isSo 115 = .ok (.ifCond .ne 7, 3) := by decide +kernel
theorem d_C_isSo_118 : decode b_C_isSo 118 = .ok (.iconst 1, 1) := by decide +kernel
theorem d_C_isSo_119 : decode b_C_isSo 119 = .ok (.goto 4, 3) := by decide +kernel
theorem d_C_isSo_122 : decode b_C_isSo 122 = .ok (.iconst 0, 1) := by decide +kernel
theorem d_C_isSo_123 : decode b_C_isSo 123 = .ok (.ireturn, 1) := by decide +kernel
theorem d_C_isSo_124 : decode b_C_isSo 124 = .ok (.lload_n 1, 1) := by decide +kernel
theorem d_C_isSo_125 : decode b_C_isSo 125 = .ok (.lload_n 3, 1) := by decide +kernel
theorem d_C_isSo_126 : decode b_C_isSo 126 = .ok (.lcmp, 1) := by decide +kernel
theorem d_C_isSo_127 : decode b_C_isSo 127 = .ok (.ifCond .ge 7, 3) := by decide +kernel
theorem d_C_isSo_130 : decode b_C_isSo 130 = .ok (.iconst 1, 1) := by decide +kernel
theorem d_C_isSo_131 : decode b_C_isSo 131 = .ok (.goto 4, 3) := by decide +kernel
theorem d_C_isSo_134 : decode b_C_isSo 134 = .ok (.iconst 0, 1) := by decide +kernel
theorem d_C_isSo_135 : decode b_C_isSo 135 = .ok (.ireturn, 1) := by decide +kernel
theorem d_C_isSo_136 : decode b_C_isSo 136 = .ok (.lload_n 1, 1) := by decide +kernel
theorem d_C_isSo_137 : decode b_C_isSo 137 = .ok (.lload_n 3, 1) := by decide +kernel
theorem d_C_isSo_138 : decode b_C_isSo 138 = .ok (.lcmp, 1) := by decide +kernel
theorem d_C_isSo_139 : decode b_C_isSo 139 = .ok (.ifCond .gt 7, 3) := by decide +kernel
theorem d_C_isSo_142 : decode b_C_isSo 142 = .ok (.iconst 1, 1) := by decide +kernel
theorem d_C_isSo_143 : decode b_C_isSo 143 = .ok (.goto 4, 3) := by decide +kernel
theorem d_C_isSo_146 : decode b_C_isSo 146 = .ok (.iconst 0, 1) := by decide +kernel
theorem d_C_isSo_147 : decode b_C_isSo 147 = .ok (.ireturn, 1) := by decide +kernel
theorem d_C_isSo_148 : decode b_C_isSo 148 = .ok (.lload_n 1, 1) := by decide +kernel
theorem d_C_isSo_149 : decode b_C_isSo 149 = .ok (.lload_n 3, 1) := by decide +kernel
theorem d_C_isSo_150 : decode b_C_isSo 150 = .ok (.lcmp, 1) := by decide +kernel
theorem d_C_isSo_151 : decode b_C_isSo 151 = .ok (.ifCond .le 7, 3) := by decide +kernel
theorem d_C_isSo_154 : decode b_C_isSo 154 = .ok (.iconst 1, 1) := by decide +kernel
theorem d_C_isSo_155 : decode b_C_isSo 155 = .ok (.goto 4, 3) := by decide +kernel
theorem d_C_isSo_158 : decode b_C_isSo 158 = .ok (.iconst 0, 1) := by decide +kernel
theorem d_C_isSo_159 : decode b_C_isSo 159 = .ok (.ireturn, 1) := by decide +kernel
theorem d_C_isSo_160 : decode b_C_isSo 160 = .ok (.lload_n 1, 1) := by decide +kernel
theorem d_C_isSo_161 : decode b_C_isSo 161 = .ok (.lload_n 3, 1) := by decide +kernel
theorem d_C_isSo_162 : decode b_C_isSo 162 = .ok (.lcmp, 1) := by decide +kernel
theorem d_C_isSo_163 : decode b_C_isSo 163 = .ok (.ifCond .lt 7, 3) := by decide +kernel
theorem d_C_isSo_166 : decode b_C_isSo 166 = .ok (.iconst 1, 1) := by decide +kernel
theorem d_C_isSo_167 : decode b_C_isSo 167 = .ok (.goto 4, 3) := by decide +kernel
theorem d_C_isSo_170 : decode b_C_isSo 170 = .ok (.iconst 0, 1) := by decide +kernel
theorem d_C_isSo_171 : decode b_C_isSo 171 = .ok (.ireturn, 1) := by decide +kernel
theorem d_C_isSo_172 : decode b_C_isSo 172 = .ok (.lload_n 1, 1) := by decide +kernel
theorem d_C_isSo_173 : decode b_C_isSo 173 = .ok (.lload_n 3, 1) := by decide +kernel
theorem d_C_isSo_174 : decode b_C_isSo 174 = .ok (.land, 1) := by decide +kernel
theorem d_C_isSo_175 : decode b_C_isSo 175 = .ok (.lconst 0, 1) := by decide +kernel
theorem d_C_isSo_176 : decode b_C_isSo 176 = .ok (.lcmp, 1) := by decide +kernel
theorem d_C_isSo_177 : decode b_C_isSo 177 = .ok (.ifCond .eq 7, 3) := by decide +kernel
theorem d_C_isSo_180 : decode b_C_isSo 180 = .ok (.iconst 1, 1) := by decide +kernel
theorem d_C_isSo_181 : decode b_C_isSo 181 = .ok (.goto 4, 3) := by decide +kernel
theorem d_C_isSo_184 : decode b_C_isSo 184 = .ok (.iconst 0, 1) := by decide +kernel
theorem d_C_isSo_185 : decode b_C_isSo 185 = .ok (.ireturn, 1) := by decide +kernel
theorem d_C_isSo_186 : decode b_C_isSo 186 = .ok (.lload_n 1, 1) := by decide +kernel
theorem d_C_isSo_187 : decode b_C_isSo 187 = .ok (.lload_n 3, 1) := by decide +kernel
theorem d_C_isSo_188 : decode b_C_isSo 188 = .ok (.land, 1) := by decide +kernel
theorem d_C_isSo_189 : decode b_C_isSo 189 = .ok (.lconst 0, 1) := by decide +kernel
theorem d_C_isSo_190 : decode b_C_isSo 190 = .ok (.lcmp, 1) := by decide +kernel
theorem d_C_isSo_191 : decode b_C_isSo 191 = .ok (.ifCond .ne 7, 3) := by decide +kernel
theorem d_C_isSo_194 : decode b_C_isSo 194 = .ok (.iconst 1, 1) := by decide +kernel
theorem d_C_isSo_195 : decode b_C_isSo 195 = .ok (.goto 4, 3) := by decide +kernel
theorem d_C_isSo_198 : decode b_C_isSo 198 = .ok (.iconst 0, 1) := by decide +kernel
theorem d_C_isSo_199 : decode b_C_isSo 199 = .ok (.ireturn, 1) := by decide +kernel
def f_C_isSo (p0 : Int32) (p1 : Int64) (p2 : Int64) : Int32 := (if p0 = 0 then (if p1 = p2 then 1 else 0) else (if p0 = 1 then (if p1 = p2 then 0 else 1) else (if p0 = 2 then (f_N_below p1 p2) else (if p0 = 3 then (if (f_N_below p2 p1) = 0 then 1 else 0) else (if p0 = 4 then (f_N_below p2 p1) else (if p0 = 5 then (if (f_N_below p1 p2) = 0 then 1 else 0) else (if p0 = 6 then (if p1 < p2 then 1 else 0) else (if p0 = 7 then (if p2 < p1 then 0 else 1) else (if p0 = 8 then (if p2 < p1 then 1 else 0) else (if p0 = 9 then (if p1 < p2 then 0 else 1) else (if p0 = 10 then (if (p1 &&& p2) = 0 then 0 else 1) else (if (p1 &&& p2) = 0 then 1 else 0))))))))))))
set_option maxRecDepth 100000 in
set_option maxHeartbeats 4000000 in
theorem c_C_isSo (l : Launch) (p0 : Int32) (p1 : Int64) (p2 : Int64) : Met l y_C_isSo w_C_isSo ({ frames := 1, cells := 0, slots := 0, locals := 23 } : Room) (va_Pc [.int (p0), .long (p1), .long (p2)] (fun _ => True)) (vp_Si (fun r => r = f_C_isSo p0 p1 p2)) 0 0 (fun _ => False) := by
  refine Met.ofW (cc := b_C_isSo) (maxL := 5) (ret := (some .boolean)) (by decide) rfl ?_
  intro p e s m args below meth c s₁ B hml hv
  obtain ⟨rfl, -⟩ := hv
  have hx := B.exec
  have hb := B.bytes
  have hr := B.returns
  have hts := atoms_spec (ws := w_C_isSo) B.pre
  have hG : ∀ w ∈ gG, w.before _ s = true := fun w h => hts w (List.mem_cons_of_mem _ h)
  have hown : s.vm.findClass R_C = some m.cls := findClass_of_methodNamed B.named
  have hlocks := B.notSynchronized
  have hl := lv_entry ([.int (p0), .long (p1), .long (p2)]) (n := 5) (Nat.le_of_ble_eq_true rfl)
  rw [lg_entry_eq]
  generalize (lg_sl ([.int (p0), .long (p1), .long (p2)]) ++ List.replicate (5 - (lg_sl ([.int (p0), .long (p1), .long (p2)])).length) Slot.unset).toArray = ls at hl ⊢
  have hl : lv_has ls 5 [(0, .int (p0)), (1, .long (p1)), (3, .long (p2))] := hl
  refine lv_iload_n hx hb d_C_isSo_0 rfl (lv_at hl 0 rfl) ?_
  by_cases e1_60 : p0 = 0
  · refine lv_tableIn (off := 59) (tgt := 60) hx hb d_C_isSo_1 (by rw [e1_60]; decide) (by rw [e1_60]; decide) (by rw [e1_60]; rfl) (by decide) ?_
    refine lv_lload_n hx hb d_C_isSo_60 rfl (lv_at hl 1 rfl) ?_
    refine lv_lload_n hx hb d_C_isSo_61 rfl (lv_at hl 2 rfl) ?_
    refine wl_ne (tgt := 70) hx hb d_C_isSo_62 d_C_isSo_63 (by decide) (fun e2_70 => ?_) (fun e2_70 => ?_)
    · refine lv_iconst (v := 0) hx hb d_C_isSo_70 (by decide) ?_
      have fe : f_C_isSo p0 p1 p2 = 0 := by unfold f_C_isSo; first | with_reducible exact (if_pos e1_60).trans (if_neg e2_70) | exact (if_pos e1_60).trans (if_neg e2_70)
      have hn : narrow .boolean (.int (0)) = .int (0) := rfl
      exact W.zret (v := 0) hx hb hr hn (fun t ht hW => ⟨_, rfl, fe.symm, ht⟩) t_nil d_C_isSo_71
    · refine lv_iconst (v := 1) hx hb d_C_isSo_66 (by decide) ?_
      refine lv_goto (tgt := 71) hx hb d_C_isSo_67 (by decide) ?_
      have fe : f_C_isSo p0 p1 p2 = 1 := by unfold f_C_isSo; first | with_reducible exact (if_pos e1_60).trans (if_pos e2_70) | exact (if_pos e1_60).trans (if_pos e2_70)
      have hn : narrow .boolean (.int (1)) = .int (1) := rfl
      exact W.zret (v := 1) hx hb hr hn (fun t ht hW => ⟨_, rfl, fe.symm, ht⟩) t_nil d_C_isSo_71
  by_cases e3_72 : p0 = 1
  · refine lv_tableIn (off := 71) (tgt := 72) hx hb d_C_isSo_1 (by rw [e3_72]; decide) (by rw [e3_72]; decide) (by rw [e3_72]; rfl) (by decide) ?_
    refine lv_lload_n hx hb d_C_isSo_72 rfl (lv_at hl 1 rfl) ?_
    refine lv_lload_n hx hb d_C_isSo_73 rfl (lv_at hl 2 rfl) ?_
    refine wl_eq (tgt := 82) hx hb d_C_isSo_74 d_C_isSo_75 (by decide) (fun e4_82 => ?_) (fun e4_82 => ?_)
    · refine lv_iconst (v := 0) hx hb d_C_isSo_82 (by decide) ?_
      have fe : f_C_isSo p0 p1 p2 = 0 := by unfold f_C_isSo; first | with_reducible exact (if_neg e1_60).trans ((if_pos e3_72).trans (if_pos e4_82)) | exact (if_neg e1_60).trans ((if_pos e3_72).trans (if_pos e4_82))
      have hn : narrow .boolean (.int (0)) = .int (0) := rfl
      exact W.zret (v := 0) hx hb hr hn (fun t ht hW => ⟨_, rfl, fe.symm, ht⟩) t_nil d_C_isSo_83
    · refine lv_iconst (v := 1) hx hb d_C_isSo_78 (by decide) ?_
      refine lv_goto (tgt := 83) hx hb d_C_isSo_79 (by decide) ?_
      have fe : f_C_isSo p0 p1 p2 = 1 := by unfold f_C_isSo; first | with_reducible exact (if_neg e1_60).trans ((if_pos e3_72).trans (if_neg e4_82)) | exact (if_neg e1_60).trans ((if_pos e3_72).trans (if_neg e4_82))
      have hn : narrow .boolean (.int (1)) = .int (1) := rfl
      exact W.zret (v := 1) hx hb hr hn (fun t ht hW => ⟨_, rfl, fe.symm, ht⟩) t_nil d_C_isSo_83
  by_cases e5_84 : p0 = 2
  · refine lv_tableIn (off := 83) (tgt := 84) hx hb d_C_isSo_1 (by rw [e5_84]; decide) (by rw [e5_84]; decide) (by rw [e5_84]; rfl) (by decide) ?_
    refine lv_lload_n hx hb d_C_isSo_84 rfl (lv_at hl 1 rfl) ?_
    refine lv_lload_n hx hb d_C_isSo_85 rfl (lv_at hl 2 rfl) ?_
    refine rc_i (W.runS (As := [.long (p1), .long (p2)]) (rest := []) ⟨hx, hb, hml, hown, hts⟩ (c_N_below l p1 p2) (va_cwS 2 hts (gS gw299 gw105 gw2 gw106) rfl rfl rfl (by decide +kernel) ⟨(Nat.le_of_ble_eq_true rfl), (Nat.le_of_ble_eq_true rfl)⟩) ⟨bl0, fun U hU hW => ⟨rfl, trivial⟩⟩ rfl rfl hl.1 rfl (lv_room (Nat.le_of_ble_eq_true rfl)) d_C_isSo_86 ⟨Nat.zero_le _, Nat.zero_le _⟩) ?_
    have fe : f_C_isSo p0 p1 p2 = f_N_below p1 p2 := by unfold f_C_isSo; first | with_reducible exact (if_neg e1_60).trans ((if_neg e3_72).trans (if_pos e5_84)) | exact (if_neg e1_60).trans ((if_neg e3_72).trans (if_pos e5_84))
    have hn : narrow .boolean (.int (f_N_below p1 p2)) = .int (f_N_below p1 p2) := zn_N_below p1 p2
    exact W.zret (v := f_N_below p1 p2) hx hb hr hn (fun t ht hW => ⟨_, rfl, fe.symm, ht⟩) t_nil d_C_isSo_89
  by_cases e6_90 : p0 = 3
  · refine lv_tableIn (off := 89) (tgt := 90) hx hb d_C_isSo_1 (by rw [e6_90]; decide) (by rw [e6_90]; decide) (by rw [e6_90]; rfl) (by decide) ?_
    refine lv_lload_n hx hb d_C_isSo_90 rfl (lv_at hl 2 rfl) ?_
    refine lv_lload_n hx hb d_C_isSo_91 rfl (lv_at hl 1 rfl) ?_
    refine rc_i (W.runS (As := [.long (p2), .long (p1)]) (rest := []) ⟨hx, hb, hml, hown, hts⟩ (c_N_below l p2 p1) (va_cwS 2 hts (gS gw299 gw105 gw2 gw106) rfl rfl rfl (by decide +kernel) ⟨(Nat.le_of_ble_eq_true rfl), (Nat.le_of_ble_eq_true rfl)⟩) ⟨bl0, fun U hU hW => ⟨rfl, trivial⟩⟩ rfl rfl hl.1 rfl (lv_room (Nat.le_of_ble_eq_true rfl)) d_C_isSo_92 ⟨Nat.zero_le _, Nat.zero_le _⟩) ?_
    refine lv_if_ne (tgt := 102) hx hb d_C_isSo_95 (by decide) (fun e7_102 => ?_) (fun e7_102 => ?_)
    · refine lv_iconst (v := 0) hx hb d_C_isSo_102 (by decide) ?_
      have fe : f_C_isSo p0 p1 p2 = 0 := by unfold f_C_isSo; first | with_reducible exact (if_neg e1_60).trans ((if_neg e3_72).trans ((if_neg e5_84).trans ((if_pos e6_90).trans (if_neg e7_102)))) | exact (if_neg e1_60).trans ((if_neg e3_72).trans ((if_neg e5_84).trans ((if_pos e6_90).trans (if_neg e7_102))))
      have hn : narrow .boolean (.int (0)) = .int (0) := rfl
      exact W.zret (v := 0) hx hb hr hn (fun t ht hW => ⟨_, rfl, fe.symm, ht⟩) t_nil d_C_isSo_103
    · refine lv_iconst (v := 1) hx hb d_C_isSo_98 (by decide) ?_
      refine lv_goto (tgt := 103) hx hb d_C_isSo_99 (by decide) ?_
      have fe : f_C_isSo p0 p1 p2 = 1 := by unfold f_C_isSo; first | with_reducible exact (if_neg e1_60).trans ((if_neg e3_72).trans ((if_neg e5_84).trans ((if_pos e6_90).trans (if_pos e7_102)))) | exact (if_neg e1_60).trans ((if_neg e3_72).trans ((if_neg e5_84).trans ((if_pos e6_90).trans (if_pos e7_102))))
      have hn : narrow .boolean (.int (1)) = .int (1) := rfl
      exact W.zret (v := 1) hx hb hr hn (fun t ht hW => ⟨_, rfl, fe.symm, ht⟩) t_nil d_C_isSo_103
  by_cases e8_104 : p0 = 4
  · refine lv_tableIn (off := 103) (tgt := 104) hx hb d_C_isSo_1 (by rw [e8_104]; decide) (by rw [e8_104]; decide) (by rw [e8_104]; rfl) (by decide) ?_
    refine lv_lload_n hx hb d_C_isSo_104 rfl (lv_at hl 2 rfl) ?_
    refine lv_lload_n hx hb d_C_isSo_105 rfl (lv_at hl 1 rfl) ?_
    refine rc_i (W.runS (As := [.long (p2), .long (p1)]) (rest := []) ⟨hx, hb, hml, hown, hts⟩ (c_N_below l p2 p1) (va_cwS 2 hts (gS gw299 gw105 gw2 gw106) rfl rfl rfl (by decide +kernel) ⟨(Nat.le_of_ble_eq_true rfl), (Nat.le_of_ble_eq_true rfl)⟩) ⟨bl0, fun U hU hW => ⟨rfl, trivial⟩⟩ rfl rfl hl.1 rfl (lv_room (Nat.le_of_ble_eq_true rfl)) d_C_isSo_106 ⟨Nat.zero_le _, Nat.zero_le _⟩) ?_
    have fe : f_C_isSo p0 p1 p2 = f_N_below p2 p1 := by unfold f_C_isSo; first | with_reducible exact (if_neg e1_60).trans ((if_neg e3_72).trans ((if_neg e5_84).trans ((if_neg e6_90).trans (if_pos e8_104)))) | exact (if_neg e1_60).trans ((if_neg e3_72).trans ((if_neg e5_84).trans ((if_neg e6_90).trans (if_pos e8_104))))
    have hn : narrow .boolean (.int (f_N_below p2 p1)) = .int (f_N_below p2 p1) := zn_N_below p2 p1
    exact W.zret (v := f_N_below p2 p1) hx hb hr hn (fun t ht hW => ⟨_, rfl, fe.symm, ht⟩) t_nil d_C_isSo_109
  by_cases e9_110 : p0 = 5
  · refine lv_tableIn (off := 109) (tgt := 110) hx hb d_C_isSo_1 (by rw [e9_110]; decide) (by rw [e9_110]; decide) (by rw [e9_110]; rfl) (by decide) ?_
    refine lv_lload_n hx hb d_C_isSo_110 rfl (lv_at hl 1 rfl) ?_
    refine lv_lload_n hx hb d_C_isSo_111 rfl (lv_at hl 2 rfl) ?_
    refine rc_i (W.runS (As := [.long (p1), .long (p2)]) (rest := []) ⟨hx, hb, hml, hown, hts⟩ (c_N_below l p1 p2) (va_cwS 2 hts (gS gw299 gw105 gw2 gw106) rfl rfl rfl (by decide +kernel) ⟨(Nat.le_of_ble_eq_true rfl), (Nat.le_of_ble_eq_true rfl)⟩) ⟨bl0, fun U hU hW => ⟨rfl, trivial⟩⟩ rfl rfl hl.1 rfl (lv_room (Nat.le_of_ble_eq_true rfl)) d_C_isSo_112 ⟨Nat.zero_le _, Nat.zero_le _⟩) ?_
    refine lv_if_ne (tgt := 122) hx hb d_C_isSo_115 (by decide) (fun e10_122 => ?_) (fun e10_122 => ?_)
    · refine lv_iconst (v := 0) hx hb d_C_isSo_122 (by decide) ?_
      have fe : f_C_isSo p0 p1 p2 = 0 := by unfold f_C_isSo; first | with_reducible exact (if_neg e1_60).trans ((if_neg e3_72).trans ((if_neg e5_84).trans ((if_neg e6_90).trans ((if_neg e8_104).trans ((if_pos e9_110).trans (if_neg e10_122)))))) | exact (if_neg e1_60).trans ((if_neg e3_72).trans ((if_neg e5_84).trans ((if_neg e6_90).trans ((if_neg e8_104).trans ((if_pos e9_110).trans (if_neg e10_122))))))
      have hn : narrow .boolean (.int (0)) = .int (0) := rfl
      exact W.zret (v := 0) hx hb hr hn (fun t ht hW => ⟨_, rfl, fe.symm, ht⟩) t_nil d_C_isSo_123
    · refine lv_iconst (v := 1) hx hb d_C_isSo_118 (by decide) ?_
      refine lv_goto (tgt := 123) hx hb d_C_isSo_119 (by decide) ?_
      have fe : f_C_isSo p0 p1 p2 = 1 := by unfold f_C_isSo; first | with_reducible exact (if_neg e1_60).trans ((if_neg e3_72).trans ((if_neg e5_84).trans ((if_neg e6_90).trans ((if_neg e8_104).trans ((if_pos e9_110).trans (if_pos e10_122)))))) | exact (if_neg e1_60).trans ((if_neg e3_72).trans ((if_neg e5_84).trans ((if_neg e6_90).trans ((if_neg e8_104).trans ((if_pos e9_110).trans (if_pos e10_122))))))
      have hn : narrow .boolean (.int (1)) = .int (1) := rfl
      exact W.zret (v := 1) hx hb hr hn (fun t ht hW => ⟨_, rfl, fe.symm, ht⟩) t_nil d_C_isSo_123
  by_cases e11_124 : p0 = 6
  · refine lv_tableIn (off := 123) (tgt := 124) hx hb d_C_isSo_1 (by rw [e11_124]; decide) (by rw [e11_124]; decide) (by rw [e11_124]; rfl) (by decide) ?_
    refine lv_lload_n hx hb d_C_isSo_124 rfl (lv_at hl 1 rfl) ?_
    refine lv_lload_n hx hb d_C_isSo_125 rfl (lv_at hl 2 rfl) ?_
    refine wl_ge (tgt := 134) hx hb d_C_isSo_126 d_C_isSo_127 (by decide) (fun e12_134 => ?_) (fun e12_134 => ?_)
    · refine lv_iconst (v := 0) hx hb d_C_isSo_134 (by decide) ?_
      have fe : f_C_isSo p0 p1 p2 = 0 := by unfold f_C_isSo; first | with_reducible exact (if_neg e1_60).trans ((if_neg e3_72).trans ((if_neg e5_84).trans ((if_neg e6_90).trans ((if_neg e8_104).trans ((if_neg e9_110).trans ((if_pos e11_124).trans (if_neg e12_134))))))) | exact (if_neg e1_60).trans ((if_neg e3_72).trans ((if_neg e5_84).trans ((if_neg e6_90).trans ((if_neg e8_104).trans ((if_neg e9_110).trans ((if_pos e11_124).trans (if_neg e12_134)))))))
      have hn : narrow .boolean (.int (0)) = .int (0) := rfl
      exact W.zret (v := 0) hx hb hr hn (fun t ht hW => ⟨_, rfl, fe.symm, ht⟩) t_nil d_C_isSo_135
    · refine lv_iconst (v := 1) hx hb d_C_isSo_130 (by decide) ?_
      refine lv_goto (tgt := 135) hx hb d_C_isSo_131 (by decide) ?_
      have fe : f_C_isSo p0 p1 p2 = 1 := by unfold f_C_isSo; first | with_reducible exact (if_neg e1_60).trans ((if_neg e3_72).trans ((if_neg e5_84).trans ((if_neg e6_90).trans ((if_neg e8_104).trans ((if_neg e9_110).trans ((if_pos e11_124).trans (if_pos e12_134))))))) | exact (if_neg e1_60).trans ((if_neg e3_72).trans ((if_neg e5_84).trans ((if_neg e6_90).trans ((if_neg e8_104).trans ((if_neg e9_110).trans ((if_pos e11_124).trans (if_pos e12_134)))))))
      have hn : narrow .boolean (.int (1)) = .int (1) := rfl
      exact W.zret (v := 1) hx hb hr hn (fun t ht hW => ⟨_, rfl, fe.symm, ht⟩) t_nil d_C_isSo_135
  by_cases e13_136 : p0 = 7
  · refine lv_tableIn (off := 135) (tgt := 136) hx hb d_C_isSo_1 (by rw [e13_136]; decide) (by rw [e13_136]; decide) (by rw [e13_136]; rfl) (by decide) ?_
    refine lv_lload_n hx hb d_C_isSo_136 rfl (lv_at hl 1 rfl) ?_
    refine lv_lload_n hx hb d_C_isSo_137 rfl (lv_at hl 2 rfl) ?_
    refine wl_gt (tgt := 146) hx hb d_C_isSo_138 d_C_isSo_139 (by decide) (fun e14_146 => ?_) (fun e14_146 => ?_)
    · refine lv_iconst (v := 0) hx hb d_C_isSo_146 (by decide) ?_
      have fe : f_C_isSo p0 p1 p2 = 0 := by unfold f_C_isSo; first | with_reducible exact (if_neg e1_60).trans ((if_neg e3_72).trans ((if_neg e5_84).trans ((if_neg e6_90).trans ((if_neg e8_104).trans ((if_neg e9_110).trans ((if_neg e11_124).trans ((if_pos e13_136).trans (if_pos e14_146)))))))) | exact (if_neg e1_60).trans ((if_neg e3_72).trans ((if_neg e5_84).trans ((if_neg e6_90).trans ((if_neg e8_104).trans ((if_neg e9_110).trans ((if_neg e11_124).trans ((if_pos e13_136).trans (if_pos e14_146))))))))
      have hn : narrow .boolean (.int (0)) = .int (0) := rfl
      exact W.zret (v := 0) hx hb hr hn (fun t ht hW => ⟨_, rfl, fe.symm, ht⟩) t_nil d_C_isSo_147
    · refine lv_iconst (v := 1) hx hb d_C_isSo_142 (by decide) ?_
      refine lv_goto (tgt := 147) hx hb d_C_isSo_143 (by decide) ?_
      have fe : f_C_isSo p0 p1 p2 = 1 := by unfold f_C_isSo; first | with_reducible exact (if_neg e1_60).trans ((if_neg e3_72).trans ((if_neg e5_84).trans ((if_neg e6_90).trans ((if_neg e8_104).trans ((if_neg e9_110).trans ((if_neg e11_124).trans ((if_pos e13_136).trans (if_neg e14_146)))))))) | exact (if_neg e1_60).trans ((if_neg e3_72).trans ((if_neg e5_84).trans ((if_neg e6_90).trans ((if_neg e8_104).trans ((if_neg e9_110).trans ((if_neg e11_124).trans ((if_pos e13_136).trans (if_neg e14_146))))))))
      have hn : narrow .boolean (.int (1)) = .int (1) := rfl
      exact W.zret (v := 1) hx hb hr hn (fun t ht hW => ⟨_, rfl, fe.symm, ht⟩) t_nil d_C_isSo_147
  by_cases e15_148 : p0 = 8
  · refine lv_tableIn (off := 147) (tgt := 148) hx hb d_C_isSo_1 (by rw [e15_148]; decide) (by rw [e15_148]; decide) (by rw [e15_148]; rfl) (by decide) ?_
    refine lv_lload_n hx hb d_C_isSo_148 rfl (lv_at hl 1 rfl) ?_
    refine lv_lload_n hx hb d_C_isSo_149 rfl (lv_at hl 2 rfl) ?_
    refine wl_le (tgt := 158) hx hb d_C_isSo_150 d_C_isSo_151 (by decide) (fun e16_158 => ?_) (fun e16_158 => ?_)
    · refine lv_iconst (v := 0) hx hb d_C_isSo_158 (by decide) ?_
      have fe : f_C_isSo p0 p1 p2 = 0 := by unfold f_C_isSo; first | with_reducible exact (if_neg e1_60).trans ((if_neg e3_72).trans ((if_neg e5_84).trans ((if_neg e6_90).trans ((if_neg e8_104).trans ((if_neg e9_110).trans ((if_neg e11_124).trans ((if_neg e13_136).trans ((if_pos e15_148).trans (if_neg e16_158))))))))) | exact (if_neg e1_60).trans ((if_neg e3_72).trans ((if_neg e5_84).trans ((if_neg e6_90).trans ((if_neg e8_104).trans ((if_neg e9_110).trans ((if_neg e11_124).trans ((if_neg e13_136).trans ((if_pos e15_148).trans (if_neg e16_158)))))))))
      have hn : narrow .boolean (.int (0)) = .int (0) := rfl
      exact W.zret (v := 0) hx hb hr hn (fun t ht hW => ⟨_, rfl, fe.symm, ht⟩) t_nil d_C_isSo_159
    · refine lv_iconst (v := 1) hx hb d_C_isSo_154 (by decide) ?_
      refine lv_goto (tgt := 159) hx hb d_C_isSo_155 (by decide) ?_
      have fe : f_C_isSo p0 p1 p2 = 1 := by unfold f_C_isSo; first | with_reducible exact (if_neg e1_60).trans ((if_neg e3_72).trans ((if_neg e5_84).trans ((if_neg e6_90).trans ((if_neg e8_104).trans ((if_neg e9_110).trans ((if_neg e11_124).trans ((if_neg e13_136).trans ((if_pos e15_148).trans (if_pos e16_158))))))))) | exact (if_neg e1_60).trans ((if_neg e3_72).trans ((if_neg e5_84).trans ((if_neg e6_90).trans ((if_neg e8_104).trans ((if_neg e9_110).trans ((if_neg e11_124).trans ((if_neg e13_136).trans ((if_pos e15_148).trans (if_pos e16_158)))))))))
      have hn : narrow .boolean (.int (1)) = .int (1) := rfl
      exact W.zret (v := 1) hx hb hr hn (fun t ht hW => ⟨_, rfl, fe.symm, ht⟩) t_nil d_C_isSo_159
  by_cases e17_160 : p0 = 9
  · refine lv_tableIn (off := 159) (tgt := 160) hx hb d_C_isSo_1 (by rw [e17_160]; decide) (by rw [e17_160]; decide) (by rw [e17_160]; rfl) (by decide) ?_
    refine lv_lload_n hx hb d_C_isSo_160 rfl (lv_at hl 1 rfl) ?_
    refine lv_lload_n hx hb d_C_isSo_161 rfl (lv_at hl 2 rfl) ?_
    refine wl_lt (tgt := 170) hx hb d_C_isSo_162 d_C_isSo_163 (by decide) (fun e18_170 => ?_) (fun e18_170 => ?_)
    · refine lv_iconst (v := 0) hx hb d_C_isSo_170 (by decide) ?_
      have fe : f_C_isSo p0 p1 p2 = 0 := by unfold f_C_isSo; first | with_reducible exact (if_neg e1_60).trans ((if_neg e3_72).trans ((if_neg e5_84).trans ((if_neg e6_90).trans ((if_neg e8_104).trans ((if_neg e9_110).trans ((if_neg e11_124).trans ((if_neg e13_136).trans ((if_neg e15_148).trans ((if_pos e17_160).trans (if_pos e18_170)))))))))) | exact (if_neg e1_60).trans ((if_neg e3_72).trans ((if_neg e5_84).trans ((if_neg e6_90).trans ((if_neg e8_104).trans ((if_neg e9_110).trans ((if_neg e11_124).trans ((if_neg e13_136).trans ((if_neg e15_148).trans ((if_pos e17_160).trans (if_pos e18_170))))))))))
      have hn : narrow .boolean (.int (0)) = .int (0) := rfl
      exact W.zret (v := 0) hx hb hr hn (fun t ht hW => ⟨_, rfl, fe.symm, ht⟩) t_nil d_C_isSo_171
    · refine lv_iconst (v := 1) hx hb d_C_isSo_166 (by decide) ?_
      refine lv_goto (tgt := 171) hx hb d_C_isSo_167 (by decide) ?_
      have fe : f_C_isSo p0 p1 p2 = 1 := by unfold f_C_isSo; first | with_reducible exact (if_neg e1_60).trans ((if_neg e3_72).trans ((if_neg e5_84).trans ((if_neg e6_90).trans ((if_neg e8_104).trans ((if_neg e9_110).trans ((if_neg e11_124).trans ((if_neg e13_136).trans ((if_neg e15_148).trans ((if_pos e17_160).trans (if_neg e18_170)))))))))) | exact (if_neg e1_60).trans ((if_neg e3_72).trans ((if_neg e5_84).trans ((if_neg e6_90).trans ((if_neg e8_104).trans ((if_neg e9_110).trans ((if_neg e11_124).trans ((if_neg e13_136).trans ((if_neg e15_148).trans ((if_pos e17_160).trans (if_neg e18_170))))))))))
      have hn : narrow .boolean (.int (1)) = .int (1) := rfl
      exact W.zret (v := 1) hx hb hr hn (fun t ht hW => ⟨_, rfl, fe.symm, ht⟩) t_nil d_C_isSo_171
  by_cases e19_172 : p0 = 10
  · refine lv_tableIn (off := 171) (tgt := 172) hx hb d_C_isSo_1 (by rw [e19_172]; decide) (by rw [e19_172]; decide) (by rw [e19_172]; rfl) (by decide) ?_
    refine lv_lload_n hx hb d_C_isSo_172 rfl (lv_at hl 1 rfl) ?_
    refine lv_lload_n hx hb d_C_isSo_173 rfl (lv_at hl 2 rfl) ?_
    refine lv_land hx hb d_C_isSo_174 ?_
    refine lv_lconst (v := 0) hx hb d_C_isSo_175 (by decide) ?_
    refine wl_eq (tgt := 184) hx hb d_C_isSo_176 d_C_isSo_177 (by decide) (fun e20_184 => ?_) (fun e20_184 => ?_)
    · refine lv_iconst (v := 0) hx hb d_C_isSo_184 (by decide) ?_
      have fe : f_C_isSo p0 p1 p2 = 0 := by unfold f_C_isSo; first | with_reducible exact (if_neg e1_60).trans ((if_neg e3_72).trans ((if_neg e5_84).trans ((if_neg e6_90).trans ((if_neg e8_104).trans ((if_neg e9_110).trans ((if_neg e11_124).trans ((if_neg e13_136).trans ((if_neg e15_148).trans ((if_neg e17_160).trans ((if_pos e19_172).trans (if_pos e20_184))))))))))) | exact (if_neg e1_60).trans ((if_neg e3_72).trans ((if_neg e5_84).trans ((if_neg e6_90).trans ((if_neg e8_104).trans ((if_neg e9_110).trans ((if_neg e11_124).trans ((if_neg e13_136).trans ((if_neg e15_148).trans ((if_neg e17_160).trans ((if_pos e19_172).trans (if_pos e20_184)))))))))))
      have hn : narrow .boolean (.int (0)) = .int (0) := rfl
      exact W.zret (v := 0) hx hb hr hn (fun t ht hW => ⟨_, rfl, fe.symm, ht⟩) t_nil d_C_isSo_185
    · refine lv_iconst (v := 1) hx hb d_C_isSo_180 (by decide) ?_
      refine lv_goto (tgt := 185) hx hb d_C_isSo_181 (by decide) ?_
      have fe : f_C_isSo p0 p1 p2 = 1 := by unfold f_C_isSo; first | with_reducible exact (if_neg e1_60).trans ((if_neg e3_72).trans ((if_neg e5_84).trans ((if_neg e6_90).trans ((if_neg e8_104).trans ((if_neg e9_110).trans ((if_neg e11_124).trans ((if_neg e13_136).trans ((if_neg e15_148).trans ((if_neg e17_160).trans ((if_pos e19_172).trans (if_neg e20_184))))))))))) | exact (if_neg e1_60).trans ((if_neg e3_72).trans ((if_neg e5_84).trans ((if_neg e6_90).trans ((if_neg e8_104).trans ((if_neg e9_110).trans ((if_neg e11_124).trans ((if_neg e13_136).trans ((if_neg e15_148).trans ((if_neg e17_160).trans ((if_pos e19_172).trans (if_neg e20_184)))))))))))
      have hn : narrow .boolean (.int (1)) = .int (1) := rfl
      exact W.zret (v := 1) hx hb hr hn (fun t ht hW => ⟨_, rfl, fe.symm, ht⟩) t_nil d_C_isSo_185
  refine lv_tableOut (tgt := 186) hx hb d_C_isSo_1 (by have n0 := lv_neT (a := 0) e1_60 (by decide); have n1 := lv_neT (a := 1) e3_72 (by decide); have n2 := lv_neT (a := 2) e5_84 (by decide); have n3 := lv_neT (a := 3) e6_90 (by decide); have n4 := lv_neT (a := 4) e8_104 (by decide); have n5 := lv_neT (a := 5) e9_110 (by decide); have n6 := lv_neT (a := 6) e11_124 (by decide); have n7 := lv_neT (a := 7) e13_136 (by decide); have n8 := lv_neT (a := 8) e15_148 (by decide); have n9 := lv_neT (a := 9) e17_160 (by decide); have n10 := lv_neT (a := 10) e19_172 (by decide); omega) (by decide) ?_
  refine lv_lload_n hx hb d_C_isSo_186 rfl (lv_at hl 1 rfl) ?_
  refine lv_lload_n hx hb d_C_isSo_187 rfl (lv_at hl 2 rfl) ?_
  refine lv_land hx hb d_C_isSo_188 ?_
  refine lv_lconst (v := 0) hx hb d_C_isSo_189 (by decide) ?_
  refine wl_ne (tgt := 198) hx hb d_C_isSo_190 d_C_isSo_191 (by decide) (fun e21_198 => ?_) (fun e21_198 => ?_)
  · refine lv_iconst (v := 0) hx hb d_C_isSo_198 (by decide) ?_
    have fe : f_C_isSo p0 p1 p2 = 0 := by unfold f_C_isSo; first | with_reducible exact (if_neg e1_60).trans ((if_neg e3_72).trans ((if_neg e5_84).trans ((if_neg e6_90).trans ((if_neg e8_104).trans ((if_neg e9_110).trans ((if_neg e11_124).trans ((if_neg e13_136).trans ((if_neg e15_148).trans ((if_neg e17_160).trans ((if_neg e19_172).trans (if_neg e21_198))))))))))) | exact (if_neg e1_60).trans ((if_neg e3_72).trans ((if_neg e5_84).trans ((if_neg e6_90).trans ((if_neg e8_104).trans ((if_neg e9_110).trans ((if_neg e11_124).trans ((if_neg e13_136).trans ((if_neg e15_148).trans ((if_neg e17_160).trans ((if_neg e19_172).trans (if_neg e21_198)))))))))))
    have hn : narrow .boolean (.int (0)) = .int (0) := rfl
    exact W.zret (v := 0) hx hb hr hn (fun t ht hW => ⟨_, rfl, fe.symm, ht⟩) t_nil d_C_isSo_199
  · refine lv_iconst (v := 1) hx hb d_C_isSo_194 (by decide) ?_
    refine lv_goto (tgt := 199) hx hb d_C_isSo_195 (by decide) ?_
    have fe : f_C_isSo p0 p1 p2 = 1 := by unfold f_C_isSo; first | with_reducible exact (if_neg e1_60).trans ((if_neg e3_72).trans ((if_neg e5_84).trans ((if_neg e6_90).trans ((if_neg e8_104).trans ((if_neg e9_110).trans ((if_neg e11_124).trans ((if_neg e13_136).trans ((if_neg e15_148).trans ((if_neg e17_160).trans ((if_neg e19_172).trans (if_pos e21_198))))))))))) | exact (if_neg e1_60).trans ((if_neg e3_72).trans ((if_neg e5_84).trans ((if_neg e6_90).trans ((if_neg e8_104).trans ((if_neg e9_110).trans ((if_neg e11_124).trans ((if_neg e13_136).trans ((if_neg e15_148).trans ((if_neg e17_160).trans ((if_neg e19_172).trans (if_pos e21_198)))))))))))
    have hn : narrow .boolean (.int (1)) = .int (1) := rfl
    exact W.zret (v := 1) hx hb hr hn (fun t ht hW => ⟨_, rfl, fe.symm, ht⟩) t_nil d_C_isSo_199
-- ValueSieve$Comparisons.opposite
theorem d_C_opposite_0 : decode b_C_opposite 0 = .ok (.iload_n 0, 1) := by decide +kernel
theorem d_C_opposite_1 : decode b_C_opposite 1 = .ok (.iconst 2, 1) := by decide +kernel
theorem d_C_opposite_2 : decode b_C_opposite 2 = .ok (.if_icmp .lt 13, 3) := by decide +kernel
theorem d_C_opposite_5 : decode b_C_opposite 5 = .ok (.iload_n 0, 1) := by decide +kernel
theorem d_C_opposite_6 : decode b_C_opposite 6 = .ok (.iconst 5, 1) := by decide +kernel
theorem d_C_opposite_7 : decode b_C_opposite 7 = .ok (.if_icmp .gt 8, 3) := by decide +kernel
theorem d_C_opposite_10 : decode b_C_opposite 10 = .ok (.bipush 7, 2) := by decide +kernel
theorem d_C_opposite_12 : decode b_C_opposite 12 = .ok (.iload_n 0, 1) := by decide +kernel
theorem d_C_opposite_13 : decode b_C_opposite 13 = .ok (.isub, 1) := by decide +kernel
theorem d_C_opposite_14 : decode b_C_opposite 14 = .ok (.ireturn, 1) := by decide +kernel
theorem d_C_opposite_15 : decode b_C_opposite 15 = .ok (.iload_n 0, 1) := by decide +kernel
theorem d_C_opposite_16 : decode b_C_opposite 16 = .ok (.bipush 6, 2) := by decide +kernel
theorem d_C_opposite_18 : decode b_C_opposite 18 = .ok (.if_icmp .lt 14, 3) := by decide +kernel
theorem d_C_opposite_21 : decode b_C_opposite 21 = .ok (.iload_n 0, 1) := by decide +kernel
theorem d_C_opposite_22 : decode b_C_opposite 22 = .ok (.bipush 9, 2) := by decide +kernel
theorem d_C_opposite_24 : decode b_C_opposite 24 = .ok (.if_icmp .gt 8, 3) := by decide +kernel
theorem d_C_opposite_27 : decode b_C_opposite 27 = .ok (.bipush 15, 2) := by decide +kernel
theorem d_C_opposite_29 : decode b_C_opposite 29 = .ok (.iload_n 0, 1) := by decide +kernel
theorem d_C_opposite_30 : decode b_C_opposite 30 = .ok (.isub, 1) := by decide +kernel
theorem d_C_opposite_31 : decode b_C_opposite 31 = .ok (.ireturn, 1) := by decide +kernel
theorem d_C_opposite_32 : decode b_C_opposite 32 = .ok (.iload_n 0, 1) := by decide +kernel
theorem d_C_opposite_33 : decode b_C_opposite 33 = .ok (.iconst 1, 1) := by decide +kernel
theorem d_C_opposite_34 : decode b_C_opposite 34 = .ok (.ixor, 1) := by decide +kernel
theorem d_C_opposite_35 : decode b_C_opposite 35 = .ok (.ireturn, 1) := by decide +kernel
def f_C_opposite_32 (p0 : Int32) : Int32 := (p0 ^^^ (1 : Int32))
def f_C_opposite_15 (p0 : Int32) : Int32 := (if p0 < 6 then f_C_opposite_32 p0 else (if 9 < p0 then f_C_opposite_32 p0 else ((15 : Int32) - p0)))
def f_C_opposite (p0 : Int32) : Int32 := (if p0 < 2 then f_C_opposite_15 p0 else (if 5 < p0 then f_C_opposite_15 p0 else ((7 : Int32) - p0)))
set_option maxRecDepth 100000 in
set_option maxHeartbeats 4000000 in
theorem c_C_opposite (l : Launch) (p0 : Int32) : Met l y_C_opposite w_C_opposite ({ frames := 0, cells := 0, slots := 0, locals := 0 } : Room) (va_Pc [.int (p0)] (fun _ => True)) (vp_Si (fun r => r = f_C_opposite p0)) 0 0 (fun _ => False) := by
  refine Met.ofW (cc := b_C_opposite) (maxL := 1) (ret := (some .int)) (by decide) rfl ?_
  intro p e s m args below meth c s₁ B hml hv
  obtain ⟨rfl, -⟩ := hv
  have hx := B.exec
  have hb := B.bytes
  have hr := B.returns
  have hts := atoms_spec (ws := w_C_opposite) B.pre
  have hG : ∀ w ∈ gG, w.before _ s = true := fun w h => hts w (List.mem_cons_of_mem _ h)
  have hown : s.vm.findClass R_C = some m.cls := findClass_of_methodNamed B.named
  have hlocks := B.notSynchronized
  have hl := lv_entry ([.int (p0)]) (n := 1) (Nat.le_of_ble_eq_true rfl)
  rw [lg_entry_eq]
  generalize (lg_sl ([.int (p0)]) ++ List.replicate (1 - (lg_sl ([.int (p0)])).length) Slot.unset).toArray = ls at hl ⊢
  have hl : lv_has ls 1 [(0, .int (p0))] := hl
  have K32 : ∀ (hj : f_C_opposite p0 = f_C_opposite_32 p0) (ls : Array Slot) (hl : lv_has ls 1 [(0, .int (p0))]), W p l e (headSpec w_C_opposite ({ frames := 0, cells := 0, slots := 0, locals := 0 } : Room)).room s m ([.int (p0)] : List Value).toArray below meth c s.heap [] 0 0 (MQ below (vp_Si (fun r => r = f_C_opposite p0)) ([.int (p0)] : List Value).toArray s 0 0 (fun _ => False)) (F0 m 32 ls []) := by
    intro hj ls hl
    refine lv_iload_n hx hb d_C_opposite_32 rfl (lv_at hl 0 rfl) ?_
    refine lv_iconst (v := 1) hx hb d_C_opposite_33 (by decide) ?_
    refine lv_ixor hx hb d_C_opposite_34 ?_
    have fe : f_C_opposite p0 = p0 ^^^ (1 : Int32) := hj.trans rfl
    exact W.iret (v := p0 ^^^ (1 : Int32)) hx hb hr (fun t ht hW => ⟨_, rfl, fe.symm, ht⟩) t_nil d_C_opposite_35
  have K15 : ∀ (hj : f_C_opposite p0 = f_C_opposite_15 p0) (ls : Array Slot) (hl : lv_has ls 1 [(0, .int (p0))]), W p l e (headSpec w_C_opposite ({ frames := 0, cells := 0, slots := 0, locals := 0 } : Room)).room s m ([.int (p0)] : List Value).toArray below meth c s.heap [] 0 0 (MQ below (vp_Si (fun r => r = f_C_opposite p0)) ([.int (p0)] : List Value).toArray s 0 0 (fun _ => False)) (F0 m 15 ls []) := by
    intro hj ls hl
    refine lv_iload_n hx hb d_C_opposite_15 rfl (lv_at hl 0 rfl) ?_
    refine lv_bipush (v := 6) hx hb d_C_opposite_16 (by decide) ?_
    refine lv_icmp_lt (tgt := 32) hx hb d_C_opposite_18 (by decide) (fun e1_32 => ?_) (fun e1_32 => ?_)
    · exact K32 (hj.trans (by unfold f_C_opposite_15; first | with_reducible exact if_pos e1_32 | exact if_pos e1_32)) ls (lv_sub hl [0] rfl)
    · refine lv_iload_n hx hb d_C_opposite_21 rfl (lv_at hl 0 rfl) ?_
      refine lv_bipush (v := 9) hx hb d_C_opposite_22 (by decide) ?_
      refine lv_icmp_gt (tgt := 32) hx hb d_C_opposite_24 (by decide) (fun e2_32 => ?_) (fun e2_32 => ?_)
      · exact K32 (hj.trans (by unfold f_C_opposite_15; first | with_reducible exact (if_neg e1_32).trans (if_pos e2_32) | exact (if_neg e1_32).trans (if_pos e2_32))) ls (lv_sub hl [0] rfl)
      · refine lv_bipush (v := 15) hx hb d_C_opposite_27 (by decide) ?_
        refine lv_iload_n hx hb d_C_opposite_29 rfl (lv_at hl 0 rfl) ?_
        refine lv_isub hx hb d_C_opposite_30 ?_
        have fe : f_C_opposite p0 = (15 : Int32) - p0 := hj.trans (by unfold f_C_opposite_15; first | with_reducible exact (if_neg e1_32).trans (if_neg e2_32) | exact (if_neg e1_32).trans (if_neg e2_32))
        exact W.iret (v := (15 : Int32) - p0) hx hb hr (fun t ht hW => ⟨_, rfl, fe.symm, ht⟩) t_nil d_C_opposite_31
  refine lv_iload_n hx hb d_C_opposite_0 rfl (lv_at hl 0 rfl) ?_
  refine lv_iconst (v := 2) hx hb d_C_opposite_1 (by decide) ?_
  refine lv_icmp_lt (tgt := 15) hx hb d_C_opposite_2 (by decide) (fun e1_15 => ?_) (fun e1_15 => ?_)
  · exact K15 (by unfold f_C_opposite; first | with_reducible exact if_pos e1_15 | exact if_pos e1_15) ls (lv_sub hl [0] rfl)
  · refine lv_iload_n hx hb d_C_opposite_5 rfl (lv_at hl 0 rfl) ?_
    refine lv_iconst (v := 5) hx hb d_C_opposite_6 (by decide) ?_
    refine lv_icmp_gt (tgt := 15) hx hb d_C_opposite_7 (by decide) (fun e2_15 => ?_) (fun e2_15 => ?_)
    · exact K15 (by unfold f_C_opposite; first | with_reducible exact (if_neg e1_15).trans (if_pos e2_15) | exact (if_neg e1_15).trans (if_pos e2_15)) ls (lv_sub hl [0] rfl)
    · refine lv_bipush (v := 7) hx hb d_C_opposite_10 (by decide) ?_
      refine lv_iload_n hx hb d_C_opposite_12 rfl (lv_at hl 0 rfl) ?_
      refine lv_isub hx hb d_C_opposite_13 ?_
      have fe : f_C_opposite p0 = (7 : Int32) - p0 := by unfold f_C_opposite; first | with_reducible exact (if_neg e1_15).trans (if_neg e2_15) | exact (if_neg e1_15).trans (if_neg e2_15)
      exact W.iret (v := (7 : Int32) - p0) hx hb hr (fun t ht hW => ⟨_, rfl, fe.symm, ht⟩) t_nil d_C_opposite_14
-- ValueSieve$Comparisons.equate
theorem d_C_equate_0 : decode b_C_equate 0 = .ok (.aload_n 0, 1) := by decide +kernel
theorem d_C_equate_1 : decode b_C_equate 1 = .ok (.getfield 45, 3) := by decide +kernel
theorem d_C_equate_4 : decode b_C_equate 4 = .ok (.aload_n 1, 1) := by decide +kernel
theorem d_C_equate_5 : decode b_C_equate 5 = .ok (.getfield 45, 3) := by decide +kernel
theorem d_C_equate_8 : decode b_C_equate 8 = .ok (.lxor, 1) := by decide +kernel
theorem d_C_equate_9 : decode b_C_equate 9 = .ok (.aload_n 0, 1) := by decide +kernel
theorem d_C_equate_10 : decode b_C_equate 10 = .ok (.getfield 49, 3) := by decide +kernel
theorem d_C_equate_13 : decode b_C_equate 13 = .ok (.ldc2_w 52, 3) := by decide +kernel
theorem d_C_equate_16 : decode b_C_equate 16 = .ok (.lxor, 1) := by decide +kernel
theorem d_C_equate_17 : decode b_C_equate 17 = .ok (.land, 1) := by decide +kernel
theorem d_C_equate_18 : decode b_C_equate 18 = .ok (.aload_n 1, 1) := by decide +kernel
theorem d_C_equate_19 : decode b_C_equate 19 = .ok (.getfield 49, 3) := by decide +kernel
theorem d_C_equate_22 : decode b_C_equate 22 = .ok (.ldc2_w 52, 3) := by decide +kernel
theorem d_C_equate_25 : decode b_C_equate 25 = .ok (.lxor, 1) := by decide +kernel
theorem d_C_equate_26 : decode b_C_equate 26 = .ok (.land, 1) := by decide +kernel
theorem d_C_equate_27 : decode b_C_equate 27 = .ok (.lconst 0, 1) := by decide +kernel
theorem d_C_equate_28 : decode b_C_equate 28 = .ok (.lcmp, 1) := by decide +kernel
theorem d_C_equate_29 : decode b_C_equate 29 = .ok (.ifCond .eq 8, 3) := by decide +kernel
theorem d_C_equate_32 : decode b_C_equate 32 = .ok (.aload_n 0, 1) := by decide +kernel
theorem d_C_equate_33 : decode b_C_equate 33 = .ok (.iconst 1, 1) := by decide +kernel
theorem d_C_equate_34 : decode b_C_equate 34 = .ok (.putfield 54, 3) := by decide +kernel
theorem d_C_equate_37 : decode b_C_equate 37 = .ok (.aload_n 0, 1) := by decide +kernel
theorem d_C_equate_38 : decode b_C_equate 38 = .ok (.aload_n 0, 1) := by decide +kernel
theorem d_C_equate_39 : decode b_C_equate 39 = .ok (.getfield 45, 3) := by decide +kernel
theorem d_C_equate_42 : decode b_C_equate 42 = .ok (.aload_n 1, 1) := by decide +kernel
theorem d_C_equate_43 : decode b_C_equate 43 = .ok (.getfield 45, 3) := by decide +kernel
theorem d_C_equate_46 : decode b_C_equate 46 = .ok (.lor, 1) := by decide +kernel
theorem d_C_equate_47 : decode b_C_equate 47 = .ok (.aload_n 0, 1) := by decide +kernel
theorem d_C_equate_48 : decode b_C_equate 48 = .ok (.getfield 49, 3) := by decide +kernel
theorem d_C_equate_51 : decode b_C_equate 51 = .ok (.aload_n 1, 1) := by decide +kernel
theorem d_C_equate_52 : decode b_C_equate 52 = .ok (.getfield 49, 3) := by decide +kernel
theorem d_C_equate_55 : decode b_C_equate 55 = .ok (.land, 1) := by decide +kernel
theorem d_C_equate_56 : decode b_C_equate 56 = .ok (.invokevirtual 58, 3) := by decide +kernel
theorem d_C_equate_59 : decode b_C_equate 59 = .ok (.aload_n 0, 1) := by decide +kernel
theorem d_C_equate_60 : decode b_C_equate 60 = .ok (.aload_n 0, 1) := by decide +kernel
theorem d_C_equate_61 : decode b_C_equate 61 = .ok (.getfield 62, 3) := by decide +kernel
theorem d_C_equate_64 : decode b_C_equate 64 = .ok (.aload_n 1, 1) := by decide +kernel
theorem d_C_equate_65 : decode b_C_equate 65 = .ok (.getfield 62, 3) := by decide +kernel
theorem d_C_equate_68 : decode b_C_equate 68 = .ok (.invokestatic 65, 3) := by decide +kernel
theorem d_C_equate_71 : decode b_C_equate 71 = .ok (.aload_n 0, 1) := by decide +kernel
theorem d_C_equate_72 : decode b_C_equate 72 = .ok (.getfield 69, 3) := by decide +kernel
theorem d_C_equate_75 : decode b_C_equate 75 = .ok (.aload_n 1, 1) := by decide +kernel
theorem d_C_equate_76 : decode b_C_equate 76 = .ok (.getfield 69, 3) := by decide +kernel
theorem d_C_equate_79 : decode b_C_equate 79 = .ok (.invokestatic 72, 3) := by decide +kernel
theorem d_C_equate_82 : decode b_C_equate 82 = .ok (.invokevirtual 75, 3) := by decide +kernel
theorem d_C_equate_85 : decode b_C_equate 85 = .ok (.aload_n 0, 1) := by decide +kernel
theorem d_C_equate_86 : decode b_C_equate 86 = .ok (.aload_n 0, 1) := by decide +kernel
theorem d_C_equate_87 : decode b_C_equate 87 = .ok (.getfield 78, 3) := by decide +kernel
theorem d_C_equate_90 : decode b_C_equate 90 = .ok (.aload_n 1, 1) := by decide +kernel
theorem d_C_equate_91 : decode b_C_equate 91 = .ok (.getfield 78, 3) := by decide +kernel
theorem d_C_equate_94 : decode b_C_equate 94 = .ok (.invokestatic 81, 3) := by decide +kernel
theorem d_C_equate_97 : decode b_C_equate 97 = .ok (.aload_n 0, 1) := by decide +kernel
theorem d_C_equate_98 : decode b_C_equate 98 = .ok (.getfield 86, 3) := by decide +kernel
theorem d_C_equate_101 : decode b_C_equate 101 = .ok (.aload_n 1, 1) := by decide +kernel
theorem d_C_equate_102 : decode b_C_equate 102 = .ok (.getfield 86, 3) := by decide +kernel
theorem d_C_equate_105 : decode b_C_equate 105 = .ok (.invokestatic 89, 3) := by decide +kernel
theorem d_C_equate_108 : decode b_C_equate 108 = .ok (.invokevirtual 92, 3) := by decide +kernel
theorem d_C_equate_111 : decode b_C_equate 111 = .ok (.aload_n 1, 1) := by decide +kernel
theorem d_C_equate_112 : decode b_C_equate 112 = .ok (.aload_n 0, 1) := by decide +kernel
theorem d_C_equate_113 : decode b_C_equate 113 = .ok (.invokevirtual 95, 3) := by decide +kernel
theorem d_C_equate_116 : decode b_C_equate 116 = .ok (.return_, 1) := by decide +kernel
def f_C_equate_113g (z0 : VV) (z1 : VV) (g108 : VV) (g113 : VV) : VV × VV := (g108, g113)
def f_C_equate_108g (z0 : VV) (z1 : VV) (g108 : VV) : VV × VV := f_C_equate_113g z0 z1 g108 (f_V_take z1 g108)
def f_C_equate_82g (z0 : VV) (z1 : VV) (g82 : VV) : VV × VV := f_C_equate_108g z0 z1 (f_V_saySigned g82 (jmmax g82.2.2.2.2.1 z1.2.2.2.2.1) (jmmin g82.2.2.2.2.2.1 z1.2.2.2.2.2.1))
def f_C_equate_56g (z0 : VV) (z1 : VV) (g56 : VV) : VV × VV := f_C_equate_82g z0 z1 (f_V_sayUnsigned g56 (f_N_more g56.2.2.1 z1.2.2.1) (f_N_less g56.2.2.2.1 z1.2.2.2.1))
def f_C_equate_37 (z0 : VV) (z1 : VV) (w37_0_0 : Int64) (w37_0_1 : Int64) (w37_0_2 : Int64) (w37_0_3 : Int64) (w37_0_4 : Int64) (w37_0_5 : Int64) (w37_0_6 : Bool) : VV × VV := f_C_equate_56g z0 z1 (f_V_sayBits ((w37_0_0, w37_0_1, w37_0_2, w37_0_3, w37_0_4, w37_0_5, w37_0_6)) (w37_0_0 ||| z1.1) (w37_0_1 &&& z1.2.1))
def f_C_equate (z0 : VV) (z1 : VV) : VV × VV := (if (((z0.1 ^^^ z1.1) &&& (z0.2.1 ^^^ (-1 : Int64))) &&& (z1.2.1 ^^^ (-1 : Int64))) = 0 then f_C_equate_37 z0 z1 z0.1 z0.2.1 z0.2.2.1 z0.2.2.2.1 z0.2.2.2.2.1 z0.2.2.2.2.2.1 z0.2.2.2.2.2.2 else f_C_equate_37 z0 z1 z0.1 z0.2.1 z0.2.2.1 z0.2.2.2.1 z0.2.2.2.2.1 z0.2.2.2.2.2.1 true)
set_option maxRecDepth 100000 in
set_option maxHeartbeats 4000000 in
theorem c_C_equate (l : Launch) (dC : Nat → ClassId) (dI : Nat → Nat → Nat) (h0 : Nat) (h1 : Nat) (sz : Nat) (z0 : VV) (z1 : VV) : Met l y_C_equate w_C_equate ({ frames := 2, cells := 0, slots := 0, locals := 46 } : Room) (va_Pc [.ref h0, .ref h1] (mP (dC, dI) [(h0, vE z0), (h1, vE z1)] sz)) (va_Qv (fun _ : Unit => True) (mB (dC, dI) (va_A [(h0, vE z0), (h1, vE z1)] sz) [(h0, vE (f_C_equate z0 z1).1), (h1, vE (f_C_equate z0 z1).2)]) (va_A [(h0, vE z0), (h1, vE z1)] sz)) 0 0 (va_A [(h0, vE z0), (h1, vE z1)] sz) := by
  refine Met.ofW (cc := b_C_equate) (maxL := 2) (ret := none) (by decide) rfl ?_
  intro p e s m args below meth c s₁ B hml hv
  obtain ⟨rfl, hsz, hP, hK, hD0⟩ := hv
  have hx := B.exec
  have hb := B.bytes
  have hr := B.returns
  have hts := atoms_spec (ws := w_C_equate) B.pre
  have hG : ∀ w ∈ gG, w.before _ s = true := fun w h => hts w (List.mem_cons_of_mem _ h)
  have hown : s.vm.findClass R_C = some m.cls := findClass_of_methodNamed B.named
  have hlocks := B.notSynchronized
  subst hsz
  have hD := hD0.self (sz := s.heap.size)
  generalize hAe : va_A [(h0, vE z0), (h1, vE z1)] s.heap.size = A at hD ⊢
  have hA : ∀ q : Nat, s.heap.size ≤ q → A q := fun q h => by rw [← hAe]; exact Or.inr h
  have hS : va_S A s.heap s.heap [] := va_S.rf
  have hP : va_P (dC, dI) classes [(h0, .inr (0, [.long (z0.1), .long (z0.2.1), .long (z0.2.2.1), .long (z0.2.2.2.1), .long (z0.2.2.2.2.1), .long (z0.2.2.2.2.2.1), .int (bI z0.2.2.2.2.2.2)])), (h1, .inr (0, [.long (z1.1), .long (z1.2.1), .long (z1.2.2.1), .long (z1.2.2.2.1), .long (z1.2.2.2.2.1), .long (z1.2.2.2.2.2.1), .int (bI z1.2.2.2.2.2.2)]))] s.heap := hP
  have hD : va_D A [(h0, .inr (0, [.long (z0.1), .long (z0.2.1), .long (z0.2.2.1), .long (z0.2.2.2.1), .long (z0.2.2.2.2.1), .long (z0.2.2.2.2.2.1), .int (bI z0.2.2.2.2.2.2)])), (h1, .inr (0, [.long (z1.1), .long (z1.2.1), .long (z1.2.2.1), .long (z1.2.2.2.1), .long (z1.2.2.2.2.1), .long (z1.2.2.2.2.2.1), .int (bI z1.2.2.2.2.2.2)]))] := hD
  have hl := lv_entry ([.ref h0, .ref h1]) (n := 2) (Nat.le_of_ble_eq_true rfl)
  rw [lg_entry_eq]
  generalize (lg_sl ([.ref h0, .ref h1]) ++ List.replicate (2 - (lg_sl ([.ref h0, .ref h1])).length) Slot.unset).toArray = ls at hl ⊢
  have hl : lv_has ls 2 [(0, .ref h0), (1, .ref h1)] := hl
  have K113g : ∀ (g108 : VV) (g113 : VV) (hj : f_C_equate z0 z1 = f_C_equate_113g z0 z1 g108 g113) (H : Heap) (locs : List Loc) (hP : va_P (dC, dI) classes [(h0, .inr (0, [.long (g108.1), .long (g108.2.1), .long (g108.2.2.1), .long (g108.2.2.2.1), .long (g108.2.2.2.2.1), .long (g108.2.2.2.2.2.1), .int (bI g108.2.2.2.2.2.2)])), (h1, .inr (0, [.long (g113.1), .long (g113.2.1), .long (g113.2.2.1), .long (g113.2.2.2.1), .long (g113.2.2.2.2.1), .long (g113.2.2.2.2.2.1), .int (bI g113.2.2.2.2.2.2)]))] H) (hD : va_D A [(h0, .inr (0, [.long (g108.1), .long (g108.2.1), .long (g108.2.2.1), .long (g108.2.2.2.1), .long (g108.2.2.2.2.1), .long (g108.2.2.2.2.2.1), .int (bI g108.2.2.2.2.2.2)])), (h1, .inr (0, [.long (g113.1), .long (g113.2.1), .long (g113.2.2.1), .long (g113.2.2.2.1), .long (g113.2.2.2.2.1), .long (g113.2.2.2.2.2.1), .int (bI g113.2.2.2.2.2.2)]))]) (hS : va_S A s.heap H locs) (ls : Array Slot) (hl : lv_has ls 2 []), W p l e (headSpec w_C_equate ({ frames := 2, cells := 0, slots := 0, locals := 46 } : Room)).room s m ([.ref h0, .ref h1] : List Value).toArray below meth c H locs 0 0 (MQ below (va_Qv (fun _ : Unit => True) (mB (dC, dI) A [(h0, vE (f_C_equate z0 z1).1), (h1, vE (f_C_equate z0 z1).2)]) A) ([.ref h0, .ref h1] : List Value).toArray s 0 0 A) (F0 m 116 ls []) := by
    intro g108 g113 hj H locs hP hD hS ls hl
    have fe : f_C_equate z0 z1 = (g108, g113) := hj.trans rfl
    exact W.vret hx hb hr (fun t ht hW => ⟨⟨(), rfl, trivial, by rw [ht, fe]; (try simp only [vE_mk]); exact hP, by rw [fe]; (try simp only [vE_mk]); exact hD⟩, hS.F ht⟩) hS.2.2 d_C_equate_116
  have K108g : ∀ (g108 : VV) (hj : f_C_equate z0 z1 = f_C_equate_108g z0 z1 g108) (H : Heap) (locs : List Loc) (hP : va_P (dC, dI) classes [(h0, .inr (0, [.long (g108.1), .long (g108.2.1), .long (g108.2.2.1), .long (g108.2.2.2.1), .long (g108.2.2.2.2.1), .long (g108.2.2.2.2.2.1), .int (bI g108.2.2.2.2.2.2)])), (h1, .inr (0, [.long (z1.1), .long (z1.2.1), .long (z1.2.2.1), .long (z1.2.2.2.1), .long (z1.2.2.2.2.1), .long (z1.2.2.2.2.2.1), .int (bI z1.2.2.2.2.2.2)]))] H) (hD : va_D A [(h0, .inr (0, [.long (g108.1), .long (g108.2.1), .long (g108.2.2.1), .long (g108.2.2.2.1), .long (g108.2.2.2.2.1), .long (g108.2.2.2.2.2.1), .int (bI g108.2.2.2.2.2.2)])), (h1, .inr (0, [.long (z1.1), .long (z1.2.1), .long (z1.2.2.1), .long (z1.2.2.2.1), .long (z1.2.2.2.2.1), .long (z1.2.2.2.2.2.1), .int (bI z1.2.2.2.2.2.2)]))]) (hS : va_S A s.heap H locs) (ls : Array Slot) (hl : lv_has ls 2 [(0, .ref h0), (1, .ref h1)]), W p l e (headSpec w_C_equate ({ frames := 2, cells := 0, slots := 0, locals := 46 } : Room)).room s m ([.ref h0, .ref h1] : List Value).toArray below meth c H locs 0 0 (MQ below (va_Qv (fun _ : Unit => True) (mB (dC, dI) A [(h0, vE (f_C_equate z0 z1).1), (h1, vE (f_C_equate z0 z1).2)]) A) ([.ref h0, .ref h1] : List Value).toArray s 0 0 A) (F0 m 111 ls []) := by
    intro g108 hj H locs hP hD hS ls hl
    refine lv_aload_n hx hb d_C_equate_111 rfl (lv_at hl 1 rfl) ?_
    refine lv_aload_n hx hb d_C_equate_112 rfl (lv_at hl 0 rfl) ?_
    refine mg_v (F := f_V_take z1 g108) (wc := [(h1, vE z1), (h0, vE g108)]) (w1 := fun g113 => [(h1, vE g113), (h0, vE g108)]) (wr := []) (ws' := fun g113 => [(h0, .inr (0, [.long (g108.1), .long (g108.2.1), .long (g108.2.2.1), .long (g108.2.2.2.1), .long (g108.2.2.2.2.1), .long (g108.2.2.2.2.2.1), .int (bI g108.2.2.2.2.2.2)])), (h1, .inr (0, [.long (g113.1), .long (g113.2.1), .long (g113.2.2.1), .long (g113.2.2.2.1), .long (g113.2.2.2.2.1), .long (g113.2.2.2.2.2.1), .int (bI g113.2.2.2.2.2.2)]))]) (va_runV (As := [.ref h0]) (rest := []) ⟨hx, hb, hml, hown, hts⟩ (c_V_take l dC dI h1 h0 H.size z1 g108) (cwV 1 hts (gV gw317 gw97 gw98 gw1 gw99) rfl rfl rfl (by decide +kernel) ⟨(Nat.le_of_ble_eq_true rfl), (Nat.le_of_ble_eq_true rfl)⟩) ⟨blm, va_recv hK hP (ci := 0) (q0 := 1) rfl rfl, fun U hU hW => ⟨rfl, by rw [hU], by rw [hU]; exact hP.sub [1, 0] rfl, va_K.moved hW.alike hK, (hD.sub [1, 0] (by decide) rfl).weaken (fun _ _ _ _ => trivial)⟩⟩ rfl rfl hl.1 rfl (lv_room (Nat.le_of_ble_eq_true rfl)) d_C_equate_113 ⟨Nat.zero_le _, Nat.zero_le _⟩) hP hD hS hA [1, 0] [] [1, 0] rfl rfl (by decide) (by decide) (fun _ => rfl) (by decide) (fun g113 eg113 H locs hP hD hS => ?_)
    refine K113g g108 g113 (Eq.trans (hj.trans rfl) (congrArg (fun g113 => f_C_equate_113g z0 z1 g108 g113) eg113)) H locs ?_ ?_ hS ls (lv_sub hl [] rfl)
    · with_reducible exact hP
    · with_reducible exact hD
  have K82g : ∀ (g82 : VV) (hj : f_C_equate z0 z1 = f_C_equate_82g z0 z1 g82) (H : Heap) (locs : List Loc) (hP : va_P (dC, dI) classes [(h0, .inr (0, [.long (g82.1), .long (g82.2.1), .long (g82.2.2.1), .long (g82.2.2.2.1), .long (g82.2.2.2.2.1), .long (g82.2.2.2.2.2.1), .int (bI g82.2.2.2.2.2.2)])), (h1, .inr (0, [.long (z1.1), .long (z1.2.1), .long (z1.2.2.1), .long (z1.2.2.2.1), .long (z1.2.2.2.2.1), .long (z1.2.2.2.2.2.1), .int (bI z1.2.2.2.2.2.2)]))] H) (hD : va_D A [(h0, .inr (0, [.long (g82.1), .long (g82.2.1), .long (g82.2.2.1), .long (g82.2.2.2.1), .long (g82.2.2.2.2.1), .long (g82.2.2.2.2.2.1), .int (bI g82.2.2.2.2.2.2)])), (h1, .inr (0, [.long (z1.1), .long (z1.2.1), .long (z1.2.2.1), .long (z1.2.2.2.1), .long (z1.2.2.2.2.1), .long (z1.2.2.2.2.2.1), .int (bI z1.2.2.2.2.2.2)]))]) (hS : va_S A s.heap H locs) (ls : Array Slot) (hl : lv_has ls 2 [(0, .ref h0), (1, .ref h1)]), W p l e (headSpec w_C_equate ({ frames := 2, cells := 0, slots := 0, locals := 46 } : Room)).room s m ([.ref h0, .ref h1] : List Value).toArray below meth c H locs 0 0 (MQ below (va_Qv (fun _ : Unit => True) (mB (dC, dI) A [(h0, vE (f_C_equate z0 z1).1), (h1, vE (f_C_equate z0 z1).2)]) A) ([.ref h0, .ref h1] : List Value).toArray s 0 0 A) (F0 m 85 ls []) := by
    intro g82 hj H locs hP hD hS ls hl
    refine lv_aload_n hx hb d_C_equate_85 rfl (lv_at hl 0 rfl) ?_
    refine lv_aload_n hx hb d_C_equate_86 rfl (lv_at hl 0 rfl) ?_
    refine va_get (D := (dC, dI)) (ci := 0) (v := .long (g82.2.2.2.2.1)) (C := R_V) (T := F_V) (N := 7) hx hb hts (fun w h => List.mem_cons_of_mem _ (uw_V w h)) hown hK hP 0 rfl rfl 4 (by decide) (hG (.fieldLink R_C 78 "ValueSieve$Value" "least" "J") gw35) (fun _ h9 => h9) rfl d_C_equate_87 ?_
    refine lv_aload_n hx hb d_C_equate_90 rfl (lv_at hl 1 rfl) ?_
    refine va_get (D := (dC, dI)) (ci := 0) (v := .long (z1.2.2.2.2.1)) (C := R_V) (T := F_V) (N := 7) hx hb hts (fun w h => List.mem_cons_of_mem _ (uw_V w h)) hown hK hP 1 rfl rfl 4 (by decide) (hG (.fieldLink R_C 78 "ValueSieve$Value" "least" "J") gw35) (fun _ h9 => h9) rfl d_C_equate_91 ?_
    refine va_mmax_long hx hb (hml.trans hl.1.symm) hown (hG (.methodLink R_C 81 Lib.MathLoose.max_long.x) gw314) (hG (.static Lib.MathLoose.max_long.x) gw120) (hG (.initialized "java/lang/Math") gw3) (hG (.code Lib.MathLoose.max_long.x Lib.MathLoose.max_long.code 4 (some .long)) gw121) (Nat.le_of_ble_eq_true rfl) (Nat.le_of_ble_eq_true rfl) (Nat.zero_le _) (Nat.zero_le _) d_C_equate_94 ?_
    refine lv_aload_n hx hb d_C_equate_97 rfl (lv_at hl 0 rfl) ?_
    refine va_get (D := (dC, dI)) (ci := 0) (v := .long (g82.2.2.2.2.2.1)) (C := R_V) (T := F_V) (N := 7) hx hb hts (fun w h => List.mem_cons_of_mem _ (uw_V w h)) hown hK hP 0 rfl rfl 5 (by decide) (hG (.fieldLink R_C 86 "ValueSieve$Value" "greatest" "J") gw39) (fun _ h9 => h9) rfl d_C_equate_98 ?_
    refine lv_aload_n hx hb d_C_equate_101 rfl (lv_at hl 1 rfl) ?_
    refine va_get (D := (dC, dI)) (ci := 0) (v := .long (z1.2.2.2.2.2.1)) (C := R_V) (T := F_V) (N := 7) hx hb hts (fun w h => List.mem_cons_of_mem _ (uw_V w h)) hown hK hP 1 rfl rfl 5 (by decide) (hG (.fieldLink R_C 86 "ValueSieve$Value" "greatest" "J") gw39) (fun _ h9 => h9) rfl d_C_equate_102 ?_
    refine va_mmin_long hx hb (hml.trans hl.1.symm) hown (hG (.methodLink R_C 89 Lib.MathLoose.min_long.x) gw315) (hG (.static Lib.MathLoose.min_long.x) gw137) (hG (.initialized "java/lang/Math") gw3) (hG (.code Lib.MathLoose.min_long.x Lib.MathLoose.min_long.code 4 (some .long)) gw138) (Nat.le_of_ble_eq_true rfl) (Nat.le_of_ble_eq_true rfl) (Nat.zero_le _) (Nat.zero_le _) d_C_equate_105 ?_
    refine mg_v (F := f_V_saySigned g82 (jmmax g82.2.2.2.2.1 z1.2.2.2.2.1) (jmmin g82.2.2.2.2.2.1 z1.2.2.2.2.2.1)) (wc := [(h0, vE g82)]) (w1 := fun g108 => [(h0, vE g108)]) (wr := [(h1, .inr (0, [.long (z1.1), .long (z1.2.1), .long (z1.2.2.1), .long (z1.2.2.2.1), .long (z1.2.2.2.2.1), .long (z1.2.2.2.2.2.1), .int (bI z1.2.2.2.2.2.2)]))]) (ws' := fun g108 => [(h0, .inr (0, [.long (g108.1), .long (g108.2.1), .long (g108.2.2.1), .long (g108.2.2.2.1), .long (g108.2.2.2.2.1), .long (g108.2.2.2.2.2.1), .int (bI g108.2.2.2.2.2.2)])), (h1, .inr (0, [.long (z1.1), .long (z1.2.1), .long (z1.2.2.1), .long (z1.2.2.2.1), .long (z1.2.2.2.2.1), .long (z1.2.2.2.2.2.1), .int (bI z1.2.2.2.2.2.2)]))]) (va_runV (As := [.long (jmmax g82.2.2.2.2.1 z1.2.2.2.2.1), .long (jmmin g82.2.2.2.2.2.1 z1.2.2.2.2.2.1)]) (rest := []) ⟨hx, hb, hml, hown, hts⟩ (c_V_saySigned l dC dI h0 H.size g82 (jmmax g82.2.2.2.2.1 z1.2.2.2.2.1) (jmmin g82.2.2.2.2.2.1 z1.2.2.2.2.2.1)) (cwV 2 hts (gV gw316 gw90 gw91 gw1 gw92) rfl rfl rfl (by decide +kernel) ⟨(Nat.le_of_ble_eq_true rfl), (Nat.le_of_ble_eq_true rfl)⟩) ⟨blm, va_recv hK hP (ci := 0) (q0 := 0) rfl rfl, fun U hU hW => ⟨rfl, by rw [hU], by rw [hU]; exact hP.sub [0] rfl, va_K.moved hW.alike hK, (hD.sub [0] (by decide) rfl).weaken (fun _ _ _ _ => trivial)⟩⟩ rfl rfl hl.1 rfl (lv_room (Nat.le_of_ble_eq_true rfl)) d_C_equate_108 ⟨Nat.zero_le _, Nat.zero_le _⟩) hP hD hS hA [0] [1] [1, 0] rfl rfl (by decide) (by decide) (fun _ => rfl) (by decide) (fun g108 eg108 H locs hP hD hS => ?_)
    refine K108g g108 (Eq.trans (hj.trans rfl) (congrArg (fun g108 => f_C_equate_108g z0 z1 g108) eg108)) H locs ?_ ?_ hS ls (lv_sub hl [0, 1] rfl)
    · with_reducible exact hP
    · with_reducible exact hD
  have K56g : ∀ (g56 : VV) (hj : f_C_equate z0 z1 = f_C_equate_56g z0 z1 g56) (H : Heap) (locs : List Loc) (hP : va_P (dC, dI) classes [(h0, .inr (0, [.long (g56.1), .long (g56.2.1), .long (g56.2.2.1), .long (g56.2.2.2.1), .long (g56.2.2.2.2.1), .long (g56.2.2.2.2.2.1), .int (bI g56.2.2.2.2.2.2)])), (h1, .inr (0, [.long (z1.1), .long (z1.2.1), .long (z1.2.2.1), .long (z1.2.2.2.1), .long (z1.2.2.2.2.1), .long (z1.2.2.2.2.2.1), .int (bI z1.2.2.2.2.2.2)]))] H) (hD : va_D A [(h0, .inr (0, [.long (g56.1), .long (g56.2.1), .long (g56.2.2.1), .long (g56.2.2.2.1), .long (g56.2.2.2.2.1), .long (g56.2.2.2.2.2.1), .int (bI g56.2.2.2.2.2.2)])), (h1, .inr (0, [.long (z1.1), .long (z1.2.1), .long (z1.2.2.1), .long (z1.2.2.2.1), .long (z1.2.2.2.2.1), .long (z1.2.2.2.2.2.1), .int (bI z1.2.2.2.2.2.2)]))]) (hS : va_S A s.heap H locs) (ls : Array Slot) (hl : lv_has ls 2 [(0, .ref h0), (1, .ref h1)]), W p l e (headSpec w_C_equate ({ frames := 2, cells := 0, slots := 0, locals := 46 } : Room)).room s m ([.ref h0, .ref h1] : List Value).toArray below meth c H locs 0 0 (MQ below (va_Qv (fun _ : Unit => True) (mB (dC, dI) A [(h0, vE (f_C_equate z0 z1).1), (h1, vE (f_C_equate z0 z1).2)]) A) ([.ref h0, .ref h1] : List Value).toArray s 0 0 A) (F0 m 59 ls []) := by
    intro g56 hj H locs hP hD hS ls hl
    refine lv_aload_n hx hb d_C_equate_59 rfl (lv_at hl 0 rfl) ?_
    refine lv_aload_n hx hb d_C_equate_60 rfl (lv_at hl 0 rfl) ?_
    refine va_get (D := (dC, dI)) (ci := 0) (v := .long (g56.2.2.1)) (C := R_V) (T := F_V) (N := 7) hx hb hts (fun w h => List.mem_cons_of_mem _ (uw_V w h)) hown hK hP 0 rfl rfl 2 (by decide) (hG (.fieldLink R_C 62 "ValueSieve$Value" "low" "J") gw27) (fun _ h9 => h9) rfl d_C_equate_61 ?_
    refine lv_aload_n hx hb d_C_equate_64 rfl (lv_at hl 1 rfl) ?_
    refine va_get (D := (dC, dI)) (ci := 0) (v := .long (z1.2.2.1)) (C := R_V) (T := F_V) (N := 7) hx hb hts (fun w h => List.mem_cons_of_mem _ (uw_V w h)) hown hK hP 1 rfl rfl 2 (by decide) (hG (.fieldLink R_C 62 "ValueSieve$Value" "low" "J") gw27) (fun _ h9 => h9) rfl d_C_equate_65 ?_
    refine rc_l (W.runS (As := [.long (g56.2.2.1), .long (z1.2.2.1)]) (rest := [.ref h0]) ⟨hx, hb, hml, hown, hts⟩ (c_N_more l g56.2.2.1 z1.2.2.1) (va_cwS 2 hts (gS gw311 gw123 gw2 gw124) rfl rfl rfl (by decide +kernel) ⟨(Nat.le_of_ble_eq_true rfl), (Nat.le_of_ble_eq_true rfl)⟩) ⟨bl0, fun U hU hW => ⟨rfl, trivial⟩⟩ rfl rfl hl.1 rfl (lv_room (Nat.le_of_ble_eq_true rfl)) d_C_equate_68 ⟨Nat.zero_le _, Nat.zero_le _⟩) ?_
    refine lv_aload_n hx hb d_C_equate_71 rfl (lv_at hl 0 rfl) ?_
    refine va_get (D := (dC, dI)) (ci := 0) (v := .long (g56.2.2.2.1)) (C := R_V) (T := F_V) (N := 7) hx hb hts (fun w h => List.mem_cons_of_mem _ (uw_V w h)) hown hK hP 0 rfl rfl 3 (by decide) (hG (.fieldLink R_C 69 "ValueSieve$Value" "high" "J") gw31) (fun _ h9 => h9) rfl d_C_equate_72 ?_
    refine lv_aload_n hx hb d_C_equate_75 rfl (lv_at hl 1 rfl) ?_
    refine va_get (D := (dC, dI)) (ci := 0) (v := .long (z1.2.2.2.1)) (C := R_V) (T := F_V) (N := 7) hx hb hts (fun w h => List.mem_cons_of_mem _ (uw_V w h)) hown hK hP 1 rfl rfl 3 (by decide) (hG (.fieldLink R_C 69 "ValueSieve$Value" "high" "J") gw31) (fun _ h9 => h9) rfl d_C_equate_76 ?_
    refine rc_l (W.runS (As := [.long (g56.2.2.2.1), .long (z1.2.2.2.1)]) (rest := [.long (f_N_more g56.2.2.1 z1.2.2.1), .ref h0]) ⟨hx, hb, hml, hown, hts⟩ (c_N_less l g56.2.2.2.1 z1.2.2.2.1) (va_cwS 2 hts (gS gw312 gw140 gw2 gw141) rfl rfl rfl (by decide +kernel) ⟨(Nat.le_of_ble_eq_true rfl), (Nat.le_of_ble_eq_true rfl)⟩) ⟨bl0, fun U hU hW => ⟨rfl, trivial⟩⟩ rfl rfl hl.1 rfl (lv_room (Nat.le_of_ble_eq_true rfl)) d_C_equate_79 ⟨Nat.zero_le _, Nat.zero_le _⟩) ?_
    refine mg_v (F := f_V_sayUnsigned g56 (f_N_more g56.2.2.1 z1.2.2.1) (f_N_less g56.2.2.2.1 z1.2.2.2.1)) (wc := [(h0, vE g56)]) (w1 := fun g82 => [(h0, vE g82)]) (wr := [(h1, .inr (0, [.long (z1.1), .long (z1.2.1), .long (z1.2.2.1), .long (z1.2.2.2.1), .long (z1.2.2.2.2.1), .long (z1.2.2.2.2.2.1), .int (bI z1.2.2.2.2.2.2)]))]) (ws' := fun g82 => [(h0, .inr (0, [.long (g82.1), .long (g82.2.1), .long (g82.2.2.1), .long (g82.2.2.2.1), .long (g82.2.2.2.2.1), .long (g82.2.2.2.2.2.1), .int (bI g82.2.2.2.2.2.2)])), (h1, .inr (0, [.long (z1.1), .long (z1.2.1), .long (z1.2.2.1), .long (z1.2.2.2.1), .long (z1.2.2.2.2.1), .long (z1.2.2.2.2.2.1), .int (bI z1.2.2.2.2.2.2)]))]) (va_runV (As := [.long (f_N_more g56.2.2.1 z1.2.2.1), .long (f_N_less g56.2.2.2.1 z1.2.2.2.1)]) (rest := []) ⟨hx, hb, hml, hown, hts⟩ (c_V_sayUnsigned l dC dI h0 H.size g56 (f_N_more g56.2.2.1 z1.2.2.1) (f_N_less g56.2.2.2.1 z1.2.2.2.1)) (cwV 2 hts (gV gw313 gw84 gw85 gw1 gw86) rfl rfl rfl (by decide +kernel) ⟨(Nat.le_of_ble_eq_true rfl), (Nat.le_of_ble_eq_true rfl)⟩) ⟨blm, va_recv hK hP (ci := 0) (q0 := 0) rfl rfl, fun U hU hW => ⟨rfl, by rw [hU], by rw [hU]; exact hP.sub [0] rfl, va_K.moved hW.alike hK, (hD.sub [0] (by decide) rfl).weaken (fun _ _ _ _ => trivial)⟩⟩ rfl rfl hl.1 rfl (lv_room (Nat.le_of_ble_eq_true rfl)) d_C_equate_82 ⟨Nat.zero_le _, Nat.zero_le _⟩) hP hD hS hA [0] [1] [1, 0] rfl rfl (by decide) (by decide) (fun _ => rfl) (by decide) (fun g82 eg82 H locs hP hD hS => ?_)
    refine K82g g82 (Eq.trans (hj.trans rfl) (congrArg (fun g82 => f_C_equate_82g z0 z1 g82) eg82)) H locs ?_ ?_ hS ls (lv_sub hl [0, 1] rfl)
    · with_reducible exact hP
    · with_reducible exact hD
  have K37 : ∀ (w37_0_0 : Int64) (w37_0_1 : Int64) (w37_0_2 : Int64) (w37_0_3 : Int64) (w37_0_4 : Int64) (w37_0_5 : Int64) (w37_0_6 : Bool) (hj : f_C_equate z0 z1 = f_C_equate_37 z0 z1 w37_0_0 w37_0_1 w37_0_2 w37_0_3 w37_0_4 w37_0_5 w37_0_6) (H : Heap) (locs : List Loc) (hP : va_P (dC, dI) classes [(h0, .inr (0, [.long (w37_0_0), .long (w37_0_1), .long (w37_0_2), .long (w37_0_3), .long (w37_0_4), .long (w37_0_5), .int (bI w37_0_6)])), (h1, .inr (0, [.long (z1.1), .long (z1.2.1), .long (z1.2.2.1), .long (z1.2.2.2.1), .long (z1.2.2.2.2.1), .long (z1.2.2.2.2.2.1), .int (bI z1.2.2.2.2.2.2)]))] H) (hD : va_D A [(h0, .inr (0, [.long (w37_0_0), .long (w37_0_1), .long (w37_0_2), .long (w37_0_3), .long (w37_0_4), .long (w37_0_5), .int (bI w37_0_6)])), (h1, .inr (0, [.long (z1.1), .long (z1.2.1), .long (z1.2.2.1), .long (z1.2.2.2.1), .long (z1.2.2.2.2.1), .long (z1.2.2.2.2.2.1), .int (bI z1.2.2.2.2.2.2)]))]) (hS : va_S A s.heap H locs) (ls : Array Slot) (hl : lv_has ls 2 [(0, .ref h0), (1, .ref h1)]), W p l e (headSpec w_C_equate ({ frames := 2, cells := 0, slots := 0, locals := 46 } : Room)).room s m ([.ref h0, .ref h1] : List Value).toArray below meth c H locs 0 0 (MQ below (va_Qv (fun _ : Unit => True) (mB (dC, dI) A [(h0, vE (f_C_equate z0 z1).1), (h1, vE (f_C_equate z0 z1).2)]) A) ([.ref h0, .ref h1] : List Value).toArray s 0 0 A) (F0 m 37 ls []) := by
    intro w37_0_0 w37_0_1 w37_0_2 w37_0_3 w37_0_4 w37_0_5 w37_0_6 hj H locs hP hD hS ls hl
    refine lv_aload_n hx hb d_C_equate_37 rfl (lv_at hl 0 rfl) ?_
    refine lv_aload_n hx hb d_C_equate_38 rfl (lv_at hl 0 rfl) ?_
    refine va_get (D := (dC, dI)) (ci := 0) (v := .long (w37_0_0)) (C := R_V) (T := F_V) (N := 7) hx hb hts (fun w h => List.mem_cons_of_mem _ (uw_V w h)) hown hK hP 0 rfl rfl 0 (by decide) (hG (.fieldLink R_C 45 "ValueSieve$Value" "bits" "J") gw20) (fun _ h9 => h9) rfl d_C_equate_39 ?_
    refine lv_aload_n hx hb d_C_equate_42 rfl (lv_at hl 1 rfl) ?_
    refine va_get (D := (dC, dI)) (ci := 0) (v := .long (z1.1)) (C := R_V) (T := F_V) (N := 7) hx hb hts (fun w h => List.mem_cons_of_mem _ (uw_V w h)) hown hK hP 1 rfl rfl 0 (by decide) (hG (.fieldLink R_C 45 "ValueSieve$Value" "bits" "J") gw20) (fun _ h9 => h9) rfl d_C_equate_43 ?_
    refine lv_lor hx hb d_C_equate_46 ?_
    refine lv_aload_n hx hb d_C_equate_47 rfl (lv_at hl 0 rfl) ?_
    refine va_get (D := (dC, dI)) (ci := 0) (v := .long (w37_0_1)) (C := R_V) (T := F_V) (N := 7) hx hb hts (fun w h => List.mem_cons_of_mem _ (uw_V w h)) hown hK hP 0 rfl rfl 1 (by decide) (hG (.fieldLink R_C 49 "ValueSieve$Value" "unknown" "J") gw23) (fun _ h9 => h9) rfl d_C_equate_48 ?_
    refine lv_aload_n hx hb d_C_equate_51 rfl (lv_at hl 1 rfl) ?_
    refine va_get (D := (dC, dI)) (ci := 0) (v := .long (z1.2.1)) (C := R_V) (T := F_V) (N := 7) hx hb hts (fun w h => List.mem_cons_of_mem _ (uw_V w h)) hown hK hP 1 rfl rfl 1 (by decide) (hG (.fieldLink R_C 49 "ValueSieve$Value" "unknown" "J") gw23) (fun _ h9 => h9) rfl d_C_equate_52 ?_
    refine lv_land hx hb d_C_equate_55 ?_
    refine mg_v (F := f_V_sayBits ((w37_0_0, w37_0_1, w37_0_2, w37_0_3, w37_0_4, w37_0_5, w37_0_6)) (w37_0_0 ||| z1.1) (w37_0_1 &&& z1.2.1)) (wc := [(h0, vE ((w37_0_0, w37_0_1, w37_0_2, w37_0_3, w37_0_4, w37_0_5, w37_0_6)))]) (w1 := fun g56 => [(h0, vE g56)]) (wr := [(h1, .inr (0, [.long (z1.1), .long (z1.2.1), .long (z1.2.2.1), .long (z1.2.2.2.1), .long (z1.2.2.2.2.1), .long (z1.2.2.2.2.2.1), .int (bI z1.2.2.2.2.2.2)]))]) (ws' := fun g56 => [(h0, .inr (0, [.long (g56.1), .long (g56.2.1), .long (g56.2.2.1), .long (g56.2.2.2.1), .long (g56.2.2.2.2.1), .long (g56.2.2.2.2.2.1), .int (bI g56.2.2.2.2.2.2)])), (h1, .inr (0, [.long (z1.1), .long (z1.2.1), .long (z1.2.2.1), .long (z1.2.2.2.1), .long (z1.2.2.2.2.1), .long (z1.2.2.2.2.2.1), .int (bI z1.2.2.2.2.2.2)]))]) (va_runV (As := [.long (w37_0_0 ||| z1.1), .long (w37_0_1 &&& z1.2.1)]) (rest := []) ⟨hx, hb, hml, hown, hts⟩ (c_V_sayBits l dC dI h0 H.size ((w37_0_0, w37_0_1, w37_0_2, w37_0_3, w37_0_4, w37_0_5, w37_0_6)) (w37_0_0 ||| z1.1) (w37_0_1 &&& z1.2.1)) (cwV 2 hts (gV gw310 gw80 gw81 gw1 gw82) rfl rfl rfl (by decide +kernel) ⟨(Nat.le_of_ble_eq_true rfl), (Nat.le_of_ble_eq_true rfl)⟩) ⟨blm, va_recv hK hP (ci := 0) (q0 := 0) rfl rfl, fun U hU hW => ⟨rfl, by rw [hU], by rw [hU]; exact hP.sub [0] rfl, va_K.moved hW.alike hK, (hD.sub [0] (by decide) rfl).weaken (fun _ _ _ _ => trivial)⟩⟩ rfl rfl hl.1 rfl (lv_room (Nat.le_of_ble_eq_true rfl)) d_C_equate_56 ⟨Nat.zero_le _, Nat.zero_le _⟩) hP hD hS hA [0] [1] [1, 0] rfl rfl (by decide) (by decide) (fun _ => rfl) (by decide) (fun g56 eg56 H locs hP hD hS => ?_)
    refine K56g g56 (Eq.trans (hj.trans rfl) (congrArg (fun g56 => f_C_equate_56g z0 z1 g56) eg56)) H locs ?_ ?_ hS ls (lv_sub hl [0, 1] rfl)
    · with_reducible exact hP
    · with_reducible exact hD
  refine lv_aload_n hx hb d_C_equate_0 rfl (lv_at hl 0 rfl) ?_
  refine va_get (D := (dC, dI)) (ci := 0) (v := .long (z0.1)) (C := R_V) (T := F_V) (N := 7) hx hb hts (fun w h => List.mem_cons_of_mem _ (uw_V w h)) hown hK hP 0 rfl rfl 0 (by decide) (hG (.fieldLink R_C 45 "ValueSieve$Value" "bits" "J") gw20) (fun _ h9 => h9) rfl d_C_equate_1 ?_
  refine lv_aload_n hx hb d_C_equate_4 rfl (lv_at hl 1 rfl) ?_
  refine va_get (D := (dC, dI)) (ci := 0) (v := .long (z1.1)) (C := R_V) (T := F_V) (N := 7) hx hb hts (fun w h => List.mem_cons_of_mem _ (uw_V w h)) hown hK hP 1 rfl rfl 0 (by decide) (hG (.fieldLink R_C 45 "ValueSieve$Value" "bits" "J") gw20) (fun _ h9 => h9) rfl d_C_equate_5 ?_
  refine lv_lxor hx hb d_C_equate_8 ?_
  refine lv_aload_n hx hb d_C_equate_9 rfl (lv_at hl 0 rfl) ?_
  refine va_get (D := (dC, dI)) (ci := 0) (v := .long (z0.2.1)) (C := R_V) (T := F_V) (N := 7) hx hb hts (fun w h => List.mem_cons_of_mem _ (uw_V w h)) hown hK hP 0 rfl rfl 1 (by decide) (hG (.fieldLink R_C 49 "ValueSieve$Value" "unknown" "J") gw23) (fun _ h9 => h9) rfl d_C_equate_10 ?_
  refine lv_ldc2 (v := -1) hx hb hown (hG (.constantLong R_C 52 (-1)) gw309) d_C_equate_13 ?_
  refine lv_lxor hx hb d_C_equate_16 ?_
  refine lv_land hx hb d_C_equate_17 ?_
  refine lv_aload_n hx hb d_C_equate_18 rfl (lv_at hl 1 rfl) ?_
  refine va_get (D := (dC, dI)) (ci := 0) (v := .long (z1.2.1)) (C := R_V) (T := F_V) (N := 7) hx hb hts (fun w h => List.mem_cons_of_mem _ (uw_V w h)) hown hK hP 1 rfl rfl 1 (by decide) (hG (.fieldLink R_C 49 "ValueSieve$Value" "unknown" "J") gw23) (fun _ h9 => h9) rfl d_C_equate_19 ?_
  refine lv_ldc2 (v := -1) hx hb hown (hG (.constantLong R_C 52 (-1)) gw309) d_C_equate_22 ?_
  refine lv_lxor hx hb d_C_equate_25 ?_
  refine lv_land hx hb d_C_equate_26 ?_
  refine lv_lconst (v := 0) hx hb d_C_equate_27 (by decide) ?_
  refine wl_eq (tgt := 37) hx hb d_C_equate_28 d_C_equate_29 (by decide) (fun e1_37 => ?_) (fun e1_37 => ?_)
  · refine K37 z0.1 z0.2.1 z0.2.2.1 z0.2.2.2.1 z0.2.2.2.2.1 z0.2.2.2.2.2.1 z0.2.2.2.2.2.2 (by unfold f_C_equate; first | with_reducible exact if_pos e1_37 | exact if_pos e1_37) s.heap [] ?_ ?_ hS ls (lv_sub hl [0, 1] rfl)
    · with_reducible exact hP
    · with_reducible exact hD
  · refine lv_aload_n hx hb d_C_equate_32 rfl (lv_at hl 0 rfl) ?_
    refine lv_iconst (v := 1) hx hb d_C_equate_33 (by decide) ?_
    refine va_put (D := (dC, dI)) (ci := 0) (v := .int (bI true)) (ty := .boolean) (C := R_V) (T := F_V) (N := 7) hx hb hts (fun w h => List.mem_cons_of_mem _ (uw_V w h)) t_V t_V_ok n_V hown hK hP hD hS 0 rfl rfl 6 (by decide) (hG (.fieldLink R_C 54 "ValueSieve$Value" "nothing" "Z") gw42) (fun _ h9 => h9) rfl (by decide +kernel) (bI_n true) (bI_f true) (Nat.le_of_ble_eq_true rfl) d_C_equate_34 (fun H locs hP hD hS => ?_)
    have hP : va_P (dC, dI) classes [(h0, .inr (0, [.long (z0.1), .long (z0.2.1), .long (z0.2.2.1), .long (z0.2.2.2.1), .long (z0.2.2.2.2.1), .long (z0.2.2.2.2.2.1), .int (bI true)])), (h1, .inr (0, [.long (z1.1), .long (z1.2.1), .long (z1.2.2.1), .long (z1.2.2.2.1), .long (z1.2.2.2.2.1), .long (z1.2.2.2.2.2.1), .int (bI z1.2.2.2.2.2.2)]))] H := hP
    have hD : va_D A [(h0, .inr (0, [.long (z0.1), .long (z0.2.1), .long (z0.2.2.1), .long (z0.2.2.2.1), .long (z0.2.2.2.2.1), .long (z0.2.2.2.2.2.1), .int (bI true)])), (h1, .inr (0, [.long (z1.1), .long (z1.2.1), .long (z1.2.2.1), .long (z1.2.2.2.1), .long (z1.2.2.2.2.1), .long (z1.2.2.2.2.2.1), .int (bI z1.2.2.2.2.2.2)]))] := hD
    refine K37 z0.1 z0.2.1 z0.2.2.1 z0.2.2.2.1 z0.2.2.2.2.1 z0.2.2.2.2.2.1 true (by unfold f_C_equate; first | with_reducible exact if_neg e1_37 | exact if_neg e1_37) H locs ?_ ?_ hS ls (lv_sub hl [0, 1] rfl)
    · with_reducible exact hP
    · with_reducible exact hD
-- ValueSieve$Comparisons.leaveOut
theorem d_C_leaveOut_0 : decode b_C_leaveOut 0 = .ok (.aload_n 0, 1) := by decide +kernel
theorem d_C_leaveOut_1 : decode b_C_leaveOut 1 = .ok (.invokevirtual 99, 3) := by decide +kernel
theorem d_C_leaveOut_4 : decode b_C_leaveOut 4 = .ok (.ifCond .eq 18, 3) := by decide +kernel
theorem d_C_leaveOut_7 : decode b_C_leaveOut 7 = .ok (.aload_n 0, 1) := by decide +kernel
theorem d_C_leaveOut_8 : decode b_C_leaveOut 8 = .ok (.getfield 45, 3) := by decide +kernel
theorem d_C_leaveOut_11 : decode b_C_leaveOut 11 = .ok (.lload_n 1, 1) := by decide +kernel
theorem d_C_leaveOut_12 : decode b_C_leaveOut 12 = .ok (.lcmp, 1) := by decide +kernel
theorem d_C_leaveOut_13 : decode b_C_leaveOut 13 = .ok (.ifCond .ne 9, 3) := by decide +kernel
theorem d_C_leaveOut_16 : decode b_C_leaveOut 16 = .ok (.aload_n 0, 1) := by decide +kernel
theorem d_C_leaveOut_17 : decode b_C_leaveOut 17 = .ok (.iconst 1, 1) := by decide +kernel
theorem d_C_leaveOut_18 : decode b_C_leaveOut 18 = .ok (.putfield 54, 3) := by decide +kernel
theorem d_C_leaveOut_21 : decode b_C_leaveOut 21 = .ok (.return_, 1) := by decide +kernel
theorem d_C_leaveOut_22 : decode b_C_leaveOut 22 = .ok (.aload_n 0, 1) := by decide +kernel
theorem d_C_leaveOut_23 : decode b_C_leaveOut 23 = .ok (.getfield 62, 3) := by decide +kernel
theorem d_C_leaveOut_26 : decode b_C_leaveOut 26 = .ok (.lload_n 1, 1) := by decide +kernel
theorem d_C_leaveOut_27 : decode b_C_leaveOut 27 = .ok (.lcmp, 1) := by decide +kernel
theorem d_C_leaveOut_28 : decode b_C_leaveOut 28 = .ok (.ifCond .ne 13, 3) := by decide +kernel
theorem d_C_leaveOut_31 : decode b_C_leaveOut 31 = .ok (.aload_n 0, 1) := by decide +kernel
theorem d_C_leaveOut_32 : decode b_C_leaveOut 32 = .ok (.dup, 1) := by decide +kernel
theorem d_C_leaveOut_33 : decode b_C_leaveOut 33 = .ok (.getfield 62, 3) := by decide +kernel
theorem d_C_leaveOut_36 : decode b_C_leaveOut 36 = .ok (.lconst 1, 1) := by decide +kernel
theorem d_C_leaveOut_37 : decode b_C_leaveOut 37 = .ok (.ladd, 1) := by decide +kernel
theorem d_C_leaveOut_38 : decode b_C_leaveOut 38 = .ok (.putfield 62, 3) := by decide +kernel
theorem d_C_leaveOut_41 : decode b_C_leaveOut 41 = .ok (.aload_n 0, 1) := by decide +kernel
theorem d_C_leaveOut_42 : decode b_C_leaveOut 42 = .ok (.getfield 69, 3) := by decide +kernel
theorem d_C_leaveOut_45 : decode b_C_leaveOut 45 = .ok (.lload_n 1, 1) := by decide +kernel
theorem d_C_leaveOut_46 : decode b_C_leaveOut 46 = .ok (.lcmp, 1) := by decide +kernel
theorem d_C_leaveOut_47 : decode b_C_leaveOut 47 = .ok (.ifCond .ne 13, 3) := by decide +kernel
theorem d_C_leaveOut_50 : decode b_C_leaveOut 50 = .ok (.aload_n 0, 1) := by decide +kernel
theorem d_C_leaveOut_51 : decode b_C_leaveOut 51 = .ok (.dup, 1) := by decide +kernel
theorem d_C_leaveOut_52 : decode b_C_leaveOut 52 = .ok (.getfield 69, 3) := by decide +kernel
theorem d_C_leaveOut_55 : decode b_C_leaveOut 55 = .ok (.lconst 1, 1) := by decide +kernel
theorem d_C_leaveOut_56 : decode b_C_leaveOut 56 = .ok (.lsub, 1) := by decide +kernel
theorem d_C_leaveOut_57 : decode b_C_leaveOut 57 = .ok (.putfield 69, 3) := by decide +kernel
theorem d_C_leaveOut_60 : decode b_C_leaveOut 60 = .ok (.aload_n 0, 1) := by decide +kernel
theorem d_C_leaveOut_61 : decode b_C_leaveOut 61 = .ok (.getfield 78, 3) := by decide +kernel
theorem d_C_leaveOut_64 : decode b_C_leaveOut 64 = .ok (.lload_n 1, 1) := by decide +kernel
theorem d_C_leaveOut_65 : decode b_C_leaveOut 65 = .ok (.lcmp, 1) := by decide +kernel
theorem d_C_leaveOut_66 : decode b_C_leaveOut 66 = .ok (.ifCond .ne 13, 3) := by decide +kernel
theorem d_C_leaveOut_69 : decode b_C_leaveOut 69 = .ok (.aload_n 0, 1) := by decide +kernel
theorem d_C_leaveOut_70 : decode b_C_leaveOut 70 = .ok (.dup, 1) := by decide +kernel
theorem d_C_leaveOut_71 : decode b_C_leaveOut 71 = .ok (.getfield 78, 3) := by decide +kernel
theorem d_C_leaveOut_74 : decode b_C_leaveOut 74 = .ok (.lconst 1, 1) := by decide +kernel
theorem d_C_leaveOut_75 : decode b_C_leaveOut 75 = .ok (.ladd, 1) := by decide +kernel
theorem d_C_leaveOut_76 : decode b_C_leaveOut 76 = .ok (.putfield 78, 3) := by decide +kernel
theorem d_C_leaveOut_79 : decode b_C_leaveOut 79 = .ok (.aload_n 0, 1) := by decide +kernel
theorem d_C_leaveOut_80 : decode b_C_leaveOut 80 = .ok (.getfield 86, 3) := by decide +kernel
theorem d_C_leaveOut_83 : decode b_C_leaveOut 83 = .ok (.lload_n 1, 1) := by decide +kernel
theorem d_C_leaveOut_84 : decode b_C_leaveOut 84 = .ok (.lcmp, 1) := by decide +kernel
theorem d_C_leaveOut_85 : decode b_C_leaveOut 85 = .ok (.ifCond .ne 13, 3) := by decide +kernel
theorem d_C_leaveOut_88 : decode b_C_leaveOut 88 = .ok (.aload_n 0, 1) := by decide +kernel
theorem d_C_leaveOut_89 : decode b_C_leaveOut 89 = .ok (.dup, 1) := by decide +kernel
theorem d_C_leaveOut_90 : decode b_C_leaveOut 90 = .ok (.getfield 86, 3) := by decide +kernel
theorem d_C_leaveOut_93 : decode b_C_leaveOut 93 = .ok (.lconst 1, 1) := by decide +kernel
theorem d_C_leaveOut_94 : decode b_C_leaveOut 94 = .ok (.lsub, 1) := by decide +kernel
theorem d_C_leaveOut_95 : decode b_C_leaveOut 95 = .ok (.putfield 86, 3) := by decide +kernel
theorem d_C_leaveOut_98 : decode b_C_leaveOut 98 = .ok (.return_, 1) := by decide +kernel
def f_C_leaveOut_98r (z0 : VV) (p1 : Int64) (w98r_0_0 : Int64) (w98r_0_1 : Int64) (w98r_0_2 : Int64) (w98r_0_3 : Int64) (w98r_0_4 : Int64) (w98r_0_5 : Int64) (w98r_0_6 : Bool) : VV := ((w98r_0_0, w98r_0_1, w98r_0_2, w98r_0_3, w98r_0_4, w98r_0_5, w98r_0_6))
def f_C_leaveOut_79 (z0 : VV) (p1 : Int64) (w79_0_0 : Int64) (w79_0_1 : Int64) (w79_0_2 : Int64) (w79_0_3 : Int64) (w79_0_4 : Int64) (w79_0_5 : Int64) (w79_0_6 : Bool) : VV := (if w79_0_5 = p1 then f_C_leaveOut_98r z0 p1 w79_0_0 w79_0_1 w79_0_2 w79_0_3 w79_0_4 (w79_0_5 - (1 : Int64)) w79_0_6 else ((w79_0_0, w79_0_1, w79_0_2, w79_0_3, w79_0_4, w79_0_5, w79_0_6)))
def f_C_leaveOut_60 (z0 : VV) (p1 : Int64) (w60_0_0 : Int64) (w60_0_1 : Int64) (w60_0_2 : Int64) (w60_0_3 : Int64) (w60_0_4 : Int64) (w60_0_5 : Int64) (w60_0_6 : Bool) : VV := (if w60_0_4 = p1 then f_C_leaveOut_79 z0 p1 w60_0_0 w60_0_1 w60_0_2 w60_0_3 (w60_0_4 + (1 : Int64)) w60_0_5 w60_0_6 else f_C_leaveOut_79 z0 p1 w60_0_0 w60_0_1 w60_0_2 w60_0_3 w60_0_4 w60_0_5 w60_0_6)
def f_C_leaveOut_41 (z0 : VV) (p1 : Int64) (w41_0_0 : Int64) (w41_0_1 : Int64) (w41_0_2 : Int64) (w41_0_3 : Int64) (w41_0_4 : Int64) (w41_0_5 : Int64) (w41_0_6 : Bool) : VV := (if w41_0_3 = p1 then f_C_leaveOut_60 z0 p1 w41_0_0 w41_0_1 w41_0_2 (w41_0_3 - (1 : Int64)) w41_0_4 w41_0_5 w41_0_6 else f_C_leaveOut_60 z0 p1 w41_0_0 w41_0_1 w41_0_2 w41_0_3 w41_0_4 w41_0_5 w41_0_6)
def f_C_leaveOut_22 (z0 : VV) (p1 : Int64) : VV := (if z0.2.2.1 = p1 then f_C_leaveOut_41 z0 p1 z0.1 z0.2.1 (z0.2.2.1 + (1 : Int64)) z0.2.2.2.1 z0.2.2.2.2.1 z0.2.2.2.2.2.1 z0.2.2.2.2.2.2 else f_C_leaveOut_41 z0 p1 z0.1 z0.2.1 z0.2.2.1 z0.2.2.2.1 z0.2.2.2.2.1 z0.2.2.2.2.2.1 z0.2.2.2.2.2.2)
def f_C_leaveOut (z0 : VV) (p1 : Int64) : VV := (if (f_V_isSingle z0) = 0 then f_C_leaveOut_22 z0 p1 else (if z0.1 = p1 then ((z0.1, z0.2.1, z0.2.2.1, z0.2.2.2.1, z0.2.2.2.2.1, z0.2.2.2.2.2.1, true)) else f_C_leaveOut_22 z0 p1))
set_option maxRecDepth 100000 in
set_option maxHeartbeats 4000000 in
theorem c_C_leaveOut (l : Launch) (dC : Nat → ClassId) (dI : Nat → Nat → Nat) (h0 : Nat) (sz : Nat) (z0 : VV) (p1 : Int64) : Met l y_C_leaveOut w_C_leaveOut ({ frames := 1, cells := 0, slots := 0, locals := 20 } : Room) (va_Pc [.ref h0, .long (p1)] (mP (dC, dI) [(h0, vE z0)] sz)) (va_Qv (fun _ : Unit => True) (mB (dC, dI) (va_A [(h0, vE z0)] sz) [(h0, vE (f_C_leaveOut z0 p1))]) (va_A [(h0, vE z0)] sz)) 0 0 (va_A [(h0, vE z0)] sz) := by
  refine Met.ofW (cc := b_C_leaveOut) (maxL := 3) (ret := none) (by decide) rfl ?_
  intro p e s m args below meth c s₁ B hml hv
  obtain ⟨rfl, hsz, hP, hK, hD0⟩ := hv
  have hx := B.exec
  have hb := B.bytes
  have hr := B.returns
  have hts := atoms_spec (ws := w_C_leaveOut) B.pre
  have hG : ∀ w ∈ gG, w.before _ s = true := fun w h => hts w (List.mem_cons_of_mem _ h)
  have hown : s.vm.findClass R_C = some m.cls := findClass_of_methodNamed B.named
  have hlocks := B.notSynchronized
  subst hsz
  have hD := hD0.self (sz := s.heap.size)
  generalize hAe : va_A [(h0, vE z0)] s.heap.size = A at hD ⊢
  have hA : ∀ q : Nat, s.heap.size ≤ q → A q := fun q h => by rw [← hAe]; exact Or.inr h
  have hS : va_S A s.heap s.heap [] := va_S.rf
  have hP : va_P (dC, dI) classes [(h0, .inr (0, [.long (z0.1), .long (z0.2.1), .long (z0.2.2.1), .long (z0.2.2.2.1), .long (z0.2.2.2.2.1), .long (z0.2.2.2.2.2.1), .int (bI z0.2.2.2.2.2.2)]))] s.heap := hP
  have hD : va_D A [(h0, .inr (0, [.long (z0.1), .long (z0.2.1), .long (z0.2.2.1), .long (z0.2.2.2.1), .long (z0.2.2.2.2.1), .long (z0.2.2.2.2.2.1), .int (bI z0.2.2.2.2.2.2)]))] := hD
  have hl := lv_entry ([.ref h0, .long (p1)]) (n := 3) (Nat.le_of_ble_eq_true rfl)
  rw [lg_entry_eq]
  generalize (lg_sl ([.ref h0, .long (p1)]) ++ List.replicate (3 - (lg_sl ([.ref h0, .long (p1)])).length) Slot.unset).toArray = ls at hl ⊢
  have hl : lv_has ls 3 [(0, .ref h0), (1, .long (p1))] := hl
  have K98r : ∀ (w98r_0_0 : Int64) (w98r_0_1 : Int64) (w98r_0_2 : Int64) (w98r_0_3 : Int64) (w98r_0_4 : Int64) (w98r_0_5 : Int64) (w98r_0_6 : Bool) (hj : f_C_leaveOut z0 p1 = f_C_leaveOut_98r z0 p1 w98r_0_0 w98r_0_1 w98r_0_2 w98r_0_3 w98r_0_4 w98r_0_5 w98r_0_6) (H : Heap) (locs : List Loc) (hP : va_P (dC, dI) classes [(h0, .inr (0, [.long (w98r_0_0), .long (w98r_0_1), .long (w98r_0_2), .long (w98r_0_3), .long (w98r_0_4), .long (w98r_0_5), .int (bI w98r_0_6)]))] H) (hD : va_D A [(h0, .inr (0, [.long (w98r_0_0), .long (w98r_0_1), .long (w98r_0_2), .long (w98r_0_3), .long (w98r_0_4), .long (w98r_0_5), .int (bI w98r_0_6)]))]) (hS : va_S A s.heap H locs) (ls : Array Slot) (hl : lv_has ls 3 []), W p l e (headSpec w_C_leaveOut ({ frames := 1, cells := 0, slots := 0, locals := 20 } : Room)).room s m ([.ref h0, .long (p1)] : List Value).toArray below meth c H locs 0 0 (MQ below (va_Qv (fun _ : Unit => True) (mB (dC, dI) A [(h0, vE (f_C_leaveOut z0 p1))]) A) ([.ref h0, .long (p1)] : List Value).toArray s 0 0 A) (F0 m 98 ls []) := by
    intro w98r_0_0 w98r_0_1 w98r_0_2 w98r_0_3 w98r_0_4 w98r_0_5 w98r_0_6 hj H locs hP hD hS ls hl
    have fe : f_C_leaveOut z0 p1 = ((w98r_0_0, w98r_0_1, w98r_0_2, w98r_0_3, w98r_0_4, w98r_0_5, w98r_0_6)) := hj.trans rfl
    exact W.vret hx hb hr (fun t ht hW => ⟨⟨(), rfl, trivial, by rw [ht, fe]; (try simp only [vE_mk]); exact hP, by rw [fe]; (try simp only [vE_mk]); exact hD⟩, hS.F ht⟩) hS.2.2 d_C_leaveOut_98
  have K79 : ∀ (w79_0_0 : Int64) (w79_0_1 : Int64) (w79_0_2 : Int64) (w79_0_3 : Int64) (w79_0_4 : Int64) (w79_0_5 : Int64) (w79_0_6 : Bool) (hj : f_C_leaveOut z0 p1 = f_C_leaveOut_79 z0 p1 w79_0_0 w79_0_1 w79_0_2 w79_0_3 w79_0_4 w79_0_5 w79_0_6) (H : Heap) (locs : List Loc) (hP : va_P (dC, dI) classes [(h0, .inr (0, [.long (w79_0_0), .long (w79_0_1), .long (w79_0_2), .long (w79_0_3), .long (w79_0_4), .long (w79_0_5), .int (bI w79_0_6)]))] H) (hD : va_D A [(h0, .inr (0, [.long (w79_0_0), .long (w79_0_1), .long (w79_0_2), .long (w79_0_3), .long (w79_0_4), .long (w79_0_5), .int (bI w79_0_6)]))]) (hS : va_S A s.heap H locs) (ls : Array Slot) (hl : lv_has ls 3 [(0, .ref h0), (1, .long (p1))]), W p l e (headSpec w_C_leaveOut ({ frames := 1, cells := 0, slots := 0, locals := 20 } : Room)).room s m ([.ref h0, .long (p1)] : List Value).toArray below meth c H locs 0 0 (MQ below (va_Qv (fun _ : Unit => True) (mB (dC, dI) A [(h0, vE (f_C_leaveOut z0 p1))]) A) ([.ref h0, .long (p1)] : List Value).toArray s 0 0 A) (F0 m 79 ls []) := by
    intro w79_0_0 w79_0_1 w79_0_2 w79_0_3 w79_0_4 w79_0_5 w79_0_6 hj H locs hP hD hS ls hl
    refine lv_aload_n hx hb d_C_leaveOut_79 rfl (lv_at hl 0 rfl) ?_
    refine va_get (D := (dC, dI)) (ci := 0) (v := .long (w79_0_5)) (C := R_V) (T := F_V) (N := 7) hx hb hts (fun w h => List.mem_cons_of_mem _ (uw_V w h)) hown hK hP 0 rfl rfl 5 (by decide) (hG (.fieldLink R_C 86 "ValueSieve$Value" "greatest" "J") gw39) (fun _ h9 => h9) rfl d_C_leaveOut_80 ?_
    refine lv_lload_n hx hb d_C_leaveOut_83 rfl (lv_at hl 1 rfl) ?_
    refine wl_ne (tgt := 98) hx hb d_C_leaveOut_84 d_C_leaveOut_85 (by decide) (fun e1_98 => ?_) (fun e1_98 => ?_)
    · have fe : f_C_leaveOut z0 p1 = ((w79_0_0, w79_0_1, w79_0_2, w79_0_3, w79_0_4, w79_0_5, w79_0_6)) := hj.trans (by unfold f_C_leaveOut_79; first | with_reducible exact if_neg e1_98 | exact if_neg e1_98)
      exact W.vret hx hb hr (fun t ht hW => ⟨⟨(), rfl, trivial, by rw [ht, fe]; (try simp only [vE_mk]); exact hP, by rw [fe]; (try simp only [vE_mk]); exact hD⟩, hS.F ht⟩) hS.2.2 d_C_leaveOut_98
    · refine lv_aload_n hx hb d_C_leaveOut_88 rfl (lv_at hl 0 rfl) ?_
      refine lv_dup hx hb d_C_leaveOut_89 rfl ?_
      refine va_get (D := (dC, dI)) (ci := 0) (v := .long (w79_0_5)) (C := R_V) (T := F_V) (N := 7) hx hb hts (fun w h => List.mem_cons_of_mem _ (uw_V w h)) hown hK hP 0 rfl rfl 5 (by decide) (hG (.fieldLink R_C 86 "ValueSieve$Value" "greatest" "J") gw39) (fun _ h9 => h9) rfl d_C_leaveOut_90 ?_
      refine lv_lconst (v := 1) hx hb d_C_leaveOut_93 (by decide) ?_
      refine lv_lsub hx hb d_C_leaveOut_94 ?_
      refine va_put (D := (dC, dI)) (ci := 0) (v := .long (w79_0_5 - (1 : Int64))) (ty := .long) (C := R_V) (T := F_V) (N := 7) hx hb hts (fun w h => List.mem_cons_of_mem _ (uw_V w h)) t_V t_V_ok n_V hown hK hP hD hS 0 rfl rfl 5 (by decide) (hG (.fieldLink R_C 86 "ValueSieve$Value" "greatest" "J") gw39) (fun _ h9 => h9) rfl (by decide +kernel) rfl rfl (Nat.le_of_ble_eq_true rfl) d_C_leaveOut_95 (fun H locs hP hD hS => ?_)
      have hP : va_P (dC, dI) classes [(h0, .inr (0, [.long (w79_0_0), .long (w79_0_1), .long (w79_0_2), .long (w79_0_3), .long (w79_0_4), .long (w79_0_5 - (1 : Int64)), .int (bI w79_0_6)]))] H := hP
      have hD : va_D A [(h0, .inr (0, [.long (w79_0_0), .long (w79_0_1), .long (w79_0_2), .long (w79_0_3), .long (w79_0_4), .long (w79_0_5 - (1 : Int64)), .int (bI w79_0_6)]))] := hD
      refine K98r w79_0_0 w79_0_1 w79_0_2 w79_0_3 w79_0_4 (w79_0_5 - (1 : Int64)) w79_0_6 (hj.trans (by unfold f_C_leaveOut_79; first | with_reducible exact if_pos e1_98 | exact if_pos e1_98)) H locs ?_ ?_ hS ls (lv_sub hl [] rfl)
      · with_reducible exact hP
      · with_reducible exact hD
  have K60 : ∀ (w60_0_0 : Int64) (w60_0_1 : Int64) (w60_0_2 : Int64) (w60_0_3 : Int64) (w60_0_4 : Int64) (w60_0_5 : Int64) (w60_0_6 : Bool) (hj : f_C_leaveOut z0 p1 = f_C_leaveOut_60 z0 p1 w60_0_0 w60_0_1 w60_0_2 w60_0_3 w60_0_4 w60_0_5 w60_0_6) (H : Heap) (locs : List Loc) (hP : va_P (dC, dI) classes [(h0, .inr (0, [.long (w60_0_0), .long (w60_0_1), .long (w60_0_2), .long (w60_0_3), .long (w60_0_4), .long (w60_0_5), .int (bI w60_0_6)]))] H) (hD : va_D A [(h0, .inr (0, [.long (w60_0_0), .long (w60_0_1), .long (w60_0_2), .long (w60_0_3), .long (w60_0_4), .long (w60_0_5), .int (bI w60_0_6)]))]) (hS : va_S A s.heap H locs) (ls : Array Slot) (hl : lv_has ls 3 [(0, .ref h0), (1, .long (p1))]), W p l e (headSpec w_C_leaveOut ({ frames := 1, cells := 0, slots := 0, locals := 20 } : Room)).room s m ([.ref h0, .long (p1)] : List Value).toArray below meth c H locs 0 0 (MQ below (va_Qv (fun _ : Unit => True) (mB (dC, dI) A [(h0, vE (f_C_leaveOut z0 p1))]) A) ([.ref h0, .long (p1)] : List Value).toArray s 0 0 A) (F0 m 60 ls []) := by
    intro w60_0_0 w60_0_1 w60_0_2 w60_0_3 w60_0_4 w60_0_5 w60_0_6 hj H locs hP hD hS ls hl
    refine lv_aload_n hx hb d_C_leaveOut_60 rfl (lv_at hl 0 rfl) ?_
    refine va_get (D := (dC, dI)) (ci := 0) (v := .long (w60_0_4)) (C := R_V) (T := F_V) (N := 7) hx hb hts (fun w h => List.mem_cons_of_mem _ (uw_V w h)) hown hK hP 0 rfl rfl 4 (by decide) (hG (.fieldLink R_C 78 "ValueSieve$Value" "least" "J") gw35) (fun _ h9 => h9) rfl d_C_leaveOut_61 ?_
    refine lv_lload_n hx hb d_C_leaveOut_64 rfl (lv_at hl 1 rfl) ?_
    refine wl_ne (tgt := 79) hx hb d_C_leaveOut_65 d_C_leaveOut_66 (by decide) (fun e1_79 => ?_) (fun e1_79 => ?_)
    · refine K79 w60_0_0 w60_0_1 w60_0_2 w60_0_3 w60_0_4 w60_0_5 w60_0_6 (hj.trans (by unfold f_C_leaveOut_60; first | with_reducible exact if_neg e1_79 | exact if_neg e1_79)) H locs ?_ ?_ hS ls (lv_sub hl [0, 1] rfl)
      · with_reducible exact hP
      · with_reducible exact hD
    · refine lv_aload_n hx hb d_C_leaveOut_69 rfl (lv_at hl 0 rfl) ?_
      refine lv_dup hx hb d_C_leaveOut_70 rfl ?_
      refine va_get (D := (dC, dI)) (ci := 0) (v := .long (w60_0_4)) (C := R_V) (T := F_V) (N := 7) hx hb hts (fun w h => List.mem_cons_of_mem _ (uw_V w h)) hown hK hP 0 rfl rfl 4 (by decide) (hG (.fieldLink R_C 78 "ValueSieve$Value" "least" "J") gw35) (fun _ h9 => h9) rfl d_C_leaveOut_71 ?_
      refine lv_lconst (v := 1) hx hb d_C_leaveOut_74 (by decide) ?_
      refine lv_ladd hx hb d_C_leaveOut_75 ?_
      refine va_put (D := (dC, dI)) (ci := 0) (v := .long (w60_0_4 + (1 : Int64))) (ty := .long) (C := R_V) (T := F_V) (N := 7) hx hb hts (fun w h => List.mem_cons_of_mem _ (uw_V w h)) t_V t_V_ok n_V hown hK hP hD hS 0 rfl rfl 4 (by decide) (hG (.fieldLink R_C 78 "ValueSieve$Value" "least" "J") gw35) (fun _ h9 => h9) rfl (by decide +kernel) rfl rfl (Nat.le_of_ble_eq_true rfl) d_C_leaveOut_76 (fun H locs hP hD hS => ?_)
      have hP : va_P (dC, dI) classes [(h0, .inr (0, [.long (w60_0_0), .long (w60_0_1), .long (w60_0_2), .long (w60_0_3), .long (w60_0_4 + (1 : Int64)), .long (w60_0_5), .int (bI w60_0_6)]))] H := hP
      have hD : va_D A [(h0, .inr (0, [.long (w60_0_0), .long (w60_0_1), .long (w60_0_2), .long (w60_0_3), .long (w60_0_4 + (1 : Int64)), .long (w60_0_5), .int (bI w60_0_6)]))] := hD
      refine K79 w60_0_0 w60_0_1 w60_0_2 w60_0_3 (w60_0_4 + (1 : Int64)) w60_0_5 w60_0_6 (hj.trans (by unfold f_C_leaveOut_60; first | with_reducible exact if_pos e1_79 | exact if_pos e1_79)) H locs ?_ ?_ hS ls (lv_sub hl [0, 1] rfl)
      · with_reducible exact hP
      · with_reducible exact hD
  have K41 : ∀ (w41_0_0 : Int64) (w41_0_1 : Int64) (w41_0_2 : Int64) (w41_0_3 : Int64) (w41_0_4 : Int64) (w41_0_5 : Int64) (w41_0_6 : Bool) (hj : f_C_leaveOut z0 p1 = f_C_leaveOut_41 z0 p1 w41_0_0 w41_0_1 w41_0_2 w41_0_3 w41_0_4 w41_0_5 w41_0_6) (H : Heap) (locs : List Loc) (hP : va_P (dC, dI) classes [(h0, .inr (0, [.long (w41_0_0), .long (w41_0_1), .long (w41_0_2), .long (w41_0_3), .long (w41_0_4), .long (w41_0_5), .int (bI w41_0_6)]))] H) (hD : va_D A [(h0, .inr (0, [.long (w41_0_0), .long (w41_0_1), .long (w41_0_2), .long (w41_0_3), .long (w41_0_4), .long (w41_0_5), .int (bI w41_0_6)]))]) (hS : va_S A s.heap H locs) (ls : Array Slot) (hl : lv_has ls 3 [(0, .ref h0), (1, .long (p1))]), W p l e (headSpec w_C_leaveOut ({ frames := 1, cells := 0, slots := 0, locals := 20 } : Room)).room s m ([.ref h0, .long (p1)] : List Value).toArray below meth c H locs 0 0 (MQ below (va_Qv (fun _ : Unit => True) (mB (dC, dI) A [(h0, vE (f_C_leaveOut z0 p1))]) A) ([.ref h0, .long (p1)] : List Value).toArray s 0 0 A) (F0 m 41 ls []) := by
    intro w41_0_0 w41_0_1 w41_0_2 w41_0_3 w41_0_4 w41_0_5 w41_0_6 hj H locs hP hD hS ls hl
    refine lv_aload_n hx hb d_C_leaveOut_41 rfl (lv_at hl 0 rfl) ?_
    refine va_get (D := (dC, dI)) (ci := 0) (v := .long (w41_0_3)) (C := R_V) (T := F_V) (N := 7) hx hb hts (fun w h => List.mem_cons_of_mem _ (uw_V w h)) hown hK hP 0 rfl rfl 3 (by decide) (hG (.fieldLink R_C 69 "ValueSieve$Value" "high" "J") gw31) (fun _ h9 => h9) rfl d_C_leaveOut_42 ?_
    refine lv_lload_n hx hb d_C_leaveOut_45 rfl (lv_at hl 1 rfl) ?_
    refine wl_ne (tgt := 60) hx hb d_C_leaveOut_46 d_C_leaveOut_47 (by decide) (fun e1_60 => ?_) (fun e1_60 => ?_)
    · refine K60 w41_0_0 w41_0_1 w41_0_2 w41_0_3 w41_0_4 w41_0_5 w41_0_6 (hj.trans (by unfold f_C_leaveOut_41; first | with_reducible exact if_neg e1_60 | exact if_neg e1_60)) H locs ?_ ?_ hS ls (lv_sub hl [0, 1] rfl)
      · with_reducible exact hP
      · with_reducible exact hD
    · refine lv_aload_n hx hb d_C_leaveOut_50 rfl (lv_at hl 0 rfl) ?_
      refine lv_dup hx hb d_C_leaveOut_51 rfl ?_
      refine va_get (D := (dC, dI)) (ci := 0) (v := .long (w41_0_3)) (C := R_V) (T := F_V) (N := 7) hx hb hts (fun w h => List.mem_cons_of_mem _ (uw_V w h)) hown hK hP 0 rfl rfl 3 (by decide) (hG (.fieldLink R_C 69 "ValueSieve$Value" "high" "J") gw31) (fun _ h9 => h9) rfl d_C_leaveOut_52 ?_
      refine lv_lconst (v := 1) hx hb d_C_leaveOut_55 (by decide) ?_
      refine lv_lsub hx hb d_C_leaveOut_56 ?_
      refine va_put (D := (dC, dI)) (ci := 0) (v := .long (w41_0_3 - (1 : Int64))) (ty := .long) (C := R_V) (T := F_V) (N := 7) hx hb hts (fun w h => List.mem_cons_of_mem _ (uw_V w h)) t_V t_V_ok n_V hown hK hP hD hS 0 rfl rfl 3 (by decide) (hG (.fieldLink R_C 69 "ValueSieve$Value" "high" "J") gw31) (fun _ h9 => h9) rfl (by decide +kernel) rfl rfl (Nat.le_of_ble_eq_true rfl) d_C_leaveOut_57 (fun H locs hP hD hS => ?_)
      have hP : va_P (dC, dI) classes [(h0, .inr (0, [.long (w41_0_0), .long (w41_0_1), .long (w41_0_2), .long (w41_0_3 - (1 : Int64)), .long (w41_0_4), .long (w41_0_5), .int (bI w41_0_6)]))] H := hP
      have hD : va_D A [(h0, .inr (0, [.long (w41_0_0), .long (w41_0_1), .long (w41_0_2), .long (w41_0_3 - (1 : Int64)), .long (w41_0_4), .long (w41_0_5), .int (bI w41_0_6)]))] := hD
      refine K60 w41_0_0 w41_0_1 w41_0_2 (w41_0_3 - (1 : Int64)) w41_0_4 w41_0_5 w41_0_6 (hj.trans (by unfold f_C_leaveOut_41; first | with_reducible exact if_pos e1_60 | exact if_pos e1_60)) H locs ?_ ?_ hS ls (lv_sub hl [0, 1] rfl)
      · with_reducible exact hP
      · with_reducible exact hD
  have K22 : ∀ (hj : f_C_leaveOut z0 p1 = f_C_leaveOut_22 z0 p1) (H : Heap) (locs : List Loc) (hP : va_P (dC, dI) classes [(h0, .inr (0, [.long (z0.1), .long (z0.2.1), .long (z0.2.2.1), .long (z0.2.2.2.1), .long (z0.2.2.2.2.1), .long (z0.2.2.2.2.2.1), .int (bI z0.2.2.2.2.2.2)]))] H) (hD : va_D A [(h0, .inr (0, [.long (z0.1), .long (z0.2.1), .long (z0.2.2.1), .long (z0.2.2.2.1), .long (z0.2.2.2.2.1), .long (z0.2.2.2.2.2.1), .int (bI z0.2.2.2.2.2.2)]))]) (hS : va_S A s.heap H locs) (ls : Array Slot) (hl : lv_has ls 3 [(0, .ref h0), (1, .long (p1))]), W p l e (headSpec w_C_leaveOut ({ frames := 1, cells := 0, slots := 0, locals := 20 } : Room)).room s m ([.ref h0, .long (p1)] : List Value).toArray below meth c H locs 0 0 (MQ below (va_Qv (fun _ : Unit => True) (mB (dC, dI) A [(h0, vE (f_C_leaveOut z0 p1))]) A) ([.ref h0, .long (p1)] : List Value).toArray s 0 0 A) (F0 m 22 ls []) := by
    intro hj H locs hP hD hS ls hl
    refine lv_aload_n hx hb d_C_leaveOut_22 rfl (lv_at hl 0 rfl) ?_
    refine va_get (D := (dC, dI)) (ci := 0) (v := .long (z0.2.2.1)) (C := R_V) (T := F_V) (N := 7) hx hb hts (fun w h => List.mem_cons_of_mem _ (uw_V w h)) hown hK hP 0 rfl rfl 2 (by decide) (hG (.fieldLink R_C 62 "ValueSieve$Value" "low" "J") gw27) (fun _ h9 => h9) rfl d_C_leaveOut_23 ?_
    refine lv_lload_n hx hb d_C_leaveOut_26 rfl (lv_at hl 1 rfl) ?_
    refine wl_ne (tgt := 41) hx hb d_C_leaveOut_27 d_C_leaveOut_28 (by decide) (fun e1_41 => ?_) (fun e1_41 => ?_)
    · refine K41 z0.1 z0.2.1 z0.2.2.1 z0.2.2.2.1 z0.2.2.2.2.1 z0.2.2.2.2.2.1 z0.2.2.2.2.2.2 (hj.trans (by unfold f_C_leaveOut_22; first | with_reducible exact if_neg e1_41 | exact if_neg e1_41)) H locs ?_ ?_ hS ls (lv_sub hl [0, 1] rfl)
      · with_reducible exact hP
      · with_reducible exact hD
    · refine lv_aload_n hx hb d_C_leaveOut_31 rfl (lv_at hl 0 rfl) ?_
      refine lv_dup hx hb d_C_leaveOut_32 rfl ?_
      refine va_get (D := (dC, dI)) (ci := 0) (v := .long (z0.2.2.1)) (C := R_V) (T := F_V) (N := 7) hx hb hts (fun w h => List.mem_cons_of_mem _ (uw_V w h)) hown hK hP 0 rfl rfl 2 (by decide) (hG (.fieldLink R_C 62 "ValueSieve$Value" "low" "J") gw27) (fun _ h9 => h9) rfl d_C_leaveOut_33 ?_
      refine lv_lconst (v := 1) hx hb d_C_leaveOut_36 (by decide) ?_
      refine lv_ladd hx hb d_C_leaveOut_37 ?_
      refine va_put (D := (dC, dI)) (ci := 0) (v := .long (z0.2.2.1 + (1 : Int64))) (ty := .long) (C := R_V) (T := F_V) (N := 7) hx hb hts (fun w h => List.mem_cons_of_mem _ (uw_V w h)) t_V t_V_ok n_V hown hK hP hD hS 0 rfl rfl 2 (by decide) (hG (.fieldLink R_C 62 "ValueSieve$Value" "low" "J") gw27) (fun _ h9 => h9) rfl (by decide +kernel) rfl rfl (Nat.le_of_ble_eq_true rfl) d_C_leaveOut_38 (fun H locs hP hD hS => ?_)
      have hP : va_P (dC, dI) classes [(h0, .inr (0, [.long (z0.1), .long (z0.2.1), .long (z0.2.2.1 + (1 : Int64)), .long (z0.2.2.2.1), .long (z0.2.2.2.2.1), .long (z0.2.2.2.2.2.1), .int (bI z0.2.2.2.2.2.2)]))] H := hP
      have hD : va_D A [(h0, .inr (0, [.long (z0.1), .long (z0.2.1), .long (z0.2.2.1 + (1 : Int64)), .long (z0.2.2.2.1), .long (z0.2.2.2.2.1), .long (z0.2.2.2.2.2.1), .int (bI z0.2.2.2.2.2.2)]))] := hD
      refine K41 z0.1 z0.2.1 (z0.2.2.1 + (1 : Int64)) z0.2.2.2.1 z0.2.2.2.2.1 z0.2.2.2.2.2.1 z0.2.2.2.2.2.2 (hj.trans (by unfold f_C_leaveOut_22; first | with_reducible exact if_pos e1_41 | exact if_pos e1_41)) H locs ?_ ?_ hS ls (lv_sub hl [0, 1] rfl)
      · with_reducible exact hP
      · with_reducible exact hD
  refine lv_aload_n hx hb d_C_leaveOut_0 rfl (lv_at hl 0 rfl) ?_
  refine rc_i (W.runV (As := []) (rest := []) ⟨hx, hb, hml, hown, hts⟩ (c_V_isSingle l dC dI h0 z0) (cwV 0 hts (gV gw321 gw252 gw253 gw1 gw254) rfl rfl rfl (by decide +kernel) ⟨(Nat.le_of_ble_eq_true rfl), (Nat.le_of_ble_eq_true rfl)⟩) ⟨blr, va_recv hK hP (ci := 0) (q0 := 0) rfl rfl, fun U hU hW => ⟨rfl, by rw [hU]; exact hP.sub [0] rfl, va_K.moved hW.alike hK⟩⟩ rfl rfl hl.1 rfl (lv_room (Nat.le_of_ble_eq_true rfl)) d_C_leaveOut_1 ⟨Nat.zero_le _, Nat.zero_le _⟩) ?_
  refine lv_if_eq (tgt := 22) hx hb d_C_leaveOut_4 (by decide) (fun e1_22 => ?_) (fun e1_22 => ?_)
  · refine K22 (by unfold f_C_leaveOut; first | with_reducible exact if_pos e1_22 | exact if_pos e1_22) s.heap [] ?_ ?_ hS ls (lv_sub hl [0, 1] rfl)
    · with_reducible exact hP
    · with_reducible exact hD
  · refine lv_aload_n hx hb d_C_leaveOut_7 rfl (lv_at hl 0 rfl) ?_
    refine va_get (D := (dC, dI)) (ci := 0) (v := .long (z0.1)) (C := R_V) (T := F_V) (N := 7) hx hb hts (fun w h => List.mem_cons_of_mem _ (uw_V w h)) hown hK hP 0 rfl rfl 0 (by decide) (hG (.fieldLink R_C 45 "ValueSieve$Value" "bits" "J") gw20) (fun _ h9 => h9) rfl d_C_leaveOut_8 ?_
    refine lv_lload_n hx hb d_C_leaveOut_11 rfl (lv_at hl 1 rfl) ?_
    refine wl_ne (tgt := 22) hx hb d_C_leaveOut_12 d_C_leaveOut_13 (by decide) (fun e2_22 => ?_) (fun e2_22 => ?_)
    · refine K22 (by unfold f_C_leaveOut; first | with_reducible exact (if_neg e1_22).trans (if_neg e2_22) | exact (if_neg e1_22).trans (if_neg e2_22)) s.heap [] ?_ ?_ hS ls (lv_sub hl [0, 1] rfl)
      · with_reducible exact hP
      · with_reducible exact hD
    · refine lv_aload_n hx hb d_C_leaveOut_16 rfl (lv_at hl 0 rfl) ?_
      refine lv_iconst (v := 1) hx hb d_C_leaveOut_17 (by decide) ?_
      refine va_put (D := (dC, dI)) (ci := 0) (v := .int (bI true)) (ty := .boolean) (C := R_V) (T := F_V) (N := 7) hx hb hts (fun w h => List.mem_cons_of_mem _ (uw_V w h)) t_V t_V_ok n_V hown hK hP hD hS 0 rfl rfl 6 (by decide) (hG (.fieldLink R_C 54 "ValueSieve$Value" "nothing" "Z") gw42) (fun _ h9 => h9) rfl (by decide +kernel) (bI_n true) (bI_f true) (Nat.le_of_ble_eq_true rfl) d_C_leaveOut_18 (fun H locs hP hD hS => ?_)
      have hP : va_P (dC, dI) classes [(h0, .inr (0, [.long (z0.1), .long (z0.2.1), .long (z0.2.2.1), .long (z0.2.2.2.1), .long (z0.2.2.2.2.1), .long (z0.2.2.2.2.2.1), .int (bI true)]))] H := hP
      have hD : va_D A [(h0, .inr (0, [.long (z0.1), .long (z0.2.1), .long (z0.2.2.1), .long (z0.2.2.2.1), .long (z0.2.2.2.2.1), .long (z0.2.2.2.2.2.1), .int (bI true)]))] := hD
      have fe : f_C_leaveOut z0 p1 = ((z0.1, z0.2.1, z0.2.2.1, z0.2.2.2.1, z0.2.2.2.2.1, z0.2.2.2.2.2.1, true)) := by unfold f_C_leaveOut; first | with_reducible exact (if_neg e1_22).trans (if_pos e2_22) | exact (if_neg e1_22).trans (if_pos e2_22)
      exact W.vret hx hb hr (fun t ht hW => ⟨⟨(), rfl, trivial, by rw [ht, fe]; (try simp only [vE_mk]); exact hP, by rw [fe]; (try simp only [vE_mk]); exact hD⟩, hS.F ht⟩) hS.2.2 d_C_leaveOut_21
-- ValueSieve$Comparisons.part
theorem d_C_part_0 : decode b_C_part 0 = .ok (.aload_n 0, 1) := by decide +kernel
theorem d_C_part_1 : decode b_C_part 1 = .ok (.invokevirtual 99, 3) := by decide +kernel
theorem d_C_part_4 : decode b_C_part 4 = .ok (.istore_n 2, 1) := by decide +kernel
theorem d_C_part_5 : decode b_C_part 5 = .ok (.aload_n 0, 1) := by decide +kernel
theorem d_C_part_6 : decode b_C_part 6 = .ok (.getfield 45, 3) := by decide +kernel
theorem d_C_part_9 : decode b_C_part 9 = .ok (.lstore_n 3, 1) := by decide +kernel
theorem d_C_part_10 : decode b_C_part 10 = .ok (.aload_n 1, 1) := by decide +kernel
theorem d_C_part_11 : decode b_C_part 11 = .ok (.invokevirtual 99, 3) := by decide +kernel
theorem d_C_part_14 : decode b_C_part 14 = .ok (.ifCond .eq 11, 3) := by decide +kernel
theorem d_C_part_17 : decode b_C_part 17 = .ok (.aload_n 0, 1) := by decide +kernel
theorem d_C_part_18 : decode b_C_part 18 = .ok (.aload_n 1, 1) := by decide +kernel
theorem d_C_part_19 : decode b_C_part 19 = .ok (.getfield 45, 3) := by decide +kernel
theorem d_C_part_22 : decode b_C_part 22 = .ok (.invokestatic 103, 3) := by decide +kernel
theorem d_C_part_25 : decode b_C_part 25 = .ok (.iload_n 2, 1) := by decide +kernel
theorem d_C_part_26 : decode b_C_part 26 = .ok (.ifCond .eq 8, 3) := by decide +kernel
theorem d_C_part_29 : decode b_C_part 29 = .ok (.aload_n 1, 1) := by decide +kernel
theorem d_C_part_30 : decode b_C_part 30 = .ok (.lload_n 3, 1) := by decide +kernel
theorem d_C_part_31 : decode b_C_part 31 = .ok (.invokestatic 103, 3) := by decide +kernel
theorem d_C_part_34 : decode b_C_part 34 = .ok (.return_, 1) := by decide +kernel
def f_C_part_31g (z0 : VV) (z1 : VV) (w31g_0_0 : Int64) (w31g_0_1 : Int64) (w31g_0_2 : Int64) (w31g_0_3 : Int64) (w31g_0_4 : Int64) (w31g_0_5 : Int64) (w31g_0_6 : Bool) (g31 : VV) : VV × VV := ((w31g_0_0, w31g_0_1, w31g_0_2, w31g_0_3, w31g_0_4, w31g_0_5, w31g_0_6), g31)
def f_C_part_25 (z0 : VV) (z1 : VV) (v4 : Int32) (w25_0_0 : Int64) (w25_0_1 : Int64) (w25_0_2 : Int64) (w25_0_3 : Int64) (w25_0_4 : Int64) (w25_0_5 : Int64) (w25_0_6 : Bool) : VV × VV := (if v4 = 0 then ((w25_0_0, w25_0_1, w25_0_2, w25_0_3, w25_0_4, w25_0_5, w25_0_6), z1) else f_C_part_31g z0 z1 w25_0_0 w25_0_1 w25_0_2 w25_0_3 w25_0_4 w25_0_5 w25_0_6 (f_C_leaveOut z1 z0.1))
def f_C_part_22g (z0 : VV) (z1 : VV) (v4 : Int32) (g22 : VV) : VV × VV := f_C_part_25 z0 z1 v4 g22.1 g22.2.1 g22.2.2.1 g22.2.2.2.1 g22.2.2.2.2.1 g22.2.2.2.2.2.1 g22.2.2.2.2.2.2
def f_C_part_4v (z0 : VV) (z1 : VV) (v4 : Int32) : VV × VV := (if (f_V_isSingle z1) = 0 then f_C_part_25 z0 z1 v4 z0.1 z0.2.1 z0.2.2.1 z0.2.2.2.1 z0.2.2.2.2.1 z0.2.2.2.2.2.1 z0.2.2.2.2.2.2 else f_C_part_22g z0 z1 v4 (f_C_leaveOut z0 z1.1))
def f_C_part (z0 : VV) (z1 : VV) : VV × VV := f_C_part_4v z0 z1 (f_V_isSingle z0)
set_option maxRecDepth 100000 in
set_option maxHeartbeats 4000000 in
theorem c_C_part (l : Launch) (dC : Nat → ClassId) (dI : Nat → Nat → Nat) (h0 : Nat) (h1 : Nat) (sz : Nat) (z0 : VV) (z1 : VV) : Met l y_C_part w_C_part ({ frames := 2, cells := 0, slots := 0, locals := 42 } : Room) (va_Pc [.ref h0, .ref h1] (mP (dC, dI) [(h0, vE z0), (h1, vE z1)] sz)) (va_Qv (fun _ : Unit => True) (mB (dC, dI) (va_A [(h0, vE z0), (h1, vE z1)] sz) [(h0, vE (f_C_part z0 z1).1), (h1, vE (f_C_part z0 z1).2)]) (va_A [(h0, vE z0), (h1, vE z1)] sz)) 0 0 (va_A [(h0, vE z0), (h1, vE z1)] sz) := by
  refine Met.ofW (cc := b_C_part) (maxL := 5) (ret := none) (by decide) rfl ?_
  intro p e s m args below meth c s₁ B hml hv
  obtain ⟨rfl, hsz, hP, hK, hD0⟩ := hv
  have hx := B.exec
  have hb := B.bytes
  have hr := B.returns
  have hts := atoms_spec (ws := w_C_part) B.pre
  have hG : ∀ w ∈ gG, w.before _ s = true := fun w h => hts w (List.mem_cons_of_mem _ h)
  have hown : s.vm.findClass R_C = some m.cls := findClass_of_methodNamed B.named
  have hlocks := B.notSynchronized
  subst hsz
  have hD := hD0.self (sz := s.heap.size)
  generalize hAe : va_A [(h0, vE z0), (h1, vE z1)] s.heap.size = A at hD ⊢
  have hA : ∀ q : Nat, s.heap.size ≤ q → A q := fun q h => by rw [← hAe]; exact Or.inr h
  have hS : va_S A s.heap s.heap [] := va_S.rf
  have hP : va_P (dC, dI) classes [(h0, .inr (0, [.long (z0.1), .long (z0.2.1), .long (z0.2.2.1), .long (z0.2.2.2.1), .long (z0.2.2.2.2.1), .long (z0.2.2.2.2.2.1), .int (bI z0.2.2.2.2.2.2)])), (h1, .inr (0, [.long (z1.1), .long (z1.2.1), .long (z1.2.2.1), .long (z1.2.2.2.1), .long (z1.2.2.2.2.1), .long (z1.2.2.2.2.2.1), .int (bI z1.2.2.2.2.2.2)]))] s.heap := hP
  have hD : va_D A [(h0, .inr (0, [.long (z0.1), .long (z0.2.1), .long (z0.2.2.1), .long (z0.2.2.2.1), .long (z0.2.2.2.2.1), .long (z0.2.2.2.2.2.1), .int (bI z0.2.2.2.2.2.2)])), (h1, .inr (0, [.long (z1.1), .long (z1.2.1), .long (z1.2.2.1), .long (z1.2.2.2.1), .long (z1.2.2.2.2.1), .long (z1.2.2.2.2.2.1), .int (bI z1.2.2.2.2.2.2)]))] := hD
  have hl := lv_entry ([.ref h0, .ref h1]) (n := 5) (Nat.le_of_ble_eq_true rfl)
  rw [lg_entry_eq]
  generalize (lg_sl ([.ref h0, .ref h1]) ++ List.replicate (5 - (lg_sl ([.ref h0, .ref h1])).length) Slot.unset).toArray = ls at hl ⊢
  have hl : lv_has ls 5 [(0, .ref h0), (1, .ref h1)] := hl
  have K31g : ∀ (w31g_0_0 : Int64) (w31g_0_1 : Int64) (w31g_0_2 : Int64) (w31g_0_3 : Int64) (w31g_0_4 : Int64) (w31g_0_5 : Int64) (w31g_0_6 : Bool) (g31 : VV) (hj : f_C_part z0 z1 = f_C_part_31g z0 z1 w31g_0_0 w31g_0_1 w31g_0_2 w31g_0_3 w31g_0_4 w31g_0_5 w31g_0_6 g31) (H : Heap) (locs : List Loc) (hP : va_P (dC, dI) classes [(h0, .inr (0, [.long (w31g_0_0), .long (w31g_0_1), .long (w31g_0_2), .long (w31g_0_3), .long (w31g_0_4), .long (w31g_0_5), .int (bI w31g_0_6)])), (h1, .inr (0, [.long (g31.1), .long (g31.2.1), .long (g31.2.2.1), .long (g31.2.2.2.1), .long (g31.2.2.2.2.1), .long (g31.2.2.2.2.2.1), .int (bI g31.2.2.2.2.2.2)]))] H) (hD : va_D A [(h0, .inr (0, [.long (w31g_0_0), .long (w31g_0_1), .long (w31g_0_2), .long (w31g_0_3), .long (w31g_0_4), .long (w31g_0_5), .int (bI w31g_0_6)])), (h1, .inr (0, [.long (g31.1), .long (g31.2.1), .long (g31.2.2.1), .long (g31.2.2.2.1), .long (g31.2.2.2.2.1), .long (g31.2.2.2.2.2.1), .int (bI g31.2.2.2.2.2.2)]))]) (hS : va_S A s.heap H locs) (ls : Array Slot) (hl : lv_has ls 5 []), W p l e (headSpec w_C_part ({ frames := 2, cells := 0, slots := 0, locals := 42 } : Room)).room s m ([.ref h0, .ref h1] : List Value).toArray below meth c H locs 0 0 (MQ below (va_Qv (fun _ : Unit => True) (mB (dC, dI) A [(h0, vE (f_C_part z0 z1).1), (h1, vE (f_C_part z0 z1).2)]) A) ([.ref h0, .ref h1] : List Value).toArray s 0 0 A) (F0 m 34 ls []) := by
    intro w31g_0_0 w31g_0_1 w31g_0_2 w31g_0_3 w31g_0_4 w31g_0_5 w31g_0_6 g31 hj H locs hP hD hS ls hl
    have fe : f_C_part z0 z1 = ((w31g_0_0, w31g_0_1, w31g_0_2, w31g_0_3, w31g_0_4, w31g_0_5, w31g_0_6), g31) := hj.trans rfl
    exact W.vret hx hb hr (fun t ht hW => ⟨⟨(), rfl, trivial, by rw [ht, fe]; (try simp only [vE_mk]); exact hP, by rw [fe]; (try simp only [vE_mk]); exact hD⟩, hS.F ht⟩) hS.2.2 d_C_part_34
  have K25 : ∀ (v4 : Int32) (w25_0_0 : Int64) (w25_0_1 : Int64) (w25_0_2 : Int64) (w25_0_3 : Int64) (w25_0_4 : Int64) (w25_0_5 : Int64) (w25_0_6 : Bool) (hj : f_C_part z0 z1 = f_C_part_25 z0 z1 v4 w25_0_0 w25_0_1 w25_0_2 w25_0_3 w25_0_4 w25_0_5 w25_0_6) (H : Heap) (locs : List Loc) (hP : va_P (dC, dI) classes [(h0, .inr (0, [.long (w25_0_0), .long (w25_0_1), .long (w25_0_2), .long (w25_0_3), .long (w25_0_4), .long (w25_0_5), .int (bI w25_0_6)])), (h1, .inr (0, [.long (z1.1), .long (z1.2.1), .long (z1.2.2.1), .long (z1.2.2.2.1), .long (z1.2.2.2.2.1), .long (z1.2.2.2.2.2.1), .int (bI z1.2.2.2.2.2.2)]))] H) (hD : va_D A [(h0, .inr (0, [.long (w25_0_0), .long (w25_0_1), .long (w25_0_2), .long (w25_0_3), .long (w25_0_4), .long (w25_0_5), .int (bI w25_0_6)])), (h1, .inr (0, [.long (z1.1), .long (z1.2.1), .long (z1.2.2.1), .long (z1.2.2.2.1), .long (z1.2.2.2.2.1), .long (z1.2.2.2.2.2.1), .int (bI z1.2.2.2.2.2.2)]))]) (hS : va_S A s.heap H locs) (ls : Array Slot) (hl : lv_has ls 5 [(3, .long (z0.1)), (2, .int (v4)), (1, .ref h1)]), W p l e (headSpec w_C_part ({ frames := 2, cells := 0, slots := 0, locals := 42 } : Room)).room s m ([.ref h0, .ref h1] : List Value).toArray below meth c H locs 0 0 (MQ below (va_Qv (fun _ : Unit => True) (mB (dC, dI) A [(h0, vE (f_C_part z0 z1).1), (h1, vE (f_C_part z0 z1).2)]) A) ([.ref h0, .ref h1] : List Value).toArray s 0 0 A) (F0 m 25 ls []) := by
    intro v4 w25_0_0 w25_0_1 w25_0_2 w25_0_3 w25_0_4 w25_0_5 w25_0_6 hj H locs hP hD hS ls hl
    refine lv_iload_n hx hb d_C_part_25 rfl (lv_at hl 1 rfl) ?_
    refine lv_if_eq (tgt := 34) hx hb d_C_part_26 (by decide) (fun e1_34 => ?_) (fun e1_34 => ?_)
    · have fe : f_C_part z0 z1 = ((w25_0_0, w25_0_1, w25_0_2, w25_0_3, w25_0_4, w25_0_5, w25_0_6), z1) := hj.trans (by unfold f_C_part_25; first | with_reducible exact if_pos e1_34 | exact if_pos e1_34)
      exact W.vret hx hb hr (fun t ht hW => ⟨⟨(), rfl, trivial, by rw [ht, fe]; (try simp only [vE_mk]); exact hP, by rw [fe]; (try simp only [vE_mk]); exact hD⟩, hS.F ht⟩) hS.2.2 d_C_part_34
    · refine lv_aload_n hx hb d_C_part_29 rfl (lv_at hl 2 rfl) ?_
      refine lv_lload_n hx hb d_C_part_30 rfl (lv_at hl 0 rfl) ?_
      refine mg_v (F := f_C_leaveOut z1 z0.1) (wc := [(h1, vE z1)]) (w1 := fun g31 => [(h1, vE g31)]) (wr := [(h0, .inr (0, [.long (w25_0_0), .long (w25_0_1), .long (w25_0_2), .long (w25_0_3), .long (w25_0_4), .long (w25_0_5), .int (bI w25_0_6)]))]) (ws' := fun g31 => [(h0, .inr (0, [.long (w25_0_0), .long (w25_0_1), .long (w25_0_2), .long (w25_0_3), .long (w25_0_4), .long (w25_0_5), .int (bI w25_0_6)])), (h1, .inr (0, [.long (g31.1), .long (g31.2.1), .long (g31.2.2.1), .long (g31.2.2.2.1), .long (g31.2.2.2.2.1), .long (g31.2.2.2.2.2.1), .int (bI g31.2.2.2.2.2.2)]))]) (va_runS (As := [.ref h1, .long (z0.1)]) (rest := []) ⟨hx, hb, hml, hown, hts⟩ (c_C_leaveOut l dC dI h1 H.size z1 z0.1) (va_cwS 2 hts (gS gw322 gw323 gw6 gw324) rfl rfl rfl (by decide +kernel) ⟨(Nat.le_of_ble_eq_true rfl), (Nat.le_of_ble_eq_true rfl)⟩) ⟨blm, fun U hU hW => ⟨rfl, by rw [hU], by rw [hU]; exact hP.sub [1] rfl, va_K.moved hW.alike hK, (hD.sub [1] (by decide) rfl).weaken (fun _ _ _ _ => trivial)⟩⟩ rfl rfl hl.1 rfl (lv_room (Nat.le_of_ble_eq_true rfl)) d_C_part_31 ⟨Nat.zero_le _, Nat.zero_le _⟩) hP hD hS hA [1] [0] [0, 1] rfl rfl (by decide) (by decide) (fun _ => rfl) (by decide) (fun g31 eg31 H locs hP hD hS => ?_)
      refine K31g w25_0_0 w25_0_1 w25_0_2 w25_0_3 w25_0_4 w25_0_5 w25_0_6 g31 (Eq.trans (hj.trans (by unfold f_C_part_25; first | with_reducible exact if_neg e1_34 | exact if_neg e1_34)) (congrArg (fun g31 => f_C_part_31g z0 z1 w25_0_0 w25_0_1 w25_0_2 w25_0_3 w25_0_4 w25_0_5 w25_0_6 g31) eg31)) H locs ?_ ?_ hS ls (lv_sub hl [] rfl)
      · with_reducible exact hP
      · with_reducible exact hD
  have K22g : ∀ (v4 : Int32) (g22 : VV) (hj : f_C_part z0 z1 = f_C_part_22g z0 z1 v4 g22) (H : Heap) (locs : List Loc) (hP : va_P (dC, dI) classes [(h0, .inr (0, [.long (g22.1), .long (g22.2.1), .long (g22.2.2.1), .long (g22.2.2.2.1), .long (g22.2.2.2.2.1), .long (g22.2.2.2.2.2.1), .int (bI g22.2.2.2.2.2.2)])), (h1, .inr (0, [.long (z1.1), .long (z1.2.1), .long (z1.2.2.1), .long (z1.2.2.2.1), .long (z1.2.2.2.2.1), .long (z1.2.2.2.2.2.1), .int (bI z1.2.2.2.2.2.2)]))] H) (hD : va_D A [(h0, .inr (0, [.long (g22.1), .long (g22.2.1), .long (g22.2.2.1), .long (g22.2.2.2.1), .long (g22.2.2.2.2.1), .long (g22.2.2.2.2.2.1), .int (bI g22.2.2.2.2.2.2)])), (h1, .inr (0, [.long (z1.1), .long (z1.2.1), .long (z1.2.2.1), .long (z1.2.2.2.1), .long (z1.2.2.2.2.1), .long (z1.2.2.2.2.2.1), .int (bI z1.2.2.2.2.2.2)]))]) (hS : va_S A s.heap H locs) (ls : Array Slot) (hl : lv_has ls 5 [(3, .long (z0.1)), (2, .int (v4)), (1, .ref h1)]), W p l e (headSpec w_C_part ({ frames := 2, cells := 0, slots := 0, locals := 42 } : Room)).room s m ([.ref h0, .ref h1] : List Value).toArray below meth c H locs 0 0 (MQ below (va_Qv (fun _ : Unit => True) (mB (dC, dI) A [(h0, vE (f_C_part z0 z1).1), (h1, vE (f_C_part z0 z1).2)]) A) ([.ref h0, .ref h1] : List Value).toArray s 0 0 A) (F0 m 25 ls []) := by
    intro v4 g22 hj H locs hP hD hS ls hl
    refine K25 v4 g22.1 g22.2.1 g22.2.2.1 g22.2.2.2.1 g22.2.2.2.2.1 g22.2.2.2.2.2.1 g22.2.2.2.2.2.2 (hj.trans rfl) H locs ?_ ?_ hS ls (lv_sub hl [0, 1, 2] rfl)
    · with_reducible exact hP
    · with_reducible exact hD
  have K4v : ∀ (v4 : Int32) (hj : f_C_part z0 z1 = f_C_part_4v z0 z1 v4) (H : Heap) (locs : List Loc) (hP : va_P (dC, dI) classes [(h0, .inr (0, [.long (z0.1), .long (z0.2.1), .long (z0.2.2.1), .long (z0.2.2.2.1), .long (z0.2.2.2.2.1), .long (z0.2.2.2.2.2.1), .int (bI z0.2.2.2.2.2.2)])), (h1, .inr (0, [.long (z1.1), .long (z1.2.1), .long (z1.2.2.1), .long (z1.2.2.2.1), .long (z1.2.2.2.2.1), .long (z1.2.2.2.2.2.1), .int (bI z1.2.2.2.2.2.2)]))] H) (hD : va_D A [(h0, .inr (0, [.long (z0.1), .long (z0.2.1), .long (z0.2.2.1), .long (z0.2.2.2.1), .long (z0.2.2.2.2.1), .long (z0.2.2.2.2.2.1), .int (bI z0.2.2.2.2.2.2)])), (h1, .inr (0, [.long (z1.1), .long (z1.2.1), .long (z1.2.2.1), .long (z1.2.2.2.1), .long (z1.2.2.2.2.1), .long (z1.2.2.2.2.2.1), .int (bI z1.2.2.2.2.2.2)]))]) (hS : va_S A s.heap H locs) (ls : Array Slot) (hl : lv_has ls 5 [(2, .int (v4)), (0, .ref h0), (1, .ref h1)]), W p l e (headSpec w_C_part ({ frames := 2, cells := 0, slots := 0, locals := 42 } : Room)).room s m ([.ref h0, .ref h1] : List Value).toArray below meth c H locs 0 0 (MQ below (va_Qv (fun _ : Unit => True) (mB (dC, dI) A [(h0, vE (f_C_part z0 z1).1), (h1, vE (f_C_part z0 z1).2)]) A) ([.ref h0, .ref h1] : List Value).toArray s 0 0 A) (F0 m 5 ls []) := by
    intro v4 hj H locs hP hD hS ls hl
    refine lv_aload_n hx hb d_C_part_5 rfl (lv_at hl 1 rfl) ?_
    refine va_get (D := (dC, dI)) (ci := 0) (v := .long (z0.1)) (C := R_V) (T := F_V) (N := 7) hx hb hts (fun w h => List.mem_cons_of_mem _ (uw_V w h)) hown hK hP 0 rfl rfl 0 (by decide) (hG (.fieldLink R_C 45 "ValueSieve$Value" "bits" "J") gw20) (fun _ h9 => h9) rfl d_C_part_6 ?_
    refine lv_lstore_n (lv' := [(3, .long (z0.1)), (2, .int (v4)), (0, .ref h0), (1, .ref h1)]) hx hb d_C_part_9 rfl hl (by decide) rfl (fun ls hl => ?_)
    refine lv_aload_n hx hb d_C_part_10 rfl (lv_at hl 3 rfl) ?_
    refine rc_i (W.runV (As := []) (rest := []) ⟨hx, hb, hml, hown, hts⟩ (c_V_isSingle l dC dI h1 z1) (cwV 0 hts (gV gw321 gw252 gw253 gw1 gw254) rfl rfl rfl (by decide +kernel) ⟨(Nat.le_of_ble_eq_true rfl), (Nat.le_of_ble_eq_true rfl)⟩) ⟨blr, va_recv hK hP (ci := 0) (q0 := 1) rfl rfl, fun U hU hW => ⟨rfl, by rw [hU]; exact hP.sub [1] rfl, va_K.moved hW.alike hK⟩⟩ rfl rfl hl.1 rfl (lv_room (Nat.le_of_ble_eq_true rfl)) d_C_part_11 ⟨Nat.zero_le _, Nat.zero_le _⟩) ?_
    refine lv_if_eq (tgt := 25) hx hb d_C_part_14 (by decide) (fun e1_25 => ?_) (fun e1_25 => ?_)
    · refine K25 v4 z0.1 z0.2.1 z0.2.2.1 z0.2.2.2.1 z0.2.2.2.2.1 z0.2.2.2.2.2.1 z0.2.2.2.2.2.2 (hj.trans (by unfold f_C_part_4v; first | with_reducible exact if_pos e1_25 | exact if_pos e1_25)) H locs ?_ ?_ hS ls (lv_sub hl [0, 1, 3] rfl)
      · with_reducible exact hP
      · with_reducible exact hD
    · refine lv_aload_n hx hb d_C_part_17 rfl (lv_at hl 2 rfl) ?_
      refine lv_aload_n hx hb d_C_part_18 rfl (lv_at hl 3 rfl) ?_
      refine va_get (D := (dC, dI)) (ci := 0) (v := .long (z1.1)) (C := R_V) (T := F_V) (N := 7) hx hb hts (fun w h => List.mem_cons_of_mem _ (uw_V w h)) hown hK hP 1 rfl rfl 0 (by decide) (hG (.fieldLink R_C 45 "ValueSieve$Value" "bits" "J") gw20) (fun _ h9 => h9) rfl d_C_part_19 ?_
      refine mg_v (F := f_C_leaveOut z0 z1.1) (wc := [(h0, vE z0)]) (w1 := fun g22 => [(h0, vE g22)]) (wr := [(h1, .inr (0, [.long (z1.1), .long (z1.2.1), .long (z1.2.2.1), .long (z1.2.2.2.1), .long (z1.2.2.2.2.1), .long (z1.2.2.2.2.2.1), .int (bI z1.2.2.2.2.2.2)]))]) (ws' := fun g22 => [(h0, .inr (0, [.long (g22.1), .long (g22.2.1), .long (g22.2.2.1), .long (g22.2.2.2.1), .long (g22.2.2.2.2.1), .long (g22.2.2.2.2.2.1), .int (bI g22.2.2.2.2.2.2)])), (h1, .inr (0, [.long (z1.1), .long (z1.2.1), .long (z1.2.2.1), .long (z1.2.2.2.1), .long (z1.2.2.2.2.1), .long (z1.2.2.2.2.2.1), .int (bI z1.2.2.2.2.2.2)]))]) (va_runS (As := [.ref h0, .long (z1.1)]) (rest := []) ⟨hx, hb, hml, hown, hts⟩ (c_C_leaveOut l dC dI h0 H.size z0 z1.1) (va_cwS 2 hts (gS gw322 gw323 gw6 gw324) rfl rfl rfl (by decide +kernel) ⟨(Nat.le_of_ble_eq_true rfl), (Nat.le_of_ble_eq_true rfl)⟩) ⟨blm, fun U hU hW => ⟨rfl, by rw [hU], by rw [hU]; exact hP.sub [0] rfl, va_K.moved hW.alike hK, (hD.sub [0] (by decide) rfl).weaken (fun _ _ _ _ => trivial)⟩⟩ rfl rfl hl.1 rfl (lv_room (Nat.le_of_ble_eq_true rfl)) d_C_part_22 ⟨Nat.zero_le _, Nat.zero_le _⟩) hP hD hS hA [0] [1] [1, 0] rfl rfl (by decide) (by decide) (fun _ => rfl) (by decide) (fun g22 eg22 H locs hP hD hS => ?_)
      refine K22g v4 g22 (Eq.trans (hj.trans (by unfold f_C_part_4v; first | with_reducible exact if_neg e1_25 | exact if_neg e1_25)) (congrArg (fun g22 => f_C_part_22g z0 z1 v4 g22) eg22)) H locs ?_ ?_ hS ls (lv_sub hl [0, 1, 3] rfl)
      · with_reducible exact hP
      · with_reducible exact hD
  refine lv_aload_n hx hb d_C_part_0 rfl (lv_at hl 0 rfl) ?_
  refine rc_i (W.runV (As := []) (rest := []) ⟨hx, hb, hml, hown, hts⟩ (c_V_isSingle l dC dI h0 z0) (cwV 0 hts (gV gw321 gw252 gw253 gw1 gw254) rfl rfl rfl (by decide +kernel) ⟨(Nat.le_of_ble_eq_true rfl), (Nat.le_of_ble_eq_true rfl)⟩) ⟨blr, va_recv hK hP (ci := 0) (q0 := 0) rfl rfl, fun U hU hW => ⟨rfl, by rw [hU]; exact hP.sub [0] rfl, va_K.moved hW.alike hK⟩⟩ rfl rfl hl.1 rfl (lv_room (Nat.le_of_ble_eq_true rfl)) d_C_part_1 ⟨Nat.zero_le _, Nat.zero_le _⟩) ?_
  refine lv_topi (fun v4 ev4 => ?_)
  refine lv_istore_n (lv' := [(2, .int (v4)), (0, .ref h0), (1, .ref h1)]) hx hb d_C_part_4 rfl hl (by decide) rfl (fun ls hl => ?_)
  refine K4v v4 (Eq.trans (rfl) (congrArg (fun v4 => f_C_part_4v z0 z1 v4) ev4.symm)) s.heap [] ?_ ?_ hS ls (lv_sub hl [0, 1, 2] rfl)
  · with_reducible exact hP
  · with_reducible exact hD
-- ValueSieve$Comparisons.orderStrictly
theorem d_C_orderStrictly_0 : decode b_C_orderStrictly 0 = .ok (.aload_n 1, 1) := by decide +kernel
theorem d_C_orderStrictly_1 : decode b_C_orderStrictly 1 = .ok (.getfield 69, 3) := by decide +kernel
theorem d_C_orderStrictly_4 : decode b_C_orderStrictly 4 = .ok (.lconst 0, 1) := by decide +kernel
theorem d_C_orderStrictly_5 : decode b_C_orderStrictly 5 = .ok (.lcmp, 1) := by decide +kernel
theorem d_C_orderStrictly_6 : decode b_C_orderStrictly 6 = .ok (.ifCond .ne 11, 3) := by decide +kernel
theorem d_C_orderStrictly_9 : decode b_C_orderStrictly 9 = .ok (.aload_n 0, 1) := by decide +kernel
theorem d_C_orderStrictly_10 : decode b_C_orderStrictly 10 = .ok (.iconst 1, 1) := by decide +kernel
theorem d_C_orderStrictly_11 : decode b_C_orderStrictly 11 = .ok (.putfield 54, 3) := by decide +kernel
theorem d_C_orderStrictly_14 : decode b_C_orderStrictly 14 = .ok (.goto 20, 3) := by decide +kernel
theorem d_C_orderStrictly_17 : decode b_C_orderStrictly 17 = .ok (.aload_n 0, 1) := by decide +kernel
theorem d_C_orderStrictly_18 : decode b_C_orderStrictly 18 = .ok (.aload_n 0, 1) := by decide +kernel
theorem d_C_orderStrictly_19 : decode b_C_orderStrictly 19 = .ok (.getfield 69, 3) := by decide +kernel
theorem d_C_orderStrictly_22 : decode b_C_orderStrictly 22 = .ok (.aload_n 1, 1) := by decide +kernel
theorem d_C_orderStrictly_23 : decode b_C_orderStrictly 23 = .ok (.getfield 69, 3) := by decide +kernel
theorem d_C_orderStrictly_26 : decode b_C_orderStrictly 26 = .ok (.lconst 1, 1) := by decide +kernel
theorem d_C_orderStrictly_27 : decode b_C_orderStrictly 27 = .ok (.lsub, 1) := by decide +kernel
theorem d_C_orderStrictly_28 : decode b_C_orderStrictly 28 = .ok (.invokestatic 72, 3) := by decide +kernel
theorem d_C_orderStrictly_31 : decode b_C_orderStrictly 31 = .ok (.putfield 69, 3) := by decide +kernel
theorem d_C_orderStrictly_34 : decode b_C_orderStrictly 34 = .ok (.aload_n 0, 1) := by decide +kernel
theorem d_C_orderStrictly_35 : decode b_C_orderStrictly 35 = .ok (.getfield 62, 3) := by decide +kernel
theorem d_C_orderStrictly_38 : decode b_C_orderStrictly 38 = .ok (.ldc2_w 52, 3) := by decide +kernel
theorem d_C_orderStrictly_41 : decode b_C_orderStrictly 41 = .ok (.lcmp, 1) := by decide +kernel
theorem d_C_orderStrictly_42 : decode b_C_orderStrictly 42 = .ok (.ifCond .ne 11, 3) := by decide +kernel
theorem d_C_orderStrictly_45 : decode b_C_orderStrictly 45 = .ok (.aload_n 1, 1) := by decide +kernel
theorem d_C_orderStrictly_46 : decode b_C_orderStrictly 46 = .ok (.iconst 1, 1) := by decide +kernel
theorem d_C_orderStrictly_47 : decode b_C_orderStrictly 47 = .ok (.putfield 54, 3) := by decide +kernel
theorem d_C_orderStrictly_50 : decode b_C_orderStrictly 50 = .ok (.goto 20, 3) := by decide +kernel
theorem d_C_orderStrictly_53 : decode b_C_orderStrictly 53 = .ok (.aload_n 1, 1) := by decide +kernel
theorem d_C_orderStrictly_54 : decode b_C_orderStrictly 54 = .ok (.aload_n 1, 1) := by decide +kernel
theorem d_C_orderStrictly_55 : decode b_C_orderStrictly 55 = .ok (.getfield 62, 3) := by decide +kernel
theorem d_C_orderStrictly_58 : decode b_C_orderStrictly 58 = .ok (.aload_n 0, 1) := by decide +kernel
theorem d_C_orderStrictly_59 : decode b_C_orderStrictly 59 = .ok (.getfield 62, 3) := by decide +kernel
theorem d_C_orderStrictly_62 : decode b_C_orderStrictly 62 = .ok (.lconst 1, 1) := by decide +kernel
theorem d_C_orderStrictly_63 : decode b_C_orderStrictly 63 = .ok (.ladd, 1) := by decide +kernel
theorem d_C_orderStrictly_64 : decode b_C_orderStrictly 64 = .ok (.invokestatic 65, 3) := by decide +kernel
theorem d_C_orderStrictly_67 : decode b_C_orderStrictly 67 = .ok (.putfield 62, 3) := by decide +kernel
theorem d_C_orderStrictly_70 : decode b_C_orderStrictly 70 = .ok (.return_, 1) := by decide +kernel
def f_C_orderStrictly_70r (z0 : VV) (z1 : VV) (w70r_0_0 : Int64) (w70r_0_1 : Int64) (w70r_0_2 : Int64) (w70r_0_3 : Int64) (w70r_0_4 : Int64) (w70r_0_5 : Int64) (w70r_0_6 : Bool) (w70r_1_0 : Int64) (w70r_1_1 : Int64) (w70r_1_2 : Int64) (w70r_1_3 : Int64) (w70r_1_4 : Int64) (w70r_1_5 : Int64) (w70r_1_6 : Bool) : VV × VV := ((w70r_0_0, w70r_0_1, w70r_0_2, w70r_0_3, w70r_0_4, w70r_0_5, w70r_0_6), (w70r_1_0, w70r_1_1, w70r_1_2, w70r_1_3, w70r_1_4, w70r_1_5, w70r_1_6))
def f_C_orderStrictly_34 (z0 : VV) (z1 : VV) (w34_0_0 : Int64) (w34_0_1 : Int64) (w34_0_2 : Int64) (w34_0_3 : Int64) (w34_0_4 : Int64) (w34_0_5 : Int64) (w34_0_6 : Bool) : VV × VV := (if w34_0_2 = (-1) then ((w34_0_0, w34_0_1, w34_0_2, w34_0_3, w34_0_4, w34_0_5, w34_0_6), (z1.1, z1.2.1, z1.2.2.1, z1.2.2.2.1, z1.2.2.2.2.1, z1.2.2.2.2.2.1, true)) else f_C_orderStrictly_70r z0 z1 w34_0_0 w34_0_1 w34_0_2 w34_0_3 w34_0_4 w34_0_5 w34_0_6 z1.1 z1.2.1 (f_N_more z1.2.2.1 (w34_0_2 + (1 : Int64))) z1.2.2.2.1 z1.2.2.2.2.1 z1.2.2.2.2.2.1 z1.2.2.2.2.2.2)
def f_C_orderStrictly (z0 : VV) (z1 : VV) : VV × VV := (if z1.2.2.2.1 = 0 then f_C_orderStrictly_34 z0 z1 z0.1 z0.2.1 z0.2.2.1 z0.2.2.2.1 z0.2.2.2.2.1 z0.2.2.2.2.2.1 true else f_C_orderStrictly_34 z0 z1 z0.1 z0.2.1 z0.2.2.1 (f_N_less z0.2.2.2.1 (z1.2.2.2.1 - (1 : Int64))) z0.2.2.2.2.1 z0.2.2.2.2.2.1 z0.2.2.2.2.2.2)
set_option maxRecDepth 100000 in
set_option maxHeartbeats 4000000 in
theorem c_C_orderStrictly (l : Launch) (dC : Nat → ClassId) (dI : Nat → Nat → Nat) (h0 : Nat) (h1 : Nat) (sz : Nat) (z0 : VV) (z1 : VV) : Met l y_C_orderStrictly w_C_orderStrictly ({ frames := 2, cells := 0, slots := 0, locals := 46 } : Room) (va_Pc [.ref h0, .ref h1] (mP (dC, dI) [(h0, vE z0), (h1, vE z1)] sz)) (va_Qv (fun _ : Unit => True) (mB (dC, dI) (va_A [(h0, vE z0), (h1, vE z1)] sz) [(h0, vE (f_C_orderStrictly z0 z1).1), (h1, vE (f_C_orderStrictly z0 z1).2)]) (va_A [(h0, vE z0), (h1, vE z1)] sz)) 0 0 (va_A [(h0, vE z0), (h1, vE z1)] sz) := by
  refine Met.ofW (cc := b_C_orderStrictly) (maxL := 2) (ret := none) (by decide) rfl ?_
  intro p e s m args below meth c s₁ B hml hv
  obtain ⟨rfl, hsz, hP, hK, hD0⟩ := hv
  have hx := B.exec
  have hb := B.bytes
  have hr := B.returns
  have hts := atoms_spec (ws := w_C_orderStrictly) B.pre
  have hG : ∀ w ∈ gG, w.before _ s = true := fun w h => hts w (List.mem_cons_of_mem _ h)
  have hown : s.vm.findClass R_C = some m.cls := findClass_of_methodNamed B.named
  have hlocks := B.notSynchronized
  subst hsz
  have hD := hD0.self (sz := s.heap.size)
  generalize hAe : va_A [(h0, vE z0), (h1, vE z1)] s.heap.size = A at hD ⊢
  have hA : ∀ q : Nat, s.heap.size ≤ q → A q := fun q h => by rw [← hAe]; exact Or.inr h
  have hS : va_S A s.heap s.heap [] := va_S.rf
  have hP : va_P (dC, dI) classes [(h0, .inr (0, [.long (z0.1), .long (z0.2.1), .long (z0.2.2.1), .long (z0.2.2.2.1), .long (z0.2.2.2.2.1), .long (z0.2.2.2.2.2.1), .int (bI z0.2.2.2.2.2.2)])), (h1, .inr (0, [.long (z1.1), .long (z1.2.1), .long (z1.2.2.1), .long (z1.2.2.2.1), .long (z1.2.2.2.2.1), .long (z1.2.2.2.2.2.1), .int (bI z1.2.2.2.2.2.2)]))] s.heap := hP
  have hD : va_D A [(h0, .inr (0, [.long (z0.1), .long (z0.2.1), .long (z0.2.2.1), .long (z0.2.2.2.1), .long (z0.2.2.2.2.1), .long (z0.2.2.2.2.2.1), .int (bI z0.2.2.2.2.2.2)])), (h1, .inr (0, [.long (z1.1), .long (z1.2.1), .long (z1.2.2.1), .long (z1.2.2.2.1), .long (z1.2.2.2.2.1), .long (z1.2.2.2.2.2.1), .int (bI z1.2.2.2.2.2.2)]))] := hD
  have hl := lv_entry ([.ref h0, .ref h1]) (n := 2) (Nat.le_of_ble_eq_true rfl)
  rw [lg_entry_eq]
  generalize (lg_sl ([.ref h0, .ref h1]) ++ List.replicate (2 - (lg_sl ([.ref h0, .ref h1])).length) Slot.unset).toArray = ls at hl ⊢
  have hl : lv_has ls 2 [(0, .ref h0), (1, .ref h1)] := hl
  have K70r : ∀ (w70r_0_0 : Int64) (w70r_0_1 : Int64) (w70r_0_2 : Int64) (w70r_0_3 : Int64) (w70r_0_4 : Int64) (w70r_0_5 : Int64) (w70r_0_6 : Bool) (w70r_1_0 : Int64) (w70r_1_1 : Int64) (w70r_1_2 : Int64) (w70r_1_3 : Int64) (w70r_1_4 : Int64) (w70r_1_5 : Int64) (w70r_1_6 : Bool) (hj : f_C_orderStrictly z0 z1 = f_C_orderStrictly_70r z0 z1 w70r_0_0 w70r_0_1 w70r_0_2 w70r_0_3 w70r_0_4 w70r_0_5 w70r_0_6 w70r_1_0 w70r_1_1 w70r_1_2 w70r_1_3 w70r_1_4 w70r_1_5 w70r_1_6) (H : Heap) (locs : List Loc) (hP : va_P (dC, dI) classes [(h0, .inr (0, [.long (w70r_0_0), .long (w70r_0_1), .long (w70r_0_2), .long (w70r_0_3), .long (w70r_0_4), .long (w70r_0_5), .int (bI w70r_0_6)])), (h1, .inr (0, [.long (w70r_1_0), .long (w70r_1_1), .long (w70r_1_2), .long (w70r_1_3), .long (w70r_1_4), .long (w70r_1_5), .int (bI w70r_1_6)]))] H) (hD : va_D A [(h0, .inr (0, [.long (w70r_0_0), .long (w70r_0_1), .long (w70r_0_2), .long (w70r_0_3), .long (w70r_0_4), .long (w70r_0_5), .int (bI w70r_0_6)])), (h1, .inr (0, [.long (w70r_1_0), .long (w70r_1_1), .long (w70r_1_2), .long (w70r_1_3), .long (w70r_1_4), .long (w70r_1_5), .int (bI w70r_1_6)]))]) (hS : va_S A s.heap H locs) (ls : Array Slot) (hl : lv_has ls 2 []), W p l e (headSpec w_C_orderStrictly ({ frames := 2, cells := 0, slots := 0, locals := 46 } : Room)).room s m ([.ref h0, .ref h1] : List Value).toArray below meth c H locs 0 0 (MQ below (va_Qv (fun _ : Unit => True) (mB (dC, dI) A [(h0, vE (f_C_orderStrictly z0 z1).1), (h1, vE (f_C_orderStrictly z0 z1).2)]) A) ([.ref h0, .ref h1] : List Value).toArray s 0 0 A) (F0 m 70 ls []) := by
    intro w70r_0_0 w70r_0_1 w70r_0_2 w70r_0_3 w70r_0_4 w70r_0_5 w70r_0_6 w70r_1_0 w70r_1_1 w70r_1_2 w70r_1_3 w70r_1_4 w70r_1_5 w70r_1_6 hj H locs hP hD hS ls hl
    have fe : f_C_orderStrictly z0 z1 = ((w70r_0_0, w70r_0_1, w70r_0_2, w70r_0_3, w70r_0_4, w70r_0_5, w70r_0_6), (w70r_1_0, w70r_1_1, w70r_1_2, w70r_1_3, w70r_1_4, w70r_1_5, w70r_1_6)) := hj.trans rfl
    exact W.vret hx hb hr (fun t ht hW => ⟨⟨(), rfl, trivial, by rw [ht, fe]; (try simp only [vE_mk]); exact hP, by rw [fe]; (try simp only [vE_mk]); exact hD⟩, hS.F ht⟩) hS.2.2 d_C_orderStrictly_70
  have K34 : ∀ (w34_0_0 : Int64) (w34_0_1 : Int64) (w34_0_2 : Int64) (w34_0_3 : Int64) (w34_0_4 : Int64) (w34_0_5 : Int64) (w34_0_6 : Bool) (hj : f_C_orderStrictly z0 z1 = f_C_orderStrictly_34 z0 z1 w34_0_0 w34_0_1 w34_0_2 w34_0_3 w34_0_4 w34_0_5 w34_0_6) (H : Heap) (locs : List Loc) (hP : va_P (dC, dI) classes [(h0, .inr (0, [.long (w34_0_0), .long (w34_0_1), .long (w34_0_2), .long (w34_0_3), .long (w34_0_4), .long (w34_0_5), .int (bI w34_0_6)])), (h1, .inr (0, [.long (z1.1), .long (z1.2.1), .long (z1.2.2.1), .long (z1.2.2.2.1), .long (z1.2.2.2.2.1), .long (z1.2.2.2.2.2.1), .int (bI z1.2.2.2.2.2.2)]))] H) (hD : va_D A [(h0, .inr (0, [.long (w34_0_0), .long (w34_0_1), .long (w34_0_2), .long (w34_0_3), .long (w34_0_4), .long (w34_0_5), .int (bI w34_0_6)])), (h1, .inr (0, [.long (z1.1), .long (z1.2.1), .long (z1.2.2.1), .long (z1.2.2.2.1), .long (z1.2.2.2.2.1), .long (z1.2.2.2.2.2.1), .int (bI z1.2.2.2.2.2.2)]))]) (hS : va_S A s.heap H locs) (ls : Array Slot) (hl : lv_has ls 2 [(0, .ref h0), (1, .ref h1)]), W p l e (headSpec w_C_orderStrictly ({ frames := 2, cells := 0, slots := 0, locals := 46 } : Room)).room s m ([.ref h0, .ref h1] : List Value).toArray below meth c H locs 0 0 (MQ below (va_Qv (fun _ : Unit => True) (mB (dC, dI) A [(h0, vE (f_C_orderStrictly z0 z1).1), (h1, vE (f_C_orderStrictly z0 z1).2)]) A) ([.ref h0, .ref h1] : List Value).toArray s 0 0 A) (F0 m 34 ls []) := by
    intro w34_0_0 w34_0_1 w34_0_2 w34_0_3 w34_0_4 w34_0_5 w34_0_6 hj H locs hP hD hS ls hl
    refine lv_aload_n hx hb d_C_orderStrictly_34 rfl (lv_at hl 0 rfl) ?_
    refine va_get (D := (dC, dI)) (ci := 0) (v := .long (w34_0_2)) (C := R_V) (T := F_V) (N := 7) hx hb hts (fun w h => List.mem_cons_of_mem _ (uw_V w h)) hown hK hP 0 rfl rfl 2 (by decide) (hG (.fieldLink R_C 62 "ValueSieve$Value" "low" "J") gw27) (fun _ h9 => h9) rfl d_C_orderStrictly_35 ?_
    refine lv_ldc2 (v := -1) hx hb hown (hG (.constantLong R_C 52 (-1)) gw309) d_C_orderStrictly_38 ?_
    refine wl_ne (tgt := 53) hx hb d_C_orderStrictly_41 d_C_orderStrictly_42 (by decide) (fun e1_53 => ?_) (fun e1_53 => ?_)
    · refine lv_aload_n hx hb d_C_orderStrictly_53 rfl (lv_at hl 1 rfl) ?_
      refine lv_aload_n hx hb d_C_orderStrictly_54 rfl (lv_at hl 1 rfl) ?_
      refine va_get (D := (dC, dI)) (ci := 0) (v := .long (z1.2.2.1)) (C := R_V) (T := F_V) (N := 7) hx hb hts (fun w h => List.mem_cons_of_mem _ (uw_V w h)) hown hK hP 1 rfl rfl 2 (by decide) (hG (.fieldLink R_C 62 "ValueSieve$Value" "low" "J") gw27) (fun _ h9 => h9) rfl d_C_orderStrictly_55 ?_
      refine lv_aload_n hx hb d_C_orderStrictly_58 rfl (lv_at hl 0 rfl) ?_
      refine va_get (D := (dC, dI)) (ci := 0) (v := .long (w34_0_2)) (C := R_V) (T := F_V) (N := 7) hx hb hts (fun w h => List.mem_cons_of_mem _ (uw_V w h)) hown hK hP 0 rfl rfl 2 (by decide) (hG (.fieldLink R_C 62 "ValueSieve$Value" "low" "J") gw27) (fun _ h9 => h9) rfl d_C_orderStrictly_59 ?_
      refine lv_lconst (v := 1) hx hb d_C_orderStrictly_62 (by decide) ?_
      refine lv_ladd hx hb d_C_orderStrictly_63 ?_
      refine rc_l (W.runS (As := [.long (z1.2.2.1), .long (w34_0_2 + (1 : Int64))]) (rest := [.ref h1]) ⟨hx, hb, hml, hown, hts⟩ (c_N_more l z1.2.2.1 (w34_0_2 + (1 : Int64))) (va_cwS 2 hts (gS gw311 gw123 gw2 gw124) rfl rfl rfl (by decide +kernel) ⟨(Nat.le_of_ble_eq_true rfl), (Nat.le_of_ble_eq_true rfl)⟩) ⟨bl0, fun U hU hW => ⟨rfl, trivial⟩⟩ rfl rfl hl.1 rfl (lv_room (Nat.le_of_ble_eq_true rfl)) d_C_orderStrictly_64 ⟨Nat.zero_le _, Nat.zero_le _⟩) ?_
      refine va_put (D := (dC, dI)) (ci := 0) (v := .long (f_N_more z1.2.2.1 (w34_0_2 + (1 : Int64)))) (ty := .long) (C := R_V) (T := F_V) (N := 7) hx hb hts (fun w h => List.mem_cons_of_mem _ (uw_V w h)) t_V t_V_ok n_V hown hK hP hD hS 1 rfl rfl 2 (by decide) (hG (.fieldLink R_C 62 "ValueSieve$Value" "low" "J") gw27) (fun _ h9 => h9) rfl (by decide +kernel) rfl rfl (Nat.le_of_ble_eq_true rfl) d_C_orderStrictly_67 (fun H locs hP hD hS => ?_)
      have hP : va_P (dC, dI) classes [(h0, .inr (0, [.long (w34_0_0), .long (w34_0_1), .long (w34_0_2), .long (w34_0_3), .long (w34_0_4), .long (w34_0_5), .int (bI w34_0_6)])), (h1, .inr (0, [.long (z1.1), .long (z1.2.1), .long (f_N_more z1.2.2.1 (w34_0_2 + (1 : Int64))), .long (z1.2.2.2.1), .long (z1.2.2.2.2.1), .long (z1.2.2.2.2.2.1), .int (bI z1.2.2.2.2.2.2)]))] H := hP
      have hD : va_D A [(h0, .inr (0, [.long (w34_0_0), .long (w34_0_1), .long (w34_0_2), .long (w34_0_3), .long (w34_0_4), .long (w34_0_5), .int (bI w34_0_6)])), (h1, .inr (0, [.long (z1.1), .long (z1.2.1), .long (f_N_more z1.2.2.1 (w34_0_2 + (1 : Int64))), .long (z1.2.2.2.1), .long (z1.2.2.2.2.1), .long (z1.2.2.2.2.2.1), .int (bI z1.2.2.2.2.2.2)]))] := hD
      refine K70r w34_0_0 w34_0_1 w34_0_2 w34_0_3 w34_0_4 w34_0_5 w34_0_6 z1.1 z1.2.1 (f_N_more z1.2.2.1 (w34_0_2 + (1 : Int64))) z1.2.2.2.1 z1.2.2.2.2.1 z1.2.2.2.2.2.1 z1.2.2.2.2.2.2 (hj.trans (by unfold f_C_orderStrictly_34; first | with_reducible exact if_neg e1_53 | exact if_neg e1_53)) H locs ?_ ?_ hS ls (lv_sub hl [] rfl)
      · with_reducible exact hP
      · with_reducible exact hD
    · refine lv_aload_n hx hb d_C_orderStrictly_45 rfl (lv_at hl 1 rfl) ?_
      refine lv_iconst (v := 1) hx hb d_C_orderStrictly_46 (by decide) ?_
      refine va_put (D := (dC, dI)) (ci := 0) (v := .int (bI true)) (ty := .boolean) (C := R_V) (T := F_V) (N := 7) hx hb hts (fun w h => List.mem_cons_of_mem _ (uw_V w h)) t_V t_V_ok n_V hown hK hP hD hS 1 rfl rfl 6 (by decide) (hG (.fieldLink R_C 54 "ValueSieve$Value" "nothing" "Z") gw42) (fun _ h9 => h9) rfl (by decide +kernel) (bI_n true) (bI_f true) (Nat.le_of_ble_eq_true rfl) d_C_orderStrictly_47 (fun H locs hP hD hS => ?_)
      have hP : va_P (dC, dI) classes [(h0, .inr (0, [.long (w34_0_0), .long (w34_0_1), .long (w34_0_2), .long (w34_0_3), .long (w34_0_4), .long (w34_0_5), .int (bI w34_0_6)])), (h1, .inr (0, [.long (z1.1), .long (z1.2.1), .long (z1.2.2.1), .long (z1.2.2.2.1), .long (z1.2.2.2.2.1), .long (z1.2.2.2.2.2.1), .int (bI true)]))] H := hP
      have hD : va_D A [(h0, .inr (0, [.long (w34_0_0), .long (w34_0_1), .long (w34_0_2), .long (w34_0_3), .long (w34_0_4), .long (w34_0_5), .int (bI w34_0_6)])), (h1, .inr (0, [.long (z1.1), .long (z1.2.1), .long (z1.2.2.1), .long (z1.2.2.2.1), .long (z1.2.2.2.2.1), .long (z1.2.2.2.2.2.1), .int (bI true)]))] := hD
      refine lv_goto (tgt := 70) hx hb d_C_orderStrictly_50 (by decide) ?_
      have fe : f_C_orderStrictly z0 z1 = ((w34_0_0, w34_0_1, w34_0_2, w34_0_3, w34_0_4, w34_0_5, w34_0_6), (z1.1, z1.2.1, z1.2.2.1, z1.2.2.2.1, z1.2.2.2.2.1, z1.2.2.2.2.2.1, true)) := hj.trans (by unfold f_C_orderStrictly_34; first | with_reducible exact if_pos e1_53 | exact if_pos e1_53)
      exact W.vret hx hb hr (fun t ht hW => ⟨⟨(), rfl, trivial, by rw [ht, fe]; (try simp only [vE_mk]); exact hP, by rw [fe]; (try simp only [vE_mk]); exact hD⟩, hS.F ht⟩) hS.2.2 d_C_orderStrictly_70
  refine lv_aload_n hx hb d_C_orderStrictly_0 rfl (lv_at hl 1 rfl) ?_
  refine va_get (D := (dC, dI)) (ci := 0) (v := .long (z1.2.2.2.1)) (C := R_V) (T := F_V) (N := 7) hx hb hts (fun w h => List.mem_cons_of_mem _ (uw_V w h)) hown hK hP 1 rfl rfl 3 (by decide) (hG (.fieldLink R_C 69 "ValueSieve$Value" "high" "J") gw31) (fun _ h9 => h9) rfl d_C_orderStrictly_1 ?_
  refine lv_lconst (v := 0) hx hb d_C_orderStrictly_4 (by decide) ?_
  refine wl_ne (tgt := 17) hx hb d_C_orderStrictly_5 d_C_orderStrictly_6 (by decide) (fun e1_17 => ?_) (fun e1_17 => ?_)
  · refine lv_aload_n hx hb d_C_orderStrictly_17 rfl (lv_at hl 0 rfl) ?_
    refine lv_aload_n hx hb d_C_orderStrictly_18 rfl (lv_at hl 0 rfl) ?_
    refine va_get (D := (dC, dI)) (ci := 0) (v := .long (z0.2.2.2.1)) (C := R_V) (T := F_V) (N := 7) hx hb hts (fun w h => List.mem_cons_of_mem _ (uw_V w h)) hown hK hP 0 rfl rfl 3 (by decide) (hG (.fieldLink R_C 69 "ValueSieve$Value" "high" "J") gw31) (fun _ h9 => h9) rfl d_C_orderStrictly_19 ?_
    refine lv_aload_n hx hb d_C_orderStrictly_22 rfl (lv_at hl 1 rfl) ?_
    refine va_get (D := (dC, dI)) (ci := 0) (v := .long (z1.2.2.2.1)) (C := R_V) (T := F_V) (N := 7) hx hb hts (fun w h => List.mem_cons_of_mem _ (uw_V w h)) hown hK hP 1 rfl rfl 3 (by decide) (hG (.fieldLink R_C 69 "ValueSieve$Value" "high" "J") gw31) (fun _ h9 => h9) rfl d_C_orderStrictly_23 ?_
    refine lv_lconst (v := 1) hx hb d_C_orderStrictly_26 (by decide) ?_
    refine lv_lsub hx hb d_C_orderStrictly_27 ?_
    refine rc_l (W.runS (As := [.long (z0.2.2.2.1), .long (z1.2.2.2.1 - (1 : Int64))]) (rest := [.ref h0]) ⟨hx, hb, hml, hown, hts⟩ (c_N_less l z0.2.2.2.1 (z1.2.2.2.1 - (1 : Int64))) (va_cwS 2 hts (gS gw312 gw140 gw2 gw141) rfl rfl rfl (by decide +kernel) ⟨(Nat.le_of_ble_eq_true rfl), (Nat.le_of_ble_eq_true rfl)⟩) ⟨bl0, fun U hU hW => ⟨rfl, trivial⟩⟩ rfl rfl hl.1 rfl (lv_room (Nat.le_of_ble_eq_true rfl)) d_C_orderStrictly_28 ⟨Nat.zero_le _, Nat.zero_le _⟩) ?_
    refine va_put (D := (dC, dI)) (ci := 0) (v := .long (f_N_less z0.2.2.2.1 (z1.2.2.2.1 - (1 : Int64)))) (ty := .long) (C := R_V) (T := F_V) (N := 7) hx hb hts (fun w h => List.mem_cons_of_mem _ (uw_V w h)) t_V t_V_ok n_V hown hK hP hD hS 0 rfl rfl 3 (by decide) (hG (.fieldLink R_C 69 "ValueSieve$Value" "high" "J") gw31) (fun _ h9 => h9) rfl (by decide +kernel) rfl rfl (Nat.le_of_ble_eq_true rfl) d_C_orderStrictly_31 (fun H locs hP hD hS => ?_)
    have hP : va_P (dC, dI) classes [(h0, .inr (0, [.long (z0.1), .long (z0.2.1), .long (z0.2.2.1), .long (f_N_less z0.2.2.2.1 (z1.2.2.2.1 - (1 : Int64))), .long (z0.2.2.2.2.1), .long (z0.2.2.2.2.2.1), .int (bI z0.2.2.2.2.2.2)])), (h1, .inr (0, [.long (z1.1), .long (z1.2.1), .long (z1.2.2.1), .long (z1.2.2.2.1), .long (z1.2.2.2.2.1), .long (z1.2.2.2.2.2.1), .int (bI z1.2.2.2.2.2.2)]))] H := hP
    have hD : va_D A [(h0, .inr (0, [.long (z0.1), .long (z0.2.1), .long (z0.2.2.1), .long (f_N_less z0.2.2.2.1 (z1.2.2.2.1 - (1 : Int64))), .long (z0.2.2.2.2.1), .long (z0.2.2.2.2.2.1), .int (bI z0.2.2.2.2.2.2)])), (h1, .inr (0, [.long (z1.1), .long (z1.2.1), .long (z1.2.2.1), .long (z1.2.2.2.1), .long (z1.2.2.2.2.1), .long (z1.2.2.2.2.2.1), .int (bI z1.2.2.2.2.2.2)]))] := hD
    refine K34 z0.1 z0.2.1 z0.2.2.1 (f_N_less z0.2.2.2.1 (z1.2.2.2.1 - (1 : Int64))) z0.2.2.2.2.1 z0.2.2.2.2.2.1 z0.2.2.2.2.2.2 (by unfold f_C_orderStrictly; first | with_reducible exact if_neg e1_17 | exact if_neg e1_17) H locs ?_ ?_ hS ls (lv_sub hl [0, 1] rfl)
    · with_reducible exact hP
    · with_reducible exact hD
  · refine lv_aload_n hx hb d_C_orderStrictly_9 rfl (lv_at hl 0 rfl) ?_
    refine lv_iconst (v := 1) hx hb d_C_orderStrictly_10 (by decide) ?_
    refine va_put (D := (dC, dI)) (ci := 0) (v := .int (bI true)) (ty := .boolean) (C := R_V) (T := F_V) (N := 7) hx hb hts (fun w h => List.mem_cons_of_mem _ (uw_V w h)) t_V t_V_ok n_V hown hK hP hD hS 0 rfl rfl 6 (by decide) (hG (.fieldLink R_C 54 "ValueSieve$Value" "nothing" "Z") gw42) (fun _ h9 => h9) rfl (by decide +kernel) (bI_n true) (bI_f true) (Nat.le_of_ble_eq_true rfl) d_C_orderStrictly_11 (fun H locs hP hD hS => ?_)
    have hP : va_P (dC, dI) classes [(h0, .inr (0, [.long (z0.1), .long (z0.2.1), .long (z0.2.2.1), .long (z0.2.2.2.1), .long (z0.2.2.2.2.1), .long (z0.2.2.2.2.2.1), .int (bI true)])), (h1, .inr (0, [.long (z1.1), .long (z1.2.1), .long (z1.2.2.1), .long (z1.2.2.2.1), .long (z1.2.2.2.2.1), .long (z1.2.2.2.2.2.1), .int (bI z1.2.2.2.2.2.2)]))] H := hP
    have hD : va_D A [(h0, .inr (0, [.long (z0.1), .long (z0.2.1), .long (z0.2.2.1), .long (z0.2.2.2.1), .long (z0.2.2.2.2.1), .long (z0.2.2.2.2.2.1), .int (bI true)])), (h1, .inr (0, [.long (z1.1), .long (z1.2.1), .long (z1.2.2.1), .long (z1.2.2.2.1), .long (z1.2.2.2.2.1), .long (z1.2.2.2.2.2.1), .int (bI z1.2.2.2.2.2.2)]))] := hD
    refine lv_goto (tgt := 34) hx hb d_C_orderStrictly_14 (by decide) ?_
    refine K34 z0.1 z0.2.1 z0.2.2.1 z0.2.2.2.1 z0.2.2.2.2.1 z0.2.2.2.2.2.1 true (by unfold f_C_orderStrictly; first | with_reducible exact if_pos e1_17 | exact if_pos e1_17) H locs ?_ ?_ hS ls (lv_sub hl [0, 1] rfl)
    · with_reducible exact hP
    · with_reducible exact hD
-- ValueSieve$Comparisons.order
theorem d_C_order_0 : decode b_C_order 0 = .ok (.aload_n 0, 1) := by decide +kernel
theorem d_C_order_1 : decode b_C_order 1 = .ok (.aload_n 0, 1) := by decide +kernel
theorem d_C_order_2 : decode b_C_order 2 = .ok (.getfield 69, 3) := by decide +kernel
theorem d_C_order_5 : decode b_C_order 5 = .ok (.aload_n 1, 1) := by decide +kernel
theorem d_C_order_6 : decode b_C_order 6 = .ok (.getfield 69, 3) := by decide +kernel
theorem d_C_order_9 : decode b_C_order 9 = .ok (.invokestatic 72, 3) := by decide +kernel
theorem d_C_order_12 : decode b_C_order 12 = .ok (.putfield 69, 3) := by decide +kernel
theorem d_C_order_15 : decode b_C_order 15 = .ok (.aload_n 1, 1) := by decide +kernel
theorem d_C_order_16 : decode b_C_order 16 = .ok (.aload_n 1, 1) := by decide +kernel
theorem d_C_order_17 : decode b_C_order 17 = .ok (.getfield 62, 3) := by decide +kernel
theorem d_C_order_20 : decode b_C_order 20 = .ok (.aload_n 0, 1) := by decide +kernel
theorem d_C_order_21 : decode b_C_order 21 = .ok (.getfield 62, 3) := by decide +kernel
theorem d_C_order_24 : decode b_C_order 24 = .ok (.invokestatic 65, 3) := by decide +kernel
theorem d_C_order_27 : decode b_C_order 27 = .ok (.putfield 62, 3) := by decide +kernel
theorem d_C_order_30 : decode b_C_order 30 = .ok (.return_, 1) := by decide +kernel
def f_C_order_30r (z0 : VV) (z1 : VV) (w30r_0_0 : Int64) (w30r_0_1 : Int64) (w30r_0_2 : Int64) (w30r_0_3 : Int64) (w30r_0_4 : Int64) (w30r_0_5 : Int64) (w30r_0_6 : Bool) (w30r_1_0 : Int64) (w30r_1_1 : Int64) (w30r_1_2 : Int64) (w30r_1_3 : Int64) (w30r_1_4 : Int64) (w30r_1_5 : Int64) (w30r_1_6 : Bool) : VV × VV := ((w30r_0_0, w30r_0_1, w30r_0_2, w30r_0_3, w30r_0_4, w30r_0_5, w30r_0_6), (w30r_1_0, w30r_1_1, w30r_1_2, w30r_1_3, w30r_1_4, w30r_1_5, w30r_1_6))
def f_C_order (z0 : VV) (z1 : VV) : VV × VV := f_C_order_30r z0 z1 z0.1 z0.2.1 z0.2.2.1 (f_N_less z0.2.2.2.1 z1.2.2.2.1) z0.2.2.2.2.1 z0.2.2.2.2.2.1 z0.2.2.2.2.2.2 z1.1 z1.2.1 (f_N_more z1.2.2.1 z0.2.2.1) z1.2.2.2.1 z1.2.2.2.2.1 z1.2.2.2.2.2.1 z1.2.2.2.2.2.2
set_option maxRecDepth 100000 in
set_option maxHeartbeats 4000000 in
theorem c_C_order (l : Launch) (dC : Nat → ClassId) (dI : Nat → Nat → Nat) (h0 : Nat) (h1 : Nat) (sz : Nat) (z0 : VV) (z1 : VV) : Met l y_C_order w_C_order ({ frames := 2, cells := 0, slots := 0, locals := 46 } : Room) (va_Pc [.ref h0, .ref h1] (mP (dC, dI) [(h0, vE z0), (h1, vE z1)] sz)) (va_Qv (fun _ : Unit => True) (mB (dC, dI) (va_A [(h0, vE z0), (h1, vE z1)] sz) [(h0, vE (f_C_order z0 z1).1), (h1, vE (f_C_order z0 z1).2)]) (va_A [(h0, vE z0), (h1, vE z1)] sz)) 0 0 (va_A [(h0, vE z0), (h1, vE z1)] sz) := by
  refine Met.ofW (cc := b_C_order) (maxL := 2) (ret := none) (by decide) rfl ?_
  intro p e s m args below meth c s₁ B hml hv
  obtain ⟨rfl, hsz, hP, hK, hD0⟩ := hv
  have hx := B.exec
  have hb := B.bytes
  have hr := B.returns
  have hts := atoms_spec (ws := w_C_order) B.pre
  have hG : ∀ w ∈ gG, w.before _ s = true := fun w h => hts w (List.mem_cons_of_mem _ h)
  have hown : s.vm.findClass R_C = some m.cls := findClass_of_methodNamed B.named
  have hlocks := B.notSynchronized
  subst hsz
  have hD := hD0.self (sz := s.heap.size)
  generalize hAe : va_A [(h0, vE z0), (h1, vE z1)] s.heap.size = A at hD ⊢
  have hA : ∀ q : Nat, s.heap.size ≤ q → A q := fun q h => by rw [← hAe]; exact Or.inr h
  have hS : va_S A s.heap s.heap [] := va_S.rf
  have hP : va_P (dC, dI) classes [(h0, .inr (0, [.long (z0.1), .long (z0.2.1), .long (z0.2.2.1), .long (z0.2.2.2.1), .long (z0.2.2.2.2.1), .long (z0.2.2.2.2.2.1), .int (bI z0.2.2.2.2.2.2)])), (h1, .inr (0, [.long (z1.1), .long (z1.2.1), .long (z1.2.2.1), .long (z1.2.2.2.1), .long (z1.2.2.2.2.1), .long (z1.2.2.2.2.2.1), .int (bI z1.2.2.2.2.2.2)]))] s.heap := hP
  have hD : va_D A [(h0, .inr (0, [.long (z0.1), .long (z0.2.1), .long (z0.2.2.1), .long (z0.2.2.2.1), .long (z0.2.2.2.2.1), .long (z0.2.2.2.2.2.1), .int (bI z0.2.2.2.2.2.2)])), (h1, .inr (0, [.long (z1.1), .long (z1.2.1), .long (z1.2.2.1), .long (z1.2.2.2.1), .long (z1.2.2.2.2.1), .long (z1.2.2.2.2.2.1), .int (bI z1.2.2.2.2.2.2)]))] := hD
  have hl := lv_entry ([.ref h0, .ref h1]) (n := 2) (Nat.le_of_ble_eq_true rfl)
  rw [lg_entry_eq]
  generalize (lg_sl ([.ref h0, .ref h1]) ++ List.replicate (2 - (lg_sl ([.ref h0, .ref h1])).length) Slot.unset).toArray = ls at hl ⊢
  have hl : lv_has ls 2 [(0, .ref h0), (1, .ref h1)] := hl
  have K30r : ∀ (w30r_0_0 : Int64) (w30r_0_1 : Int64) (w30r_0_2 : Int64) (w30r_0_3 : Int64) (w30r_0_4 : Int64) (w30r_0_5 : Int64) (w30r_0_6 : Bool) (w30r_1_0 : Int64) (w30r_1_1 : Int64) (w30r_1_2 : Int64) (w30r_1_3 : Int64) (w30r_1_4 : Int64) (w30r_1_5 : Int64) (w30r_1_6 : Bool) (hj : f_C_order z0 z1 = f_C_order_30r z0 z1 w30r_0_0 w30r_0_1 w30r_0_2 w30r_0_3 w30r_0_4 w30r_0_5 w30r_0_6 w30r_1_0 w30r_1_1 w30r_1_2 w30r_1_3 w30r_1_4 w30r_1_5 w30r_1_6) (H : Heap) (locs : List Loc) (hP : va_P (dC, dI) classes [(h0, .inr (0, [.long (w30r_0_0), .long (w30r_0_1), .long (w30r_0_2), .long (w30r_0_3), .long (w30r_0_4), .long (w30r_0_5), .int (bI w30r_0_6)])), (h1, .inr (0, [.long (w30r_1_0), .long (w30r_1_1), .long (w30r_1_2), .long (w30r_1_3), .long (w30r_1_4), .long (w30r_1_5), .int (bI w30r_1_6)]))] H) (hD : va_D A [(h0, .inr (0, [.long (w30r_0_0), .long (w30r_0_1), .long (w30r_0_2), .long (w30r_0_3), .long (w30r_0_4), .long (w30r_0_5), .int (bI w30r_0_6)])), (h1, .inr (0, [.long (w30r_1_0), .long (w30r_1_1), .long (w30r_1_2), .long (w30r_1_3), .long (w30r_1_4), .long (w30r_1_5), .int (bI w30r_1_6)]))]) (hS : va_S A s.heap H locs) (ls : Array Slot) (hl : lv_has ls 2 []), W p l e (headSpec w_C_order ({ frames := 2, cells := 0, slots := 0, locals := 46 } : Room)).room s m ([.ref h0, .ref h1] : List Value).toArray below meth c H locs 0 0 (MQ below (va_Qv (fun _ : Unit => True) (mB (dC, dI) A [(h0, vE (f_C_order z0 z1).1), (h1, vE (f_C_order z0 z1).2)]) A) ([.ref h0, .ref h1] : List Value).toArray s 0 0 A) (F0 m 30 ls []) := by
    intro w30r_0_0 w30r_0_1 w30r_0_2 w30r_0_3 w30r_0_4 w30r_0_5 w30r_0_6 w30r_1_0 w30r_1_1 w30r_1_2 w30r_1_3 w30r_1_4 w30r_1_5 w30r_1_6 hj H locs hP hD hS ls hl
    have fe : f_C_order z0 z1 = ((w30r_0_0, w30r_0_1, w30r_0_2, w30r_0_3, w30r_0_4, w30r_0_5, w30r_0_6), (w30r_1_0, w30r_1_1, w30r_1_2, w30r_1_3, w30r_1_4, w30r_1_5, w30r_1_6)) := hj.trans rfl
    exact W.vret hx hb hr (fun t ht hW => ⟨⟨(), rfl, trivial, by rw [ht, fe]; (try simp only [vE_mk]); exact hP, by rw [fe]; (try simp only [vE_mk]); exact hD⟩, hS.F ht⟩) hS.2.2 d_C_order_30
  refine lv_aload_n hx hb d_C_order_0 rfl (lv_at hl 0 rfl) ?_
  refine lv_aload_n hx hb d_C_order_1 rfl (lv_at hl 0 rfl) ?_
  refine va_get (D := (dC, dI)) (ci := 0) (v := .long (z0.2.2.2.1)) (C := R_V) (T := F_V) (N := 7) hx hb hts (fun w h => List.mem_cons_of_mem _ (uw_V w h)) hown hK hP 0 rfl rfl 3 (by decide) (hG (.fieldLink R_C 69 "ValueSieve$Value" "high" "J") gw31) (fun _ h9 => h9) rfl d_C_order_2 ?_
  refine lv_aload_n hx hb d_C_order_5 rfl (lv_at hl 1 rfl) ?_
  refine va_get (D := (dC, dI)) (ci := 0) (v := .long (z1.2.2.2.1)) (C := R_V) (T := F_V) (N := 7) hx hb hts (fun w h => List.mem_cons_of_mem _ (uw_V w h)) hown hK hP 1 rfl rfl 3 (by decide) (hG (.fieldLink R_C 69 "ValueSieve$Value" "high" "J") gw31) (fun _ h9 => h9) rfl d_C_order_6 ?_
  refine rc_l (W.runS (As := [.long (z0.2.2.2.1), .long (z1.2.2.2.1)]) (rest := [.ref h0]) ⟨hx, hb, hml, hown, hts⟩ (c_N_less l z0.2.2.2.1 z1.2.2.2.1) (va_cwS 2 hts (gS gw312 gw140 gw2 gw141) rfl rfl rfl (by decide +kernel) ⟨(Nat.le_of_ble_eq_true rfl), (Nat.le_of_ble_eq_true rfl)⟩) ⟨bl0, fun U hU hW => ⟨rfl, trivial⟩⟩ rfl rfl hl.1 rfl (lv_room (Nat.le_of_ble_eq_true rfl)) d_C_order_9 ⟨Nat.zero_le _, Nat.zero_le _⟩) ?_
  refine va_put (D := (dC, dI)) (ci := 0) (v := .long (f_N_less z0.2.2.2.1 z1.2.2.2.1)) (ty := .long) (C := R_V) (T := F_V) (N := 7) hx hb hts (fun w h => List.mem_cons_of_mem _ (uw_V w h)) t_V t_V_ok n_V hown hK hP hD hS 0 rfl rfl 3 (by decide) (hG (.fieldLink R_C 69 "ValueSieve$Value" "high" "J") gw31) (fun _ h9 => h9) rfl (by decide +kernel) rfl rfl (Nat.le_of_ble_eq_true rfl) d_C_order_12 (fun H locs hP hD hS => ?_)
  have hP : va_P (dC, dI) classes [(h0, .inr (0, [.long (z0.1), .long (z0.2.1), .long (z0.2.2.1), .long (f_N_less z0.2.2.2.1 z1.2.2.2.1), .long (z0.2.2.2.2.1), .long (z0.2.2.2.2.2.1), .int (bI z0.2.2.2.2.2.2)])), (h1, .inr (0, [.long (z1.1), .long (z1.2.1), .long (z1.2.2.1), .long (z1.2.2.2.1), .long (z1.2.2.2.2.1), .long (z1.2.2.2.2.2.1), .int (bI z1.2.2.2.2.2.2)]))] H := hP
  have hD : va_D A [(h0, .inr (0, [.long (z0.1), .long (z0.2.1), .long (z0.2.2.1), .long (f_N_less z0.2.2.2.1 z1.2.2.2.1), .long (z0.2.2.2.2.1), .long (z0.2.2.2.2.2.1), .int (bI z0.2.2.2.2.2.2)])), (h1, .inr (0, [.long (z1.1), .long (z1.2.1), .long (z1.2.2.1), .long (z1.2.2.2.1), .long (z1.2.2.2.2.1), .long (z1.2.2.2.2.2.1), .int (bI z1.2.2.2.2.2.2)]))] := hD
  refine lv_aload_n hx hb d_C_order_15 rfl (lv_at hl 1 rfl) ?_
  refine lv_aload_n hx hb d_C_order_16 rfl (lv_at hl 1 rfl) ?_
  refine va_get (D := (dC, dI)) (ci := 0) (v := .long (z1.2.2.1)) (C := R_V) (T := F_V) (N := 7) hx hb hts (fun w h => List.mem_cons_of_mem _ (uw_V w h)) hown hK hP 1 rfl rfl 2 (by decide) (hG (.fieldLink R_C 62 "ValueSieve$Value" "low" "J") gw27) (fun _ h9 => h9) rfl d_C_order_17 ?_
  refine lv_aload_n hx hb d_C_order_20 rfl (lv_at hl 0 rfl) ?_
  refine va_get (D := (dC, dI)) (ci := 0) (v := .long (z0.2.2.1)) (C := R_V) (T := F_V) (N := 7) hx hb hts (fun w h => List.mem_cons_of_mem _ (uw_V w h)) hown hK hP 0 rfl rfl 2 (by decide) (hG (.fieldLink R_C 62 "ValueSieve$Value" "low" "J") gw27) (fun _ h9 => h9) rfl d_C_order_21 ?_
  refine rc_l (W.runS (As := [.long (z1.2.2.1), .long (z0.2.2.1)]) (rest := [.ref h1]) ⟨hx, hb, hml, hown, hts⟩ (c_N_more l z1.2.2.1 z0.2.2.1) (va_cwS 2 hts (gS gw311 gw123 gw2 gw124) rfl rfl rfl (by decide +kernel) ⟨(Nat.le_of_ble_eq_true rfl), (Nat.le_of_ble_eq_true rfl)⟩) ⟨bl0, fun U hU hW => ⟨rfl, trivial⟩⟩ rfl rfl hl.1 rfl (lv_room (Nat.le_of_ble_eq_true rfl)) d_C_order_24 ⟨Nat.zero_le _, Nat.zero_le _⟩) ?_
  refine va_put (D := (dC, dI)) (ci := 0) (v := .long (f_N_more z1.2.2.1 z0.2.2.1)) (ty := .long) (C := R_V) (T := F_V) (N := 7) hx hb hts (fun w h => List.mem_cons_of_mem _ (uw_V w h)) t_V t_V_ok n_V hown hK hP hD hS 1 rfl rfl 2 (by decide) (hG (.fieldLink R_C 62 "ValueSieve$Value" "low" "J") gw27) (fun _ h9 => h9) rfl (by decide +kernel) rfl rfl (Nat.le_of_ble_eq_true rfl) d_C_order_27 (fun H locs hP hD hS => ?_)
  have hP : va_P (dC, dI) classes [(h0, .inr (0, [.long (z0.1), .long (z0.2.1), .long (z0.2.2.1), .long (f_N_less z0.2.2.2.1 z1.2.2.2.1), .long (z0.2.2.2.2.1), .long (z0.2.2.2.2.2.1), .int (bI z0.2.2.2.2.2.2)])), (h1, .inr (0, [.long (z1.1), .long (z1.2.1), .long (f_N_more z1.2.2.1 z0.2.2.1), .long (z1.2.2.2.1), .long (z1.2.2.2.2.1), .long (z1.2.2.2.2.2.1), .int (bI z1.2.2.2.2.2.2)]))] H := hP
  have hD : va_D A [(h0, .inr (0, [.long (z0.1), .long (z0.2.1), .long (z0.2.2.1), .long (f_N_less z0.2.2.2.1 z1.2.2.2.1), .long (z0.2.2.2.2.1), .long (z0.2.2.2.2.2.1), .int (bI z0.2.2.2.2.2.2)])), (h1, .inr (0, [.long (z1.1), .long (z1.2.1), .long (f_N_more z1.2.2.1 z0.2.2.1), .long (z1.2.2.2.1), .long (z1.2.2.2.2.1), .long (z1.2.2.2.2.2.1), .int (bI z1.2.2.2.2.2.2)]))] := hD
  refine K30r z0.1 z0.2.1 z0.2.2.1 (f_N_less z0.2.2.2.1 z1.2.2.2.1) z0.2.2.2.2.1 z0.2.2.2.2.2.1 z0.2.2.2.2.2.2 z1.1 z1.2.1 (f_N_more z1.2.2.1 z0.2.2.1) z1.2.2.2.1 z1.2.2.2.2.1 z1.2.2.2.2.2.1 z1.2.2.2.2.2.2 (rfl) H locs ?_ ?_ hS ls (lv_sub hl [] rfl)
  · with_reducible exact hP
  · with_reducible exact hD
-- ValueSieve$Comparisons.orderSignedStrictly
theorem d_C_orderSignedStrictly_0 : decode b_C_orderSignedStrictly 0 = .ok (.aload_n 1, 1) := by decide +kernel
theorem d_C_orderSignedStrictly_1 : decode b_C_orderSignedStrictly 1 = .ok (.getfield 86, 3) := by decide +kernel
theorem d_C_orderSignedStrictly_4 : decode b_C_orderSignedStrictly 4 = .ok (.ldc2_w 109, 3) := by decide +kernel
theorem d_C_orderSignedStrictly_7 : decode b_C_orderSignedStrictly 7 = .ok (.lcmp, 1) := by decide +kernel
theorem d_C_orderSignedStrictly_8 : decode b_C_orderSignedStrictly 8 = .ok (.ifCond .ne 11, 3) := by decide +kernel
theorem d_C_orderSignedStrictly_11 : decode b_C_orderSignedStrictly 11 = .ok (.aload_n 0, 1) := by decide +kernel
theorem d_C_orderSignedStrictly_12 : decode b_C_orderSignedStrictly 12 = .ok (.iconst 1, 1) := by decide +kernel
theorem d_C_orderSignedStrictly_13 : decode b_C_orderSignedStrictly 13 = .ok (.putfield 54, 3) := by decide +kernel
theorem d_C_orderSignedStrictly_16 : decode b_C_orderSignedStrictly 16 = .ok (.goto 20, 3) := by decide +kernel
theorem d_C_orderSignedStrictly_19 : decode b_C_orderSignedStrictly 19 = .ok (.aload_n 0, 1) := by decide +kernel
theorem d_C_orderSignedStrictly_20 : decode b_C_orderSignedStrictly 20 = .ok (.aload_n 0, 1) := by decide +kernel
theorem d_C_orderSignedStrictly_21 : decode b_C_orderSignedStrictly 21 = .ok (.getfield 86, 3) := by decide +kernel
theorem d_C_orderSignedStrictly_24 : decode b_C_orderSignedStrictly 24 = .ok (.aload_n 1, 1) := by decide +kernel
theorem d_C_orderSignedStrictly_25 : decode b_C_orderSignedStrictly 25 = .ok (.getfield 86, 3) := by decide +kernel
theorem d_C_orderSignedStrictly_28 : decode b_C_orderSignedStrictly 28 = .ok (.lconst 1, 1) := by decide +kernel
theorem d_C_orderSignedStrictly_29 : decode b_C_orderSignedStrictly 29 = .ok (.lsub, 1) := by decide +kernel
theorem d_C_orderSignedStrictly_30 : decode b_C_orderSignedStrictly 30 = .ok (.invokestatic 89, 3) := by decide +kernel
theorem d_C_orderSignedStrictly_33 : decode b_C_orderSignedStrictly 33 = .ok (.putfield 86, 3) := by decide +kernel
theorem d_C_orderSignedStrictly_36 : decode b_C_orderSignedStrictly 36 = .ok (.aload_n 0, 1) := by decide +kernel
theorem d_C_orderSignedStrictly_37 : decode b_C_orderSignedStrictly 37 = .ok (.getfield 78, 3) := by decide +kernel
theorem d_C_orderSignedStrictly_40 : decode b_C_orderSignedStrictly 40 = .ok (.ldc2_w 111, 3) := by decide +kernel
theorem d_C_orderSignedStrictly_43 : decode b_C_orderSignedStrictly 43 = .ok (.lcmp, 1) := by decide +kernel
theorem d_C_orderSignedStrictly_44 : decode b_C_orderSignedStrictly 44 = .ok (.ifCond .ne 11, 3) := by decide +kernel
theorem d_C_orderSignedStrictly_47 : decode b_C_orderSignedStrictly 47 = .ok (.aload_n 1, 1) := by decide +kernel
theorem d_C_orderSignedStrictly_48 : decode b_C_orderSignedStrictly 48 = .ok (.iconst 1, 1) := by decide +kernel
theorem d_C_orderSignedStrictly_49 : decode b_C_orderSignedStrictly 49 = .ok (.putfield 54, 3) := by decide +kernel
theorem d_C_orderSignedStrictly_52 : decode b_C_orderSignedStrictly 52 = .ok (.goto 20, 3) := by decide +kernel
theorem d_C_orderSignedStrictly_55 : decode b_C_orderSignedStrictly 55 = .ok (.aload_n 1, 1) := by decide +kernel
theorem d_C_orderSignedStrictly_56 : decode b_C_orderSignedStrictly 56 = .ok (.aload_n 1, 1) := by decide +kernel
theorem d_C_orderSignedStrictly_57 : decode b_C_orderSignedStrictly 57 = .ok (.getfield 78, 3) := by decide +kernel
theorem d_C_orderSignedStrictly_60 : decode b_C_orderSignedStrictly 60 = .ok (.aload_n 0, 1) := by decide +kernel
theorem d_C_orderSignedStrictly_61 : decode b_C_orderSignedStrictly 61 = .ok (.getfield 78, 3) := by decide +kernel
theorem d_C_orderSignedStrictly_64 : decode b_C_orderSignedStrictly 64 = .ok (.lconst 1, 1) := by decide +kernel
theorem d_C_orderSignedStrictly_65 : decode b_C_orderSignedStrictly 65 = .ok (.ladd, 1) := by decide +kernel
theorem d_C_orderSignedStrictly_66 : decode b_C_orderSignedStrictly 66 = .ok (.invokestatic 81, 3) := by decide +kernel
theorem d_C_orderSignedStrictly_69 : decode b_C_orderSignedStrictly 69 = .ok (.putfield 78, 3) := by decide +kernel
theorem d_C_orderSignedStrictly_72 : decode b_C_orderSignedStrictly 72 = .ok (.return_, 1) := by decide +kernel
def f_C_orderSignedStrictly_72r (z0 : VV) (z1 : VV) (w72r_0_0 : Int64) (w72r_0_1 : Int64) (w72r_0_2 : Int64) (w72r_0_3 : Int64) (w72r_0_4 : Int64) (w72r_0_5 : Int64) (w72r_0_6 : Bool) (w72r_1_0 : Int64) (w72r_1_1 : Int64) (w72r_1_2 : Int64) (w72r_1_3 : Int64) (w72r_1_4 : Int64) (w72r_1_5 : Int64) (w72r_1_6 : Bool) : VV × VV := ((w72r_0_0, w72r_0_1, w72r_0_2, w72r_0_3, w72r_0_4, w72r_0_5, w72r_0_6), (w72r_1_0, w72r_1_1, w72r_1_2, w72r_1_3, w72r_1_4, w72r_1_5, w72r_1_6))
def f_C_orderSignedStrictly_36 (z0 : VV) (z1 : VV) (w36_0_0 : Int64) (w36_0_1 : Int64) (w36_0_2 : Int64) (w36_0_3 : Int64) (w36_0_4 : Int64) (w36_0_5 : Int64) (w36_0_6 : Bool) : VV × VV := (if w36_0_4 = 9223372036854775807 then ((w36_0_0, w36_0_1, w36_0_2, w36_0_3, w36_0_4, w36_0_5, w36_0_6), (z1.1, z1.2.1, z1.2.2.1, z1.2.2.2.1, z1.2.2.2.2.1, z1.2.2.2.2.2.1, true)) else f_C_orderSignedStrictly_72r z0 z1 w36_0_0 w36_0_1 w36_0_2 w36_0_3 w36_0_4 w36_0_5 w36_0_6 z1.1 z1.2.1 z1.2.2.1 z1.2.2.2.1 (jmmax z1.2.2.2.2.1 (w36_0_4 + (1 : Int64))) z1.2.2.2.2.2.1 z1.2.2.2.2.2.2)
def f_C_orderSignedStrictly (z0 : VV) (z1 : VV) : VV × VV := (if z1.2.2.2.2.2.1 = (-9223372036854775808) then f_C_orderSignedStrictly_36 z0 z1 z0.1 z0.2.1 z0.2.2.1 z0.2.2.2.1 z0.2.2.2.2.1 z0.2.2.2.2.2.1 true else f_C_orderSignedStrictly_36 z0 z1 z0.1 z0.2.1 z0.2.2.1 z0.2.2.2.1 z0.2.2.2.2.1 (jmmin z0.2.2.2.2.2.1 (z1.2.2.2.2.2.1 - (1 : Int64))) z0.2.2.2.2.2.2)
set_option maxRecDepth 100000 in
set_option maxHeartbeats 4000000 in
theorem c_C_orderSignedStrictly (l : Launch) (dC : Nat → ClassId) (dI : Nat → Nat → Nat) (h0 : Nat) (h1 : Nat) (sz : Nat) (z0 : VV) (z1 : VV) : Met l y_C_orderSignedStrictly w_C_orderSignedStrictly ({ frames := 1, cells := 0, slots := 0, locals := 23 } : Room) (va_Pc [.ref h0, .ref h1] (mP (dC, dI) [(h0, vE z0), (h1, vE z1)] sz)) (va_Qv (fun _ : Unit => True) (mB (dC, dI) (va_A [(h0, vE z0), (h1, vE z1)] sz) [(h0, vE (f_C_orderSignedStrictly z0 z1).1), (h1, vE (f_C_orderSignedStrictly z0 z1).2)]) (va_A [(h0, vE z0), (h1, vE z1)] sz)) 0 0 (va_A [(h0, vE z0), (h1, vE z1)] sz) := by
  refine Met.ofW (cc := b_C_orderSignedStrictly) (maxL := 2) (ret := none) (by decide) rfl ?_
  intro p e s m args below meth c s₁ B hml hv
  obtain ⟨rfl, hsz, hP, hK, hD0⟩ := hv
  have hx := B.exec
  have hb := B.bytes
  have hr := B.returns
  have hts := atoms_spec (ws := w_C_orderSignedStrictly) B.pre
  have hG : ∀ w ∈ gG, w.before _ s = true := fun w h => hts w (List.mem_cons_of_mem _ h)
  have hown : s.vm.findClass R_C = some m.cls := findClass_of_methodNamed B.named
  have hlocks := B.notSynchronized
  subst hsz
  have hD := hD0.self (sz := s.heap.size)
  generalize hAe : va_A [(h0, vE z0), (h1, vE z1)] s.heap.size = A at hD ⊢
  have hA : ∀ q : Nat, s.heap.size ≤ q → A q := fun q h => by rw [← hAe]; exact Or.inr h
  have hS : va_S A s.heap s.heap [] := va_S.rf
  have hP : va_P (dC, dI) classes [(h0, .inr (0, [.long (z0.1), .long (z0.2.1), .long (z0.2.2.1), .long (z0.2.2.2.1), .long (z0.2.2.2.2.1), .long (z0.2.2.2.2.2.1), .int (bI z0.2.2.2.2.2.2)])), (h1, .inr (0, [.long (z1.1), .long (z1.2.1), .long (z1.2.2.1), .long (z1.2.2.2.1), .long (z1.2.2.2.2.1), .long (z1.2.2.2.2.2.1), .int (bI z1.2.2.2.2.2.2)]))] s.heap := hP
  have hD : va_D A [(h0, .inr (0, [.long (z0.1), .long (z0.2.1), .long (z0.2.2.1), .long (z0.2.2.2.1), .long (z0.2.2.2.2.1), .long (z0.2.2.2.2.2.1), .int (bI z0.2.2.2.2.2.2)])), (h1, .inr (0, [.long (z1.1), .long (z1.2.1), .long (z1.2.2.1), .long (z1.2.2.2.1), .long (z1.2.2.2.2.1), .long (z1.2.2.2.2.2.1), .int (bI z1.2.2.2.2.2.2)]))] := hD
  have hl := lv_entry ([.ref h0, .ref h1]) (n := 2) (Nat.le_of_ble_eq_true rfl)
  rw [lg_entry_eq]
  generalize (lg_sl ([.ref h0, .ref h1]) ++ List.replicate (2 - (lg_sl ([.ref h0, .ref h1])).length) Slot.unset).toArray = ls at hl ⊢
  have hl : lv_has ls 2 [(0, .ref h0), (1, .ref h1)] := hl
  have K72r : ∀ (w72r_0_0 : Int64) (w72r_0_1 : Int64) (w72r_0_2 : Int64) (w72r_0_3 : Int64) (w72r_0_4 : Int64) (w72r_0_5 : Int64) (w72r_0_6 : Bool) (w72r_1_0 : Int64) (w72r_1_1 : Int64) (w72r_1_2 : Int64) (w72r_1_3 : Int64) (w72r_1_4 : Int64) (w72r_1_5 : Int64) (w72r_1_6 : Bool) (hj : f_C_orderSignedStrictly z0 z1 = f_C_orderSignedStrictly_72r z0 z1 w72r_0_0 w72r_0_1 w72r_0_2 w72r_0_3 w72r_0_4 w72r_0_5 w72r_0_6 w72r_1_0 w72r_1_1 w72r_1_2 w72r_1_3 w72r_1_4 w72r_1_5 w72r_1_6) (H : Heap) (locs : List Loc) (hP : va_P (dC, dI) classes [(h0, .inr (0, [.long (w72r_0_0), .long (w72r_0_1), .long (w72r_0_2), .long (w72r_0_3), .long (w72r_0_4), .long (w72r_0_5), .int (bI w72r_0_6)])), (h1, .inr (0, [.long (w72r_1_0), .long (w72r_1_1), .long (w72r_1_2), .long (w72r_1_3), .long (w72r_1_4), .long (w72r_1_5), .int (bI w72r_1_6)]))] H) (hD : va_D A [(h0, .inr (0, [.long (w72r_0_0), .long (w72r_0_1), .long (w72r_0_2), .long (w72r_0_3), .long (w72r_0_4), .long (w72r_0_5), .int (bI w72r_0_6)])), (h1, .inr (0, [.long (w72r_1_0), .long (w72r_1_1), .long (w72r_1_2), .long (w72r_1_3), .long (w72r_1_4), .long (w72r_1_5), .int (bI w72r_1_6)]))]) (hS : va_S A s.heap H locs) (ls : Array Slot) (hl : lv_has ls 2 []), W p l e (headSpec w_C_orderSignedStrictly ({ frames := 1, cells := 0, slots := 0, locals := 23 } : Room)).room s m ([.ref h0, .ref h1] : List Value).toArray below meth c H locs 0 0 (MQ below (va_Qv (fun _ : Unit => True) (mB (dC, dI) A [(h0, vE (f_C_orderSignedStrictly z0 z1).1), (h1, vE (f_C_orderSignedStrictly z0 z1).2)]) A) ([.ref h0, .ref h1] : List Value).toArray s 0 0 A) (F0 m 72 ls []) := by
    intro w72r_0_0 w72r_0_1 w72r_0_2 w72r_0_3 w72r_0_4 w72r_0_5 w72r_0_6 w72r_1_0 w72r_1_1 w72r_1_2 w72r_1_3 w72r_1_4 w72r_1_5 w72r_1_6 hj H locs hP hD hS ls hl
    have fe : f_C_orderSignedStrictly z0 z1 = ((w72r_0_0, w72r_0_1, w72r_0_2, w72r_0_3, w72r_0_4, w72r_0_5, w72r_0_6), (w72r_1_0, w72r_1_1, w72r_1_2, w72r_1_3, w72r_1_4, w72r_1_5, w72r_1_6)) := hj.trans rfl
    exact W.vret hx hb hr (fun t ht hW => ⟨⟨(), rfl, trivial, by rw [ht, fe]; (try simp only [vE_mk]); exact hP, by rw [fe]; (try simp only [vE_mk]); exact hD⟩, hS.F ht⟩) hS.2.2 d_C_orderSignedStrictly_72
  have K36 : ∀ (w36_0_0 : Int64) (w36_0_1 : Int64) (w36_0_2 : Int64) (w36_0_3 : Int64) (w36_0_4 : Int64) (w36_0_5 : Int64) (w36_0_6 : Bool) (hj : f_C_orderSignedStrictly z0 z1 = f_C_orderSignedStrictly_36 z0 z1 w36_0_0 w36_0_1 w36_0_2 w36_0_3 w36_0_4 w36_0_5 w36_0_6) (H : Heap) (locs : List Loc) (hP : va_P (dC, dI) classes [(h0, .inr (0, [.long (w36_0_0), .long (w36_0_1), .long (w36_0_2), .long (w36_0_3), .long (w36_0_4), .long (w36_0_5), .int (bI w36_0_6)])), (h1, .inr (0, [.long (z1.1), .long (z1.2.1), .long (z1.2.2.1), .long (z1.2.2.2.1), .long (z1.2.2.2.2.1), .long (z1.2.2.2.2.2.1), .int (bI z1.2.2.2.2.2.2)]))] H) (hD : va_D A [(h0, .inr (0, [.long (w36_0_0), .long (w36_0_1), .long (w36_0_2), .long (w36_0_3), .long (w36_0_4), .long (w36_0_5), .int (bI w36_0_6)])), (h1, .inr (0, [.long (z1.1), .long (z1.2.1), .long (z1.2.2.1), .long (z1.2.2.2.1), .long (z1.2.2.2.2.1), .long (z1.2.2.2.2.2.1), .int (bI z1.2.2.2.2.2.2)]))]) (hS : va_S A s.heap H locs) (ls : Array Slot) (hl : lv_has ls 2 [(0, .ref h0), (1, .ref h1)]), W p l e (headSpec w_C_orderSignedStrictly ({ frames := 1, cells := 0, slots := 0, locals := 23 } : Room)).room s m ([.ref h0, .ref h1] : List Value).toArray below meth c H locs 0 0 (MQ below (va_Qv (fun _ : Unit => True) (mB (dC, dI) A [(h0, vE (f_C_orderSignedStrictly z0 z1).1), (h1, vE (f_C_orderSignedStrictly z0 z1).2)]) A) ([.ref h0, .ref h1] : List Value).toArray s 0 0 A) (F0 m 36 ls []) := by
    intro w36_0_0 w36_0_1 w36_0_2 w36_0_3 w36_0_4 w36_0_5 w36_0_6 hj H locs hP hD hS ls hl
    refine lv_aload_n hx hb d_C_orderSignedStrictly_36 rfl (lv_at hl 0 rfl) ?_
    refine va_get (D := (dC, dI)) (ci := 0) (v := .long (w36_0_4)) (C := R_V) (T := F_V) (N := 7) hx hb hts (fun w h => List.mem_cons_of_mem _ (uw_V w h)) hown hK hP 0 rfl rfl 4 (by decide) (hG (.fieldLink R_C 78 "ValueSieve$Value" "least" "J") gw35) (fun _ h9 => h9) rfl d_C_orderSignedStrictly_37 ?_
    refine lv_ldc2 (v := 9223372036854775807) hx hb hown (hG (.constantLong R_C 111 (9223372036854775807)) gw335) d_C_orderSignedStrictly_40 ?_
    refine wl_ne (tgt := 55) hx hb d_C_orderSignedStrictly_43 d_C_orderSignedStrictly_44 (by decide) (fun e1_55 => ?_) (fun e1_55 => ?_)
    · refine lv_aload_n hx hb d_C_orderSignedStrictly_55 rfl (lv_at hl 1 rfl) ?_
      refine lv_aload_n hx hb d_C_orderSignedStrictly_56 rfl (lv_at hl 1 rfl) ?_
      refine va_get (D := (dC, dI)) (ci := 0) (v := .long (z1.2.2.2.2.1)) (C := R_V) (T := F_V) (N := 7) hx hb hts (fun w h => List.mem_cons_of_mem _ (uw_V w h)) hown hK hP 1 rfl rfl 4 (by decide) (hG (.fieldLink R_C 78 "ValueSieve$Value" "least" "J") gw35) (fun _ h9 => h9) rfl d_C_orderSignedStrictly_57 ?_
      refine lv_aload_n hx hb d_C_orderSignedStrictly_60 rfl (lv_at hl 0 rfl) ?_
      refine va_get (D := (dC, dI)) (ci := 0) (v := .long (w36_0_4)) (C := R_V) (T := F_V) (N := 7) hx hb hts (fun w h => List.mem_cons_of_mem _ (uw_V w h)) hown hK hP 0 rfl rfl 4 (by decide) (hG (.fieldLink R_C 78 "ValueSieve$Value" "least" "J") gw35) (fun _ h9 => h9) rfl d_C_orderSignedStrictly_61 ?_
      refine lv_lconst (v := 1) hx hb d_C_orderSignedStrictly_64 (by decide) ?_
      refine lv_ladd hx hb d_C_orderSignedStrictly_65 ?_
      refine va_mmax_long hx hb (hml.trans hl.1.symm) hown (hG (.methodLink R_C 81 Lib.MathLoose.max_long.x) gw314) (hG (.static Lib.MathLoose.max_long.x) gw120) (hG (.initialized "java/lang/Math") gw3) (hG (.code Lib.MathLoose.max_long.x Lib.MathLoose.max_long.code 4 (some .long)) gw121) (Nat.le_of_ble_eq_true rfl) (Nat.le_of_ble_eq_true rfl) (Nat.zero_le _) (Nat.zero_le _) d_C_orderSignedStrictly_66 ?_
      refine va_put (D := (dC, dI)) (ci := 0) (v := .long (jmmax z1.2.2.2.2.1 (w36_0_4 + (1 : Int64)))) (ty := .long) (C := R_V) (T := F_V) (N := 7) hx hb hts (fun w h => List.mem_cons_of_mem _ (uw_V w h)) t_V t_V_ok n_V hown hK hP hD hS 1 rfl rfl 4 (by decide) (hG (.fieldLink R_C 78 "ValueSieve$Value" "least" "J") gw35) (fun _ h9 => h9) rfl (by decide +kernel) rfl rfl (Nat.le_of_ble_eq_true rfl) d_C_orderSignedStrictly_69 (fun H locs hP hD hS => ?_)
      have hP : va_P (dC, dI) classes [(h0, .inr (0, [.long (w36_0_0), .long (w36_0_1), .long (w36_0_2), .long (w36_0_3), .long (w36_0_4), .long (w36_0_5), .int (bI w36_0_6)])), (h1, .inr (0, [.long (z1.1), .long (z1.2.1), .long (z1.2.2.1), .long (z1.2.2.2.1), .long (jmmax z1.2.2.2.2.1 (w36_0_4 + (1 : Int64))), .long (z1.2.2.2.2.2.1), .int (bI z1.2.2.2.2.2.2)]))] H := hP
      have hD : va_D A [(h0, .inr (0, [.long (w36_0_0), .long (w36_0_1), .long (w36_0_2), .long (w36_0_3), .long (w36_0_4), .long (w36_0_5), .int (bI w36_0_6)])), (h1, .inr (0, [.long (z1.1), .long (z1.2.1), .long (z1.2.2.1), .long (z1.2.2.2.1), .long (jmmax z1.2.2.2.2.1 (w36_0_4 + (1 : Int64))), .long (z1.2.2.2.2.2.1), .int (bI z1.2.2.2.2.2.2)]))] := hD
      refine K72r w36_0_0 w36_0_1 w36_0_2 w36_0_3 w36_0_4 w36_0_5 w36_0_6 z1.1 z1.2.1 z1.2.2.1 z1.2.2.2.1 (jmmax z1.2.2.2.2.1 (w36_0_4 + (1 : Int64))) z1.2.2.2.2.2.1 z1.2.2.2.2.2.2 (hj.trans (by unfold f_C_orderSignedStrictly_36; first | with_reducible exact if_neg e1_55 | exact if_neg e1_55)) H locs ?_ ?_ hS ls (lv_sub hl [] rfl)
      · with_reducible exact hP
      · with_reducible exact hD
    · refine lv_aload_n hx hb d_C_orderSignedStrictly_47 rfl (lv_at hl 1 rfl) ?_
      refine lv_iconst (v := 1) hx hb d_C_orderSignedStrictly_48 (by decide) ?_
      refine va_put (D := (dC, dI)) (ci := 0) (v := .int (bI true)) (ty := .boolean) (C := R_V) (T := F_V) (N := 7) hx hb hts (fun w h => List.mem_cons_of_mem _ (uw_V w h)) t_V t_V_ok n_V hown hK hP hD hS 1 rfl rfl 6 (by decide) (hG (.fieldLink R_C 54 "ValueSieve$Value" "nothing" "Z") gw42) (fun _ h9 => h9) rfl (by decide +kernel) (bI_n true) (bI_f true) (Nat.le_of_ble_eq_true rfl) d_C_orderSignedStrictly_49 (fun H locs hP hD hS => ?_)
      have hP : va_P (dC, dI) classes [(h0, .inr (0, [.long (w36_0_0), .long (w36_0_1), .long (w36_0_2), .long (w36_0_3), .long (w36_0_4), .long (w36_0_5), .int (bI w36_0_6)])), (h1, .inr (0, [.long (z1.1), .long (z1.2.1), .long (z1.2.2.1), .long (z1.2.2.2.1), .long (z1.2.2.2.2.1), .long (z1.2.2.2.2.2.1), .int (bI true)]))] H := hP
      have hD : va_D A [(h0, .inr (0, [.long (w36_0_0), .long (w36_0_1), .long (w36_0_2), .long (w36_0_3), .long (w36_0_4), .long (w36_0_5), .int (bI w36_0_6)])), (h1, .inr (0, [.long (z1.1), .long (z1.2.1), .long (z1.2.2.1), .long (z1.2.2.2.1), .long (z1.2.2.2.2.1), .long (z1.2.2.2.2.2.1), .int (bI true)]))] := hD
      refine lv_goto (tgt := 72) hx hb d_C_orderSignedStrictly_52 (by decide) ?_
      have fe : f_C_orderSignedStrictly z0 z1 = ((w36_0_0, w36_0_1, w36_0_2, w36_0_3, w36_0_4, w36_0_5, w36_0_6), (z1.1, z1.2.1, z1.2.2.1, z1.2.2.2.1, z1.2.2.2.2.1, z1.2.2.2.2.2.1, true)) := hj.trans (by unfold f_C_orderSignedStrictly_36; first | with_reducible exact if_pos e1_55 | exact if_pos e1_55)
      exact W.vret hx hb hr (fun t ht hW => ⟨⟨(), rfl, trivial, by rw [ht, fe]; (try simp only [vE_mk]); exact hP, by rw [fe]; (try simp only [vE_mk]); exact hD⟩, hS.F ht⟩) hS.2.2 d_C_orderSignedStrictly_72
  refine lv_aload_n hx hb d_C_orderSignedStrictly_0 rfl (lv_at hl 1 rfl) ?_
  refine va_get (D := (dC, dI)) (ci := 0) (v := .long (z1.2.2.2.2.2.1)) (C := R_V) (T := F_V) (N := 7) hx hb hts (fun w h => List.mem_cons_of_mem _ (uw_V w h)) hown hK hP 1 rfl rfl 5 (by decide) (hG (.fieldLink R_C 86 "ValueSieve$Value" "greatest" "J") gw39) (fun _ h9 => h9) rfl d_C_orderSignedStrictly_1 ?_
  refine lv_ldc2 (v := -9223372036854775808) hx hb hown (hG (.constantLong R_C 109 (-9223372036854775808)) gw334) d_C_orderSignedStrictly_4 ?_
  refine wl_ne (tgt := 19) hx hb d_C_orderSignedStrictly_7 d_C_orderSignedStrictly_8 (by decide) (fun e1_19 => ?_) (fun e1_19 => ?_)
  · refine lv_aload_n hx hb d_C_orderSignedStrictly_19 rfl (lv_at hl 0 rfl) ?_
    refine lv_aload_n hx hb d_C_orderSignedStrictly_20 rfl (lv_at hl 0 rfl) ?_
    refine va_get (D := (dC, dI)) (ci := 0) (v := .long (z0.2.2.2.2.2.1)) (C := R_V) (T := F_V) (N := 7) hx hb hts (fun w h => List.mem_cons_of_mem _ (uw_V w h)) hown hK hP 0 rfl rfl 5 (by decide) (hG (.fieldLink R_C 86 "ValueSieve$Value" "greatest" "J") gw39) (fun _ h9 => h9) rfl d_C_orderSignedStrictly_21 ?_
    refine lv_aload_n hx hb d_C_orderSignedStrictly_24 rfl (lv_at hl 1 rfl) ?_
    refine va_get (D := (dC, dI)) (ci := 0) (v := .long (z1.2.2.2.2.2.1)) (C := R_V) (T := F_V) (N := 7) hx hb hts (fun w h => List.mem_cons_of_mem _ (uw_V w h)) hown hK hP 1 rfl rfl 5 (by decide) (hG (.fieldLink R_C 86 "ValueSieve$Value" "greatest" "J") gw39) (fun _ h9 => h9) rfl d_C_orderSignedStrictly_25 ?_
    refine lv_lconst (v := 1) hx hb d_C_orderSignedStrictly_28 (by decide) ?_
    refine lv_lsub hx hb d_C_orderSignedStrictly_29 ?_
    refine va_mmin_long hx hb (hml.trans hl.1.symm) hown (hG (.methodLink R_C 89 Lib.MathLoose.min_long.x) gw315) (hG (.static Lib.MathLoose.min_long.x) gw137) (hG (.initialized "java/lang/Math") gw3) (hG (.code Lib.MathLoose.min_long.x Lib.MathLoose.min_long.code 4 (some .long)) gw138) (Nat.le_of_ble_eq_true rfl) (Nat.le_of_ble_eq_true rfl) (Nat.zero_le _) (Nat.zero_le _) d_C_orderSignedStrictly_30 ?_
    refine va_put (D := (dC, dI)) (ci := 0) (v := .long (jmmin z0.2.2.2.2.2.1 (z1.2.2.2.2.2.1 - (1 : Int64)))) (ty := .long) (C := R_V) (T := F_V) (N := 7) hx hb hts (fun w h => List.mem_cons_of_mem _ (uw_V w h)) t_V t_V_ok n_V hown hK hP hD hS 0 rfl rfl 5 (by decide) (hG (.fieldLink R_C 86 "ValueSieve$Value" "greatest" "J") gw39) (fun _ h9 => h9) rfl (by decide +kernel) rfl rfl (Nat.le_of_ble_eq_true rfl) d_C_orderSignedStrictly_33 (fun H locs hP hD hS => ?_)
    have hP : va_P (dC, dI) classes [(h0, .inr (0, [.long (z0.1), .long (z0.2.1), .long (z0.2.2.1), .long (z0.2.2.2.1), .long (z0.2.2.2.2.1), .long (jmmin z0.2.2.2.2.2.1 (z1.2.2.2.2.2.1 - (1 : Int64))), .int (bI z0.2.2.2.2.2.2)])), (h1, .inr (0, [.long (z1.1), .long (z1.2.1), .long (z1.2.2.1), .long (z1.2.2.2.1), .long (z1.2.2.2.2.1), .long (z1.2.2.2.2.2.1), .int (bI z1.2.2.2.2.2.2)]))] H := hP
    have hD : va_D A [(h0, .inr (0, [.long (z0.1), .long (z0.2.1), .long (z0.2.2.1), .long (z0.2.2.2.1), .long (z0.2.2.2.2.1), .long (jmmin z0.2.2.2.2.2.1 (z1.2.2.2.2.2.1 - (1 : Int64))), .int (bI z0.2.2.2.2.2.2)])), (h1, .inr (0, [.long (z1.1), .long (z1.2.1), .long (z1.2.2.1), .long (z1.2.2.2.1), .long (z1.2.2.2.2.1), .long (z1.2.2.2.2.2.1), .int (bI z1.2.2.2.2.2.2)]))] := hD
    refine K36 z0.1 z0.2.1 z0.2.2.1 z0.2.2.2.1 z0.2.2.2.2.1 (jmmin z0.2.2.2.2.2.1 (z1.2.2.2.2.2.1 - (1 : Int64))) z0.2.2.2.2.2.2 (by unfold f_C_orderSignedStrictly; first | with_reducible exact if_neg e1_19 | exact if_neg e1_19) H locs ?_ ?_ hS ls (lv_sub hl [0, 1] rfl)
    · with_reducible exact hP
    · with_reducible exact hD
  · refine lv_aload_n hx hb d_C_orderSignedStrictly_11 rfl (lv_at hl 0 rfl) ?_
    refine lv_iconst (v := 1) hx hb d_C_orderSignedStrictly_12 (by decide) ?_
    refine va_put (D := (dC, dI)) (ci := 0) (v := .int (bI true)) (ty := .boolean) (C := R_V) (T := F_V) (N := 7) hx hb hts (fun w h => List.mem_cons_of_mem _ (uw_V w h)) t_V t_V_ok n_V hown hK hP hD hS 0 rfl rfl 6 (by decide) (hG (.fieldLink R_C 54 "ValueSieve$Value" "nothing" "Z") gw42) (fun _ h9 => h9) rfl (by decide +kernel) (bI_n true) (bI_f true) (Nat.le_of_ble_eq_true rfl) d_C_orderSignedStrictly_13 (fun H locs hP hD hS => ?_)
    have hP : va_P (dC, dI) classes [(h0, .inr (0, [.long (z0.1), .long (z0.2.1), .long (z0.2.2.1), .long (z0.2.2.2.1), .long (z0.2.2.2.2.1), .long (z0.2.2.2.2.2.1), .int (bI true)])), (h1, .inr (0, [.long (z1.1), .long (z1.2.1), .long (z1.2.2.1), .long (z1.2.2.2.1), .long (z1.2.2.2.2.1), .long (z1.2.2.2.2.2.1), .int (bI z1.2.2.2.2.2.2)]))] H := hP
    have hD : va_D A [(h0, .inr (0, [.long (z0.1), .long (z0.2.1), .long (z0.2.2.1), .long (z0.2.2.2.1), .long (z0.2.2.2.2.1), .long (z0.2.2.2.2.2.1), .int (bI true)])), (h1, .inr (0, [.long (z1.1), .long (z1.2.1), .long (z1.2.2.1), .long (z1.2.2.2.1), .long (z1.2.2.2.2.1), .long (z1.2.2.2.2.2.1), .int (bI z1.2.2.2.2.2.2)]))] := hD
    refine lv_goto (tgt := 36) hx hb d_C_orderSignedStrictly_16 (by decide) ?_
    refine K36 z0.1 z0.2.1 z0.2.2.1 z0.2.2.2.1 z0.2.2.2.2.1 z0.2.2.2.2.2.1 true (by unfold f_C_orderSignedStrictly; first | with_reducible exact if_pos e1_19 | exact if_pos e1_19) H locs ?_ ?_ hS ls (lv_sub hl [0, 1] rfl)
    · with_reducible exact hP
    · with_reducible exact hD
-- ValueSieve$Comparisons.orderSigned
theorem d_C_orderSigned_0 : decode b_C_orderSigned 0 = .ok (.aload_n 0, 1) := by decide +kernel
theorem d_C_orderSigned_1 : decode b_C_orderSigned 1 = .ok (.aload_n 0, 1) := by decide +kernel
theorem d_C_orderSigned_2 : decode b_C_orderSigned 2 = .ok (.getfield 86, 3) := by decide +kernel
theorem d_C_orderSigned_5 : decode b_C_orderSigned 5 = .ok (.aload_n 1, 1) := by decide +kernel
theorem d_C_orderSigned_6 : decode b_C_orderSigned 6 = .ok (.getfield 86, 3) := by decide +kernel
theorem d_C_orderSigned_9 : decode b_C_orderSigned 9 = .ok (.invokestatic 89, 3) := by decide +kernel
theorem d_C_orderSigned_12 : decode b_C_orderSigned 12 = .ok (.putfield 86, 3) := by decide +kernel
theorem d_C_orderSigned_15 : decode b_C_orderSigned 15 = .ok (.aload_n 1, 1) := by decide +kernel
theorem d_C_orderSigned_16 : decode b_C_orderSigned 16 = .ok (.aload_n 1, 1) := by decide +kernel
theorem d_C_orderSigned_17 : decode b_C_orderSigned 17 = .ok (.getfield 78, 3) := by decide +kernel
theorem d_C_orderSigned_20 : decode b_C_orderSigned 20 = .ok (.aload_n 0, 1) := by decide +kernel
theorem d_C_orderSigned_21 : decode b_C_orderSigned 21 = .ok (.getfield 78, 3) := by decide +kernel
theorem d_C_orderSigned_24 : decode b_C_orderSigned 24 = .ok (.invokestatic 81, 3) := by decide +kernel
theorem d_C_orderSigned_27 : decode b_C_orderSigned 27 = .ok (.putfield 78, 3) := by decide +kernel
theorem d_C_orderSigned_30 : decode b_C_orderSigned 30 = .ok (.return_, 1) := by decide +kernel
def f_C_orderSigned_30r (z0 : VV) (z1 : VV) (w30r_0_0 : Int64) (w30r_0_1 : Int64) (w30r_0_2 : Int64) (w30r_0_3 : Int64) (w30r_0_4 : Int64) (w30r_0_5 : Int64) (w30r_0_6 : Bool) (w30r_1_0 : Int64) (w30r_1_1 : Int64) (w30r_1_2 : Int64) (w30r_1_3 : Int64) (w30r_1_4 : Int64) (w30r_1_5 : Int64) (w30r_1_6 : Bool) : VV × VV := ((w30r_0_0, w30r_0_1, w30r_0_2, w30r_0_3, w30r_0_4, w30r_0_5, w30r_0_6), (w30r_1_0, w30r_1_1, w30r_1_2, w30r_1_3, w30r_1_4, w30r_1_5, w30r_1_6))
def f_C_orderSigned (z0 : VV) (z1 : VV) : VV × VV := f_C_orderSigned_30r z0 z1 z0.1 z0.2.1 z0.2.2.1 z0.2.2.2.1 z0.2.2.2.2.1 (jmmin z0.2.2.2.2.2.1 z1.2.2.2.2.2.1) z0.2.2.2.2.2.2 z1.1 z1.2.1 z1.2.2.1 z1.2.2.2.1 (jmmax z1.2.2.2.2.1 z0.2.2.2.2.1) z1.2.2.2.2.2.1 z1.2.2.2.2.2.2
set_option maxRecDepth 100000 in
set_option maxHeartbeats 4000000 in
theorem c_C_orderSigned (l : Launch) (dC : Nat → ClassId) (dI : Nat → Nat → Nat) (h0 : Nat) (h1 : Nat) (sz : Nat) (z0 : VV) (z1 : VV) : Met l y_C_orderSigned w_C_orderSigned ({ frames := 1, cells := 0, slots := 0, locals := 23 } : Room) (va_Pc [.ref h0, .ref h1] (mP (dC, dI) [(h0, vE z0), (h1, vE z1)] sz)) (va_Qv (fun _ : Unit => True) (mB (dC, dI) (va_A [(h0, vE z0), (h1, vE z1)] sz) [(h0, vE (f_C_orderSigned z0 z1).1), (h1, vE (f_C_orderSigned z0 z1).2)]) (va_A [(h0, vE z0), (h1, vE z1)] sz)) 0 0 (va_A [(h0, vE z0), (h1, vE z1)] sz) := by
  refine Met.ofW (cc := b_C_orderSigned) (maxL := 2) (ret := none) (by decide) rfl ?_
  intro p e s m args below meth c s₁ B hml hv
  obtain ⟨rfl, hsz, hP, hK, hD0⟩ := hv
  have hx := B.exec
  have hb := B.bytes
  have hr := B.returns
  have hts := atoms_spec (ws := w_C_orderSigned) B.pre
  have hG : ∀ w ∈ gG, w.before _ s = true := fun w h => hts w (List.mem_cons_of_mem _ h)
  have hown : s.vm.findClass R_C = some m.cls := findClass_of_methodNamed B.named
  have hlocks := B.notSynchronized
  subst hsz
  have hD := hD0.self (sz := s.heap.size)
  generalize hAe : va_A [(h0, vE z0), (h1, vE z1)] s.heap.size = A at hD ⊢
  have hA : ∀ q : Nat, s.heap.size ≤ q → A q := fun q h => by rw [← hAe]; exact Or.inr h
  have hS : va_S A s.heap s.heap [] := va_S.rf
  have hP : va_P (dC, dI) classes [(h0, .inr (0, [.long (z0.1), .long (z0.2.1), .long (z0.2.2.1), .long (z0.2.2.2.1), .long (z0.2.2.2.2.1), .long (z0.2.2.2.2.2.1), .int (bI z0.2.2.2.2.2.2)])), (h1, .inr (0, [.long (z1.1), .long (z1.2.1), .long (z1.2.2.1), .long (z1.2.2.2.1), .long (z1.2.2.2.2.1), .long (z1.2.2.2.2.2.1), .int (bI z1.2.2.2.2.2.2)]))] s.heap := hP
  have hD : va_D A [(h0, .inr (0, [.long (z0.1), .long (z0.2.1), .long (z0.2.2.1), .long (z0.2.2.2.1), .long (z0.2.2.2.2.1), .long (z0.2.2.2.2.2.1), .int (bI z0.2.2.2.2.2.2)])), (h1, .inr (0, [.long (z1.1), .long (z1.2.1), .long (z1.2.2.1), .long (z1.2.2.2.1), .long (z1.2.2.2.2.1), .long (z1.2.2.2.2.2.1), .int (bI z1.2.2.2.2.2.2)]))] := hD
  have hl := lv_entry ([.ref h0, .ref h1]) (n := 2) (Nat.le_of_ble_eq_true rfl)
  rw [lg_entry_eq]
  generalize (lg_sl ([.ref h0, .ref h1]) ++ List.replicate (2 - (lg_sl ([.ref h0, .ref h1])).length) Slot.unset).toArray = ls at hl ⊢
  have hl : lv_has ls 2 [(0, .ref h0), (1, .ref h1)] := hl
  have K30r : ∀ (w30r_0_0 : Int64) (w30r_0_1 : Int64) (w30r_0_2 : Int64) (w30r_0_3 : Int64) (w30r_0_4 : Int64) (w30r_0_5 : Int64) (w30r_0_6 : Bool) (w30r_1_0 : Int64) (w30r_1_1 : Int64) (w30r_1_2 : Int64) (w30r_1_3 : Int64) (w30r_1_4 : Int64) (w30r_1_5 : Int64) (w30r_1_6 : Bool) (hj : f_C_orderSigned z0 z1 = f_C_orderSigned_30r z0 z1 w30r_0_0 w30r_0_1 w30r_0_2 w30r_0_3 w30r_0_4 w30r_0_5 w30r_0_6 w30r_1_0 w30r_1_1 w30r_1_2 w30r_1_3 w30r_1_4 w30r_1_5 w30r_1_6) (H : Heap) (locs : List Loc) (hP : va_P (dC, dI) classes [(h0, .inr (0, [.long (w30r_0_0), .long (w30r_0_1), .long (w30r_0_2), .long (w30r_0_3), .long (w30r_0_4), .long (w30r_0_5), .int (bI w30r_0_6)])), (h1, .inr (0, [.long (w30r_1_0), .long (w30r_1_1), .long (w30r_1_2), .long (w30r_1_3), .long (w30r_1_4), .long (w30r_1_5), .int (bI w30r_1_6)]))] H) (hD : va_D A [(h0, .inr (0, [.long (w30r_0_0), .long (w30r_0_1), .long (w30r_0_2), .long (w30r_0_3), .long (w30r_0_4), .long (w30r_0_5), .int (bI w30r_0_6)])), (h1, .inr (0, [.long (w30r_1_0), .long (w30r_1_1), .long (w30r_1_2), .long (w30r_1_3), .long (w30r_1_4), .long (w30r_1_5), .int (bI w30r_1_6)]))]) (hS : va_S A s.heap H locs) (ls : Array Slot) (hl : lv_has ls 2 []), W p l e (headSpec w_C_orderSigned ({ frames := 1, cells := 0, slots := 0, locals := 23 } : Room)).room s m ([.ref h0, .ref h1] : List Value).toArray below meth c H locs 0 0 (MQ below (va_Qv (fun _ : Unit => True) (mB (dC, dI) A [(h0, vE (f_C_orderSigned z0 z1).1), (h1, vE (f_C_orderSigned z0 z1).2)]) A) ([.ref h0, .ref h1] : List Value).toArray s 0 0 A) (F0 m 30 ls []) := by
    intro w30r_0_0 w30r_0_1 w30r_0_2 w30r_0_3 w30r_0_4 w30r_0_5 w30r_0_6 w30r_1_0 w30r_1_1 w30r_1_2 w30r_1_3 w30r_1_4 w30r_1_5 w30r_1_6 hj H locs hP hD hS ls hl
    have fe : f_C_orderSigned z0 z1 = ((w30r_0_0, w30r_0_1, w30r_0_2, w30r_0_3, w30r_0_4, w30r_0_5, w30r_0_6), (w30r_1_0, w30r_1_1, w30r_1_2, w30r_1_3, w30r_1_4, w30r_1_5, w30r_1_6)) := hj.trans rfl
    exact W.vret hx hb hr (fun t ht hW => ⟨⟨(), rfl, trivial, by rw [ht, fe]; (try simp only [vE_mk]); exact hP, by rw [fe]; (try simp only [vE_mk]); exact hD⟩, hS.F ht⟩) hS.2.2 d_C_orderSigned_30
  refine lv_aload_n hx hb d_C_orderSigned_0 rfl (lv_at hl 0 rfl) ?_
  refine lv_aload_n hx hb d_C_orderSigned_1 rfl (lv_at hl 0 rfl) ?_
  refine va_get (D := (dC, dI)) (ci := 0) (v := .long (z0.2.2.2.2.2.1)) (C := R_V) (T := F_V) (N := 7) hx hb hts (fun w h => List.mem_cons_of_mem _ (uw_V w h)) hown hK hP 0 rfl rfl 5 (by decide) (hG (.fieldLink R_C 86 "ValueSieve$Value" "greatest" "J") gw39) (fun _ h9 => h9) rfl d_C_orderSigned_2 ?_
  refine lv_aload_n hx hb d_C_orderSigned_5 rfl (lv_at hl 1 rfl) ?_
  refine va_get (D := (dC, dI)) (ci := 0) (v := .long (z1.2.2.2.2.2.1)) (C := R_V) (T := F_V) (N := 7) hx hb hts (fun w h => List.mem_cons_of_mem _ (uw_V w h)) hown hK hP 1 rfl rfl 5 (by decide) (hG (.fieldLink R_C 86 "ValueSieve$Value" "greatest" "J") gw39) (fun _ h9 => h9) rfl d_C_orderSigned_6 ?_
  refine va_mmin_long hx hb (hml.trans hl.1.symm) hown (hG (.methodLink R_C 89 Lib.MathLoose.min_long.x) gw315) (hG (.static Lib.MathLoose.min_long.x) gw137) (hG (.initialized "java/lang/Math") gw3) (hG (.code Lib.MathLoose.min_long.x Lib.MathLoose.min_long.code 4 (some .long)) gw138) (Nat.le_of_ble_eq_true rfl) (Nat.le_of_ble_eq_true rfl) (Nat.zero_le _) (Nat.zero_le _) d_C_orderSigned_9 ?_
  refine va_put (D := (dC, dI)) (ci := 0) (v := .long (jmmin z0.2.2.2.2.2.1 z1.2.2.2.2.2.1)) (ty := .long) (C := R_V) (T := F_V) (N := 7) hx hb hts (fun w h => List.mem_cons_of_mem _ (uw_V w h)) t_V t_V_ok n_V hown hK hP hD hS 0 rfl rfl 5 (by decide) (hG (.fieldLink R_C 86 "ValueSieve$Value" "greatest" "J") gw39) (fun _ h9 => h9) rfl (by decide +kernel) rfl rfl (Nat.le_of_ble_eq_true rfl) d_C_orderSigned_12 (fun H locs hP hD hS => ?_)
  have hP : va_P (dC, dI) classes [(h0, .inr (0, [.long (z0.1), .long (z0.2.1), .long (z0.2.2.1), .long (z0.2.2.2.1), .long (z0.2.2.2.2.1), .long (jmmin z0.2.2.2.2.2.1 z1.2.2.2.2.2.1), .int (bI z0.2.2.2.2.2.2)])), (h1, .inr (0, [.long (z1.1), .long (z1.2.1), .long (z1.2.2.1), .long (z1.2.2.2.1), .long (z1.2.2.2.2.1), .long (z1.2.2.2.2.2.1), .int (bI z1.2.2.2.2.2.2)]))] H := hP
  have hD : va_D A [(h0, .inr (0, [.long (z0.1), .long (z0.2.1), .long (z0.2.2.1), .long (z0.2.2.2.1), .long (z0.2.2.2.2.1), .long (jmmin z0.2.2.2.2.2.1 z1.2.2.2.2.2.1), .int (bI z0.2.2.2.2.2.2)])), (h1, .inr (0, [.long (z1.1), .long (z1.2.1), .long (z1.2.2.1), .long (z1.2.2.2.1), .long (z1.2.2.2.2.1), .long (z1.2.2.2.2.2.1), .int (bI z1.2.2.2.2.2.2)]))] := hD
  refine lv_aload_n hx hb d_C_orderSigned_15 rfl (lv_at hl 1 rfl) ?_
  refine lv_aload_n hx hb d_C_orderSigned_16 rfl (lv_at hl 1 rfl) ?_
  refine va_get (D := (dC, dI)) (ci := 0) (v := .long (z1.2.2.2.2.1)) (C := R_V) (T := F_V) (N := 7) hx hb hts (fun w h => List.mem_cons_of_mem _ (uw_V w h)) hown hK hP 1 rfl rfl 4 (by decide) (hG (.fieldLink R_C 78 "ValueSieve$Value" "least" "J") gw35) (fun _ h9 => h9) rfl d_C_orderSigned_17 ?_
  refine lv_aload_n hx hb d_C_orderSigned_20 rfl (lv_at hl 0 rfl) ?_
  refine va_get (D := (dC, dI)) (ci := 0) (v := .long (z0.2.2.2.2.1)) (C := R_V) (T := F_V) (N := 7) hx hb hts (fun w h => List.mem_cons_of_mem _ (uw_V w h)) hown hK hP 0 rfl rfl 4 (by decide) (hG (.fieldLink R_C 78 "ValueSieve$Value" "least" "J") gw35) (fun _ h9 => h9) rfl d_C_orderSigned_21 ?_
  refine va_mmax_long hx hb (hml.trans hl.1.symm) hown (hG (.methodLink R_C 81 Lib.MathLoose.max_long.x) gw314) (hG (.static Lib.MathLoose.max_long.x) gw120) (hG (.initialized "java/lang/Math") gw3) (hG (.code Lib.MathLoose.max_long.x Lib.MathLoose.max_long.code 4 (some .long)) gw121) (Nat.le_of_ble_eq_true rfl) (Nat.le_of_ble_eq_true rfl) (Nat.zero_le _) (Nat.zero_le _) d_C_orderSigned_24 ?_
  refine va_put (D := (dC, dI)) (ci := 0) (v := .long (jmmax z1.2.2.2.2.1 z0.2.2.2.2.1)) (ty := .long) (C := R_V) (T := F_V) (N := 7) hx hb hts (fun w h => List.mem_cons_of_mem _ (uw_V w h)) t_V t_V_ok n_V hown hK hP hD hS 1 rfl rfl 4 (by decide) (hG (.fieldLink R_C 78 "ValueSieve$Value" "least" "J") gw35) (fun _ h9 => h9) rfl (by decide +kernel) rfl rfl (Nat.le_of_ble_eq_true rfl) d_C_orderSigned_27 (fun H locs hP hD hS => ?_)
  have hP : va_P (dC, dI) classes [(h0, .inr (0, [.long (z0.1), .long (z0.2.1), .long (z0.2.2.1), .long (z0.2.2.2.1), .long (z0.2.2.2.2.1), .long (jmmin z0.2.2.2.2.2.1 z1.2.2.2.2.2.1), .int (bI z0.2.2.2.2.2.2)])), (h1, .inr (0, [.long (z1.1), .long (z1.2.1), .long (z1.2.2.1), .long (z1.2.2.2.1), .long (jmmax z1.2.2.2.2.1 z0.2.2.2.2.1), .long (z1.2.2.2.2.2.1), .int (bI z1.2.2.2.2.2.2)]))] H := hP
  have hD : va_D A [(h0, .inr (0, [.long (z0.1), .long (z0.2.1), .long (z0.2.2.1), .long (z0.2.2.2.1), .long (z0.2.2.2.2.1), .long (jmmin z0.2.2.2.2.2.1 z1.2.2.2.2.2.1), .int (bI z0.2.2.2.2.2.2)])), (h1, .inr (0, [.long (z1.1), .long (z1.2.1), .long (z1.2.2.1), .long (z1.2.2.2.1), .long (jmmax z1.2.2.2.2.1 z0.2.2.2.2.1), .long (z1.2.2.2.2.2.1), .int (bI z1.2.2.2.2.2.2)]))] := hD
  refine K30r z0.1 z0.2.1 z0.2.2.1 z0.2.2.2.1 z0.2.2.2.2.1 (jmmin z0.2.2.2.2.2.1 z1.2.2.2.2.2.1) z0.2.2.2.2.2.2 z1.1 z1.2.1 z1.2.2.1 z1.2.2.2.1 (jmmax z1.2.2.2.2.1 z0.2.2.2.2.1) z1.2.2.2.2.2.1 z1.2.2.2.2.2.2 (rfl) H locs ?_ ?_ hS ls (lv_sub hl [] rfl)
  · with_reducible exact hP
  · with_reducible exact hD
-- ValueSieve$Comparisons.shareBit
theorem d_C_shareBit_0 : decode b_C_shareBit 0 = .ok (.aload_n 0, 1) := by decide +kernel
theorem d_C_shareBit_1 : decode b_C_shareBit 1 = .ok (.getfield 45, 3) := by decide +kernel
theorem d_C_shareBit_4 : decode b_C_shareBit 4 = .ok (.aload_n 0, 1) := by decide +kernel
theorem d_C_shareBit_5 : decode b_C_shareBit 5 = .ok (.getfield 49, 3) := by decide +kernel
theorem d_C_shareBit_8 : decode b_C_shareBit 8 = .ok (.lor, 1) := by decide +kernel
theorem d_C_shareBit_9 : decode b_C_shareBit 9 = .ok (.aload_n 1, 1) := by decide +kernel
theorem d_C_shareBit_10 : decode b_C_shareBit 10 = .ok (.getfield 45, 3) := by decide +kernel
theorem d_C_shareBit_13 : decode b_C_shareBit 13 = .ok (.aload_n 1, 1) := by decide +kernel
theorem d_C_shareBit_14 : decode b_C_shareBit 14 = .ok (.getfield 49, 3) := by decide +kernel
theorem d_C_shareBit_17 : decode b_C_shareBit 17 = .ok (.lor, 1) := by decide +kernel
theorem d_C_shareBit_18 : decode b_C_shareBit 18 = .ok (.land, 1) := by decide +kernel
theorem d_C_shareBit_19 : decode b_C_shareBit 19 = .ok (.lconst 0, 1) := by decide +kernel
theorem d_C_shareBit_20 : decode b_C_shareBit 20 = .ok (.lcmp, 1) := by decide +kernel
theorem d_C_shareBit_21 : decode b_C_shareBit 21 = .ok (.ifCond .ne 14, 3) := by decide +kernel
theorem d_C_shareBit_24 : decode b_C_shareBit 24 = .ok (.aload_n 0, 1) := by decide +kernel
theorem d_C_shareBit_25 : decode b_C_shareBit 25 = .ok (.iconst 1, 1) := by decide +kernel
theorem d_C_shareBit_26 : decode b_C_shareBit 26 = .ok (.putfield 54, 3) := by decide +kernel
theorem d_C_shareBit_29 : decode b_C_shareBit 29 = .ok (.aload_n 1, 1) := by decide +kernel
theorem d_C_shareBit_30 : decode b_C_shareBit 30 = .ok (.iconst 1, 1) := by decide +kernel
theorem d_C_shareBit_31 : decode b_C_shareBit 31 = .ok (.putfield 54, 3) := by decide +kernel
theorem d_C_shareBit_34 : decode b_C_shareBit 34 = .ok (.return_, 1) := by decide +kernel
theorem d_C_shareBit_35 : decode b_C_shareBit 35 = .ok (.aload_n 0, 1) := by decide +kernel
theorem d_C_shareBit_36 : decode b_C_shareBit 36 = .ok (.invokevirtual 99, 3) := by decide +kernel
theorem d_C_shareBit_39 : decode b_C_shareBit 39 = .ok (.ifCond .eq 18, 3) := by decide +kernel
theorem d_C_shareBit_42 : decode b_C_shareBit 42 = .ok (.aload_n 0, 1) := by decide +kernel
theorem d_C_shareBit_43 : decode b_C_shareBit 43 = .ok (.getfield 45, 3) := by decide +kernel
theorem d_C_shareBit_46 : decode b_C_shareBit 46 = .ok (.invokestatic 113, 3) := by decide +kernel
theorem d_C_shareBit_49 : decode b_C_shareBit 49 = .ok (.iconst 1, 1) := by decide +kernel
theorem d_C_shareBit_50 : decode b_C_shareBit 50 = .ok (.if_icmp .ne 7, 3) := by decide +kernel
theorem d_C_shareBit_53 : decode b_C_shareBit 53 = .ok (.iconst 1, 1) := by decide +kernel
theorem d_C_shareBit_54 : decode b_C_shareBit 54 = .ok (.goto 4, 3) := by decide +kernel
theorem d_C_shareBit_57 : decode b_C_shareBit 57 = .ok (.iconst 0, 1) := by decide +kernel
theorem d_C_shareBit_58 : decode b_C_shareBit 58 = .ok (.istore_n 2, 1) := by decide +kernel
theorem d_C_shareBit_59 : decode b_C_shareBit 59 = .ok (.aload_n 0, 1) := by decide +kernel
theorem d_C_shareBit_60 : decode b_C_shareBit 60 = .ok (.getfield 45, 3) := by decide +kernel
theorem d_C_shareBit_63 : decode b_C_shareBit 63 = .ok (.lstore_n 3, 1) := by decide +kernel
theorem d_C_shareBit_64 : decode b_C_shareBit 64 = .ok (.aload_n 1, 1) := by decide +kernel
theorem d_C_shareBit_65 : decode b_C_shareBit 65 = .ok (.invokevirtual 99, 3) := by decide +kernel
theorem d_C_shareBit_68 : decode b_C_shareBit 68 = .ok (.ifCond .eq 40, 3) := by decide +kernel
theorem d_C_shareBit_71 : decode b_C_shareBit 71 = .ok (.aload_n 1, 1) := by decide +kernel
theorem d_C_shareBit_72 : decode b_C_shareBit 72 = .ok (.getfield 45, 3) := by decide +kernel
theorem d_C_shareBit_75 : decode b_C_shareBit 75 = .ok (.invokestatic 113, 3) := by decide +kernel
theorem d_C_shareBit_78 : decode b_C_shareBit 78 = .ok (.iconst 1, 1) := by decide +kernel
theorem d_C_shareBit_79 : decode b_C_shareBit 79 = .ok (.if_icmp .ne 29, 3) := by decide +kernel
theorem d_C_shareBit_82 : decode b_C_shareBit 82 = .ok (.aload_n 0, 1) := by decide +kernel
theorem d_C_shareBit_83 : decode b_C_shareBit 83 = .ok (.aload_n 0, 1) := by decide +kernel
theorem d_C_shareBit_84 : decode b_C_shareBit 84 = .ok (.getfield 45, 3) := by decide +kernel
theorem d_C_shareBit_87 : decode b_C_shareBit 87 = .ok (.aload_n 1, 1) := by decide +kernel
theorem d_C_shareBit_88 : decode b_C_shareBit 88 = .ok (.getfield 45, 3) := by decide +kernel
theorem d_C_shareBit_91 : decode b_C_shareBit 91 = .ok (.lor, 1) := by decide +kernel
theorem d_C_shareBit_92 : decode b_C_shareBit 92 = .ok (.aload_n 0, 1) := by decide +kernel
theorem d_C_shareBit_93 : decode b_C_shareBit 93 = .ok (.getfield 49, 3) := by decide +kernel
theorem d_C_shareBit_96 : decode b_C_shareBit 96 = .ok (.aload_n 1, 1) := by decide +kernel
theorem d_C_shareBit_97 : decode b_C_shareBit 97 = .ok (.getfield 45, 3) := by decide +kernel
theorem d_C_shareBit_100 : decode b_C_shareBit 100 = .ok (.ldc2_w 52, 3) := by decide +kernel
theorem d_C_shareBit_103 : decode b_C_shareBit 103 = .ok (.lxor, 1) := by decide +kernel
theorem d_C_shareBit_104 : decode b_C_shareBit 104 = .ok (.land, 1) := by decide +kernel
theorem d_C_shareBit_105 : decode b_C_shareBit 105 = .ok (.invokevirtual 58, 3) := by decide +kernel
theorem d_C_shareBit_108 : decode b_C_shareBit 108 = .ok (.iload_n 2, 1) := by decide +kernel
theorem d_C_shareBit_109 : decode b_C_shareBit 109 = .ok (.ifCond .eq 23, 3) := by decide +kernel
theorem d_C_shareBit_112 : decode b_C_shareBit 112 = .ok (.aload_n 1, 1) := by decide +kernel
theorem d_C_shareBit_113 : decode b_C_shareBit 113 = .ok (.aload_n 1, 1) := by decide +kernel
theorem d_C_shareBit_114 : decode b_C_shareBit 114 = .ok (.getfield 45, 3) := by decide +kernel
theorem d_C_shareBit_117 : decode b_C_shareBit 117 = .ok (.lload_n 3, 1) := by decide +kernel
theorem d_C_shareBit_118 : decode b_C_shareBit 118 = .ok (.lor, 1) := by decide +kernel
theorem d_C_shareBit_119 : decode b_C_shareBit 119 = .ok (.aload_n 1, 1) := by decide +kernel
theorem d_C_shareBit_120 : decode b_C_shareBit 120 = .ok (.getfield 49, 3) := by decide +kernel
theorem d_C_shareBit_123 : decode b_C_shareBit 123 = .ok (.lload_n 3, 1) := by decide +kernel
theorem d_C_shareBit_124 : decode b_C_shareBit 124 = .ok (.ldc2_w 52, 3) := by decide +kernel
theorem d_C_shareBit_127 : decode b_C_shareBit 127 = .ok (.lxor, 1) := by decide +kernel
theorem d_C_shareBit_128 : decode b_C_shareBit 128 = .ok (.land, 1) := by decide +kernel
theorem d_C_shareBit_129 : decode b_C_shareBit 129 = .ok (.invokevirtual 58, 3) := by decide +kernel
theorem d_C_shareBit_132 : decode b_C_shareBit 132 = .ok (.return_, 1) := by decide +kernel
def f_C_shareBit_129g (z0 : VV) (z1 : VV) (w129g_0_0 : Int64) (w129g_0_1 : Int64) (w129g_0_2 : Int64) (w129g_0_3 : Int64) (w129g_0_4 : Int64) (w129g_0_5 : Int64) (w129g_0_6 : Bool) (g129 : VV) : VV × VV := ((w129g_0_0, w129g_0_1, w129g_0_2, w129g_0_3, w129g_0_4, w129g_0_5, w129g_0_6), g129)
def f_C_shareBit_108 (z0 : VV) (z1 : VV) (s58_0 : Int32) (w108_0_0 : Int64) (w108_0_1 : Int64) (w108_0_2 : Int64) (w108_0_3 : Int64) (w108_0_4 : Int64) (w108_0_5 : Int64) (w108_0_6 : Bool) : VV × VV := (if s58_0 = 0 then ((w108_0_0, w108_0_1, w108_0_2, w108_0_3, w108_0_4, w108_0_5, w108_0_6), z1) else f_C_shareBit_129g z0 z1 w108_0_0 w108_0_1 w108_0_2 w108_0_3 w108_0_4 w108_0_5 w108_0_6 (f_V_sayBits z1 (z1.1 ||| z0.1) (z1.2.1 &&& (z0.1 ^^^ (-1 : Int64)))))
def f_C_shareBit_105g (z0 : VV) (z1 : VV) (s58_0 : Int32) (g105 : VV) : VV × VV := f_C_shareBit_108 z0 z1 s58_0 g105.1 g105.2.1 g105.2.2.1 g105.2.2.2.1 g105.2.2.2.2.1 g105.2.2.2.2.2.1 g105.2.2.2.2.2.2
def f_C_shareBit_58 (z0 : VV) (z1 : VV) (s58_0 : Int32) : VV × VV := (if (f_V_isSingle z1) = 0 then f_C_shareBit_108 z0 z1 s58_0 z0.1 z0.2.1 z0.2.2.1 z0.2.2.2.1 z0.2.2.2.2.1 z0.2.2.2.2.2.1 z0.2.2.2.2.2.2 else (if (f_Lo_bitCount z1.1) = 1 then f_C_shareBit_105g z0 z1 s58_0 (f_V_sayBits z0 (z0.1 ||| z1.1) (z0.2.1 &&& (z1.1 ^^^ (-1 : Int64)))) else f_C_shareBit_108 z0 z1 s58_0 z0.1 z0.2.1 z0.2.2.1 z0.2.2.2.1 z0.2.2.2.2.1 z0.2.2.2.2.2.1 z0.2.2.2.2.2.2))
def f_C_shareBit_57 (z0 : VV) (z1 : VV) : VV × VV := f_C_shareBit_58 z0 z1 0
def f_C_shareBit (z0 : VV) (z1 : VV) : VV × VV := (if ((z0.1 ||| z0.2.1) &&& (z1.1 ||| z1.2.1)) = 0 then ((z0.1, z0.2.1, z0.2.2.1, z0.2.2.2.1, z0.2.2.2.2.1, z0.2.2.2.2.2.1, true), (z1.1, z1.2.1, z1.2.2.1, z1.2.2.2.1, z1.2.2.2.2.1, z1.2.2.2.2.2.1, true)) else (if (f_V_isSingle z0) = 0 then f_C_shareBit_57 z0 z1 else (if (f_Lo_bitCount z0.1) = 1 then f_C_shareBit_58 z0 z1 1 else f_C_shareBit_57 z0 z1)))
set_option maxRecDepth 100000 in
set_option maxHeartbeats 4000000 in
theorem c_C_shareBit (l : Launch) (dC : Nat → ClassId) (dI : Nat → Nat → Nat) (h0 : Nat) (h1 : Nat) (sz : Nat) (z0 : VV) (z1 : VV) : Met l y_C_shareBit w_C_shareBit ({ frames := 1, cells := 0, slots := 0, locals := 24 } : Room) (va_Pc [.ref h0, .ref h1] (mP (dC, dI) [(h0, vE z0), (h1, vE z1)] sz)) (va_Qv (fun _ : Unit => True) (mB (dC, dI) (va_A [(h0, vE z0), (h1, vE z1)] sz) [(h0, vE (f_C_shareBit z0 z1).1), (h1, vE (f_C_shareBit z0 z1).2)]) (va_A [(h0, vE z0), (h1, vE z1)] sz)) 0 0 (va_A [(h0, vE z0), (h1, vE z1)] sz) := by
  refine Met.ofW (cc := b_C_shareBit) (maxL := 5) (ret := none) (by decide) rfl ?_
  intro p e s m args below meth c s₁ B hml hv
  obtain ⟨rfl, hsz, hP, hK, hD0⟩ := hv
  have hx := B.exec
  have hb := B.bytes
  have hr := B.returns
  have hts := atoms_spec (ws := w_C_shareBit) B.pre
  have hG : ∀ w ∈ gG, w.before _ s = true := fun w h => hts w (List.mem_cons_of_mem _ h)
  have hown : s.vm.findClass R_C = some m.cls := findClass_of_methodNamed B.named
  have hlocks := B.notSynchronized
  subst hsz
  have hD := hD0.self (sz := s.heap.size)
  generalize hAe : va_A [(h0, vE z0), (h1, vE z1)] s.heap.size = A at hD ⊢
  have hA : ∀ q : Nat, s.heap.size ≤ q → A q := fun q h => by rw [← hAe]; exact Or.inr h
  have hS : va_S A s.heap s.heap [] := va_S.rf
  have hP : va_P (dC, dI) classes [(h0, .inr (0, [.long (z0.1), .long (z0.2.1), .long (z0.2.2.1), .long (z0.2.2.2.1), .long (z0.2.2.2.2.1), .long (z0.2.2.2.2.2.1), .int (bI z0.2.2.2.2.2.2)])), (h1, .inr (0, [.long (z1.1), .long (z1.2.1), .long (z1.2.2.1), .long (z1.2.2.2.1), .long (z1.2.2.2.2.1), .long (z1.2.2.2.2.2.1), .int (bI z1.2.2.2.2.2.2)]))] s.heap := hP
  have hD : va_D A [(h0, .inr (0, [.long (z0.1), .long (z0.2.1), .long (z0.2.2.1), .long (z0.2.2.2.1), .long (z0.2.2.2.2.1), .long (z0.2.2.2.2.2.1), .int (bI z0.2.2.2.2.2.2)])), (h1, .inr (0, [.long (z1.1), .long (z1.2.1), .long (z1.2.2.1), .long (z1.2.2.2.1), .long (z1.2.2.2.2.1), .long (z1.2.2.2.2.2.1), .int (bI z1.2.2.2.2.2.2)]))] := hD
  have hl := lv_entry ([.ref h0, .ref h1]) (n := 5) (Nat.le_of_ble_eq_true rfl)
  rw [lg_entry_eq]
  generalize (lg_sl ([.ref h0, .ref h1]) ++ List.replicate (5 - (lg_sl ([.ref h0, .ref h1])).length) Slot.unset).toArray = ls at hl ⊢
  have hl : lv_has ls 5 [(0, .ref h0), (1, .ref h1)] := hl
  have K129g : ∀ (w129g_0_0 : Int64) (w129g_0_1 : Int64) (w129g_0_2 : Int64) (w129g_0_3 : Int64) (w129g_0_4 : Int64) (w129g_0_5 : Int64) (w129g_0_6 : Bool) (g129 : VV) (hj : f_C_shareBit z0 z1 = f_C_shareBit_129g z0 z1 w129g_0_0 w129g_0_1 w129g_0_2 w129g_0_3 w129g_0_4 w129g_0_5 w129g_0_6 g129) (H : Heap) (locs : List Loc) (hP : va_P (dC, dI) classes [(h0, .inr (0, [.long (w129g_0_0), .long (w129g_0_1), .long (w129g_0_2), .long (w129g_0_3), .long (w129g_0_4), .long (w129g_0_5), .int (bI w129g_0_6)])), (h1, .inr (0, [.long (g129.1), .long (g129.2.1), .long (g129.2.2.1), .long (g129.2.2.2.1), .long (g129.2.2.2.2.1), .long (g129.2.2.2.2.2.1), .int (bI g129.2.2.2.2.2.2)]))] H) (hD : va_D A [(h0, .inr (0, [.long (w129g_0_0), .long (w129g_0_1), .long (w129g_0_2), .long (w129g_0_3), .long (w129g_0_4), .long (w129g_0_5), .int (bI w129g_0_6)])), (h1, .inr (0, [.long (g129.1), .long (g129.2.1), .long (g129.2.2.1), .long (g129.2.2.2.1), .long (g129.2.2.2.2.1), .long (g129.2.2.2.2.2.1), .int (bI g129.2.2.2.2.2.2)]))]) (hS : va_S A s.heap H locs) (ls : Array Slot) (hl : lv_has ls 5 []), W p l e (headSpec w_C_shareBit ({ frames := 1, cells := 0, slots := 0, locals := 24 } : Room)).room s m ([.ref h0, .ref h1] : List Value).toArray below meth c H locs 0 0 (MQ below (va_Qv (fun _ : Unit => True) (mB (dC, dI) A [(h0, vE (f_C_shareBit z0 z1).1), (h1, vE (f_C_shareBit z0 z1).2)]) A) ([.ref h0, .ref h1] : List Value).toArray s 0 0 A) (F0 m 132 ls []) := by
    intro w129g_0_0 w129g_0_1 w129g_0_2 w129g_0_3 w129g_0_4 w129g_0_5 w129g_0_6 g129 hj H locs hP hD hS ls hl
    have fe : f_C_shareBit z0 z1 = ((w129g_0_0, w129g_0_1, w129g_0_2, w129g_0_3, w129g_0_4, w129g_0_5, w129g_0_6), g129) := hj.trans rfl
    exact W.vret hx hb hr (fun t ht hW => ⟨⟨(), rfl, trivial, by rw [ht, fe]; (try simp only [vE_mk]); exact hP, by rw [fe]; (try simp only [vE_mk]); exact hD⟩, hS.F ht⟩) hS.2.2 d_C_shareBit_132
  have K108 : ∀ (s58_0 : Int32) (w108_0_0 : Int64) (w108_0_1 : Int64) (w108_0_2 : Int64) (w108_0_3 : Int64) (w108_0_4 : Int64) (w108_0_5 : Int64) (w108_0_6 : Bool) (hj : f_C_shareBit z0 z1 = f_C_shareBit_108 z0 z1 s58_0 w108_0_0 w108_0_1 w108_0_2 w108_0_3 w108_0_4 w108_0_5 w108_0_6) (H : Heap) (locs : List Loc) (hP : va_P (dC, dI) classes [(h0, .inr (0, [.long (w108_0_0), .long (w108_0_1), .long (w108_0_2), .long (w108_0_3), .long (w108_0_4), .long (w108_0_5), .int (bI w108_0_6)])), (h1, .inr (0, [.long (z1.1), .long (z1.2.1), .long (z1.2.2.1), .long (z1.2.2.2.1), .long (z1.2.2.2.2.1), .long (z1.2.2.2.2.2.1), .int (bI z1.2.2.2.2.2.2)]))] H) (hD : va_D A [(h0, .inr (0, [.long (w108_0_0), .long (w108_0_1), .long (w108_0_2), .long (w108_0_3), .long (w108_0_4), .long (w108_0_5), .int (bI w108_0_6)])), (h1, .inr (0, [.long (z1.1), .long (z1.2.1), .long (z1.2.2.1), .long (z1.2.2.2.1), .long (z1.2.2.2.2.1), .long (z1.2.2.2.2.2.1), .int (bI z1.2.2.2.2.2.2)]))]) (hS : va_S A s.heap H locs) (ls : Array Slot) (hl : lv_has ls 5 [(3, .long (z0.1)), (2, .int (s58_0)), (1, .ref h1)]), W p l e (headSpec w_C_shareBit ({ frames := 1, cells := 0, slots := 0, locals := 24 } : Room)).room s m ([.ref h0, .ref h1] : List Value).toArray below meth c H locs 0 0 (MQ below (va_Qv (fun _ : Unit => True) (mB (dC, dI) A [(h0, vE (f_C_shareBit z0 z1).1), (h1, vE (f_C_shareBit z0 z1).2)]) A) ([.ref h0, .ref h1] : List Value).toArray s 0 0 A) (F0 m 108 ls []) := by
    intro s58_0 w108_0_0 w108_0_1 w108_0_2 w108_0_3 w108_0_4 w108_0_5 w108_0_6 hj H locs hP hD hS ls hl
    refine lv_iload_n hx hb d_C_shareBit_108 rfl (lv_at hl 1 rfl) ?_
    refine lv_if_eq (tgt := 132) hx hb d_C_shareBit_109 (by decide) (fun e1_132 => ?_) (fun e1_132 => ?_)
    · have fe : f_C_shareBit z0 z1 = ((w108_0_0, w108_0_1, w108_0_2, w108_0_3, w108_0_4, w108_0_5, w108_0_6), z1) := hj.trans (by unfold f_C_shareBit_108; first | with_reducible exact if_pos e1_132 | exact if_pos e1_132)
      exact W.vret hx hb hr (fun t ht hW => ⟨⟨(), rfl, trivial, by rw [ht, fe]; (try simp only [vE_mk]); exact hP, by rw [fe]; (try simp only [vE_mk]); exact hD⟩, hS.F ht⟩) hS.2.2 d_C_shareBit_132
    · refine lv_aload_n hx hb d_C_shareBit_112 rfl (lv_at hl 2 rfl) ?_
      refine lv_aload_n hx hb d_C_shareBit_113 rfl (lv_at hl 2 rfl) ?_
      refine va_get (D := (dC, dI)) (ci := 0) (v := .long (z1.1)) (C := R_V) (T := F_V) (N := 7) hx hb hts (fun w h => List.mem_cons_of_mem _ (uw_V w h)) hown hK hP 1 rfl rfl 0 (by decide) (hG (.fieldLink R_C 45 "ValueSieve$Value" "bits" "J") gw20) (fun _ h9 => h9) rfl d_C_shareBit_114 ?_
      refine lv_lload_n hx hb d_C_shareBit_117 rfl (lv_at hl 0 rfl) ?_
      refine lv_lor hx hb d_C_shareBit_118 ?_
      refine lv_aload_n hx hb d_C_shareBit_119 rfl (lv_at hl 2 rfl) ?_
      refine va_get (D := (dC, dI)) (ci := 0) (v := .long (z1.2.1)) (C := R_V) (T := F_V) (N := 7) hx hb hts (fun w h => List.mem_cons_of_mem _ (uw_V w h)) hown hK hP 1 rfl rfl 1 (by decide) (hG (.fieldLink R_C 49 "ValueSieve$Value" "unknown" "J") gw23) (fun _ h9 => h9) rfl d_C_shareBit_120 ?_
      refine lv_lload_n hx hb d_C_shareBit_123 rfl (lv_at hl 0 rfl) ?_
      refine lv_ldc2 (v := -1) hx hb hown (hG (.constantLong R_C 52 (-1)) gw309) d_C_shareBit_124 ?_
      refine lv_lxor hx hb d_C_shareBit_127 ?_
      refine lv_land hx hb d_C_shareBit_128 ?_
      refine mg_v (F := f_V_sayBits z1 (z1.1 ||| z0.1) (z1.2.1 &&& (z0.1 ^^^ (-1 : Int64)))) (wc := [(h1, vE z1)]) (w1 := fun g129 => [(h1, vE g129)]) (wr := [(h0, .inr (0, [.long (w108_0_0), .long (w108_0_1), .long (w108_0_2), .long (w108_0_3), .long (w108_0_4), .long (w108_0_5), .int (bI w108_0_6)]))]) (ws' := fun g129 => [(h0, .inr (0, [.long (w108_0_0), .long (w108_0_1), .long (w108_0_2), .long (w108_0_3), .long (w108_0_4), .long (w108_0_5), .int (bI w108_0_6)])), (h1, .inr (0, [.long (g129.1), .long (g129.2.1), .long (g129.2.2.1), .long (g129.2.2.2.1), .long (g129.2.2.2.2.1), .long (g129.2.2.2.2.2.1), .int (bI g129.2.2.2.2.2.2)]))]) (va_runV (As := [.long (z1.1 ||| z0.1), .long (z1.2.1 &&& (z0.1 ^^^ (-1 : Int64)))]) (rest := []) ⟨hx, hb, hml, hown, hts⟩ (c_V_sayBits l dC dI h1 H.size z1 (z1.1 ||| z0.1) (z1.2.1 &&& (z0.1 ^^^ (-1 : Int64)))) (cwV 2 hts (gV gw310 gw80 gw81 gw1 gw82) rfl rfl rfl (by decide +kernel) ⟨(Nat.le_of_ble_eq_true rfl), (Nat.le_of_ble_eq_true rfl)⟩) ⟨blm, va_recv hK hP (ci := 0) (q0 := 1) rfl rfl, fun U hU hW => ⟨rfl, by rw [hU], by rw [hU]; exact hP.sub [1] rfl, va_K.moved hW.alike hK, (hD.sub [1] (by decide) rfl).weaken (fun _ _ _ _ => trivial)⟩⟩ rfl rfl hl.1 rfl (lv_room (Nat.le_of_ble_eq_true rfl)) d_C_shareBit_129 ⟨Nat.zero_le _, Nat.zero_le _⟩) hP hD hS hA [1] [0] [0, 1] rfl rfl (by decide) (by decide) (fun _ => rfl) (by decide) (fun g129 eg129 H locs hP hD hS => ?_)
      refine K129g w108_0_0 w108_0_1 w108_0_2 w108_0_3 w108_0_4 w108_0_5 w108_0_6 g129 (Eq.trans (hj.trans (by unfold f_C_shareBit_108; first | with_reducible exact if_neg e1_132 | exact if_neg e1_132)) (congrArg (fun g129 => f_C_shareBit_129g z0 z1 w108_0_0 w108_0_1 w108_0_2 w108_0_3 w108_0_4 w108_0_5 w108_0_6 g129) eg129)) H locs ?_ ?_ hS ls (lv_sub hl [] rfl)
      · with_reducible exact hP
      · with_reducible exact hD
  have K105g : ∀ (s58_0 : Int32) (g105 : VV) (hj : f_C_shareBit z0 z1 = f_C_shareBit_105g z0 z1 s58_0 g105) (H : Heap) (locs : List Loc) (hP : va_P (dC, dI) classes [(h0, .inr (0, [.long (g105.1), .long (g105.2.1), .long (g105.2.2.1), .long (g105.2.2.2.1), .long (g105.2.2.2.2.1), .long (g105.2.2.2.2.2.1), .int (bI g105.2.2.2.2.2.2)])), (h1, .inr (0, [.long (z1.1), .long (z1.2.1), .long (z1.2.2.1), .long (z1.2.2.2.1), .long (z1.2.2.2.2.1), .long (z1.2.2.2.2.2.1), .int (bI z1.2.2.2.2.2.2)]))] H) (hD : va_D A [(h0, .inr (0, [.long (g105.1), .long (g105.2.1), .long (g105.2.2.1), .long (g105.2.2.2.1), .long (g105.2.2.2.2.1), .long (g105.2.2.2.2.2.1), .int (bI g105.2.2.2.2.2.2)])), (h1, .inr (0, [.long (z1.1), .long (z1.2.1), .long (z1.2.2.1), .long (z1.2.2.2.1), .long (z1.2.2.2.2.1), .long (z1.2.2.2.2.2.1), .int (bI z1.2.2.2.2.2.2)]))]) (hS : va_S A s.heap H locs) (ls : Array Slot) (hl : lv_has ls 5 [(3, .long (z0.1)), (2, .int (s58_0)), (1, .ref h1)]), W p l e (headSpec w_C_shareBit ({ frames := 1, cells := 0, slots := 0, locals := 24 } : Room)).room s m ([.ref h0, .ref h1] : List Value).toArray below meth c H locs 0 0 (MQ below (va_Qv (fun _ : Unit => True) (mB (dC, dI) A [(h0, vE (f_C_shareBit z0 z1).1), (h1, vE (f_C_shareBit z0 z1).2)]) A) ([.ref h0, .ref h1] : List Value).toArray s 0 0 A) (F0 m 108 ls []) := by
    intro s58_0 g105 hj H locs hP hD hS ls hl
    refine K108 s58_0 g105.1 g105.2.1 g105.2.2.1 g105.2.2.2.1 g105.2.2.2.2.1 g105.2.2.2.2.2.1 g105.2.2.2.2.2.2 (hj.trans rfl) H locs ?_ ?_ hS ls (lv_sub hl [0, 1, 2] rfl)
    · with_reducible exact hP
    · with_reducible exact hD
  have K58 : ∀ (s58_0 : Int32) (hj : f_C_shareBit z0 z1 = f_C_shareBit_58 z0 z1 s58_0) (H : Heap) (locs : List Loc) (hP : va_P (dC, dI) classes [(h0, .inr (0, [.long (z0.1), .long (z0.2.1), .long (z0.2.2.1), .long (z0.2.2.2.1), .long (z0.2.2.2.2.1), .long (z0.2.2.2.2.2.1), .int (bI z0.2.2.2.2.2.2)])), (h1, .inr (0, [.long (z1.1), .long (z1.2.1), .long (z1.2.2.1), .long (z1.2.2.2.1), .long (z1.2.2.2.2.1), .long (z1.2.2.2.2.2.1), .int (bI z1.2.2.2.2.2.2)]))] H) (hD : va_D A [(h0, .inr (0, [.long (z0.1), .long (z0.2.1), .long (z0.2.2.1), .long (z0.2.2.2.1), .long (z0.2.2.2.2.1), .long (z0.2.2.2.2.2.1), .int (bI z0.2.2.2.2.2.2)])), (h1, .inr (0, [.long (z1.1), .long (z1.2.1), .long (z1.2.2.1), .long (z1.2.2.2.1), .long (z1.2.2.2.2.1), .long (z1.2.2.2.2.2.1), .int (bI z1.2.2.2.2.2.2)]))]) (hS : va_S A s.heap H locs) (ls : Array Slot) (hl : lv_has ls 5 [(0, .ref h0), (1, .ref h1)]), W p l e (headSpec w_C_shareBit ({ frames := 1, cells := 0, slots := 0, locals := 24 } : Room)).room s m ([.ref h0, .ref h1] : List Value).toArray below meth c H locs 0 0 (MQ below (va_Qv (fun _ : Unit => True) (mB (dC, dI) A [(h0, vE (f_C_shareBit z0 z1).1), (h1, vE (f_C_shareBit z0 z1).2)]) A) ([.ref h0, .ref h1] : List Value).toArray s 0 0 A) (F0 m 58 ls [.int (s58_0)]) := by
    intro s58_0 hj H locs hP hD hS ls hl
    refine lv_istore_n (lv' := [(2, .int (s58_0)), (0, .ref h0), (1, .ref h1)]) hx hb d_C_shareBit_58 rfl hl (by decide) rfl (fun ls hl => ?_)
    refine lv_aload_n hx hb d_C_shareBit_59 rfl (lv_at hl 1 rfl) ?_
    refine va_get (D := (dC, dI)) (ci := 0) (v := .long (z0.1)) (C := R_V) (T := F_V) (N := 7) hx hb hts (fun w h => List.mem_cons_of_mem _ (uw_V w h)) hown hK hP 0 rfl rfl 0 (by decide) (hG (.fieldLink R_C 45 "ValueSieve$Value" "bits" "J") gw20) (fun _ h9 => h9) rfl d_C_shareBit_60 ?_
    refine lv_lstore_n (lv' := [(3, .long (z0.1)), (2, .int (s58_0)), (0, .ref h0), (1, .ref h1)]) hx hb d_C_shareBit_63 rfl hl (by decide) rfl (fun ls hl => ?_)
    refine lv_aload_n hx hb d_C_shareBit_64 rfl (lv_at hl 3 rfl) ?_
    refine rc_i (W.runV (As := []) (rest := []) ⟨hx, hb, hml, hown, hts⟩ (c_V_isSingle l dC dI h1 z1) (cwV 0 hts (gV gw321 gw252 gw253 gw1 gw254) rfl rfl rfl (by decide +kernel) ⟨(Nat.le_of_ble_eq_true rfl), (Nat.le_of_ble_eq_true rfl)⟩) ⟨blr, va_recv hK hP (ci := 0) (q0 := 1) rfl rfl, fun U hU hW => ⟨rfl, by rw [hU]; exact hP.sub [1] rfl, va_K.moved hW.alike hK⟩⟩ rfl rfl hl.1 rfl (lv_room (Nat.le_of_ble_eq_true rfl)) d_C_shareBit_65 ⟨Nat.zero_le _, Nat.zero_le _⟩) ?_
    refine lv_if_eq (tgt := 108) hx hb d_C_shareBit_68 (by decide) (fun e1_108 => ?_) (fun e1_108 => ?_)
    · refine K108 s58_0 z0.1 z0.2.1 z0.2.2.1 z0.2.2.2.1 z0.2.2.2.2.1 z0.2.2.2.2.2.1 z0.2.2.2.2.2.2 (hj.trans (by unfold f_C_shareBit_58; first | with_reducible exact if_pos e1_108 | exact if_pos e1_108)) H locs ?_ ?_ hS ls (lv_sub hl [0, 1, 3] rfl)
      · with_reducible exact hP
      · with_reducible exact hD
    · refine lv_aload_n hx hb d_C_shareBit_71 rfl (lv_at hl 3 rfl) ?_
      refine va_get (D := (dC, dI)) (ci := 0) (v := .long (z1.1)) (C := R_V) (T := F_V) (N := 7) hx hb hts (fun w h => List.mem_cons_of_mem _ (uw_V w h)) hown hK hP 1 rfl rfl 0 (by decide) (hG (.fieldLink R_C 45 "ValueSieve$Value" "bits" "J") gw20) (fun _ h9 => h9) rfl d_C_shareBit_72 ?_
      refine rc_i (W.runS (As := [.long (z1.1)]) (rest := []) ⟨hx, hb, hml, hown, hts⟩ (c_Lo_bitCount l z1.1) (va_cwS 1 hts (gS gw342 gw214 gw5 gw215) rfl rfl rfl (by decide +kernel) ⟨(Nat.le_of_ble_eq_true rfl), (Nat.le_of_ble_eq_true rfl)⟩) ⟨bl0, fun U hU hW => ⟨rfl, trivial⟩⟩ rfl rfl hl.1 rfl (lv_room (Nat.le_of_ble_eq_true rfl)) d_C_shareBit_75 ⟨Nat.zero_le _, Nat.zero_le _⟩) ?_
      refine lv_iconst (v := 1) hx hb d_C_shareBit_78 (by decide) ?_
      refine lv_icmp_ne (tgt := 108) hx hb d_C_shareBit_79 (by decide) (fun e2_108 => ?_) (fun e2_108 => ?_)
      · refine K108 s58_0 z0.1 z0.2.1 z0.2.2.1 z0.2.2.2.1 z0.2.2.2.2.1 z0.2.2.2.2.2.1 z0.2.2.2.2.2.2 (hj.trans (by unfold f_C_shareBit_58; first | with_reducible exact (if_neg e1_108).trans (if_neg e2_108) | exact (if_neg e1_108).trans (if_neg e2_108))) H locs ?_ ?_ hS ls (lv_sub hl [0, 1, 3] rfl)
        · with_reducible exact hP
        · with_reducible exact hD
      · refine lv_aload_n hx hb d_C_shareBit_82 rfl (lv_at hl 2 rfl) ?_
        refine lv_aload_n hx hb d_C_shareBit_83 rfl (lv_at hl 2 rfl) ?_
        refine va_get (D := (dC, dI)) (ci := 0) (v := .long (z0.1)) (C := R_V) (T := F_V) (N := 7) hx hb hts (fun w h => List.mem_cons_of_mem _ (uw_V w h)) hown hK hP 0 rfl rfl 0 (by decide) (hG (.fieldLink R_C 45 "ValueSieve$Value" "bits" "J") gw20) (fun _ h9 => h9) rfl d_C_shareBit_84 ?_
        refine lv_aload_n hx hb d_C_shareBit_87 rfl (lv_at hl 3 rfl) ?_
        refine va_get (D := (dC, dI)) (ci := 0) (v := .long (z1.1)) (C := R_V) (T := F_V) (N := 7) hx hb hts (fun w h => List.mem_cons_of_mem _ (uw_V w h)) hown hK hP 1 rfl rfl 0 (by decide) (hG (.fieldLink R_C 45 "ValueSieve$Value" "bits" "J") gw20) (fun _ h9 => h9) rfl d_C_shareBit_88 ?_
        refine lv_lor hx hb d_C_shareBit_91 ?_
        refine lv_aload_n hx hb d_C_shareBit_92 rfl (lv_at hl 2 rfl) ?_
        refine va_get (D := (dC, dI)) (ci := 0) (v := .long (z0.2.1)) (C := R_V) (T := F_V) (N := 7) hx hb hts (fun w h => List.mem_cons_of_mem _ (uw_V w h)) hown hK hP 0 rfl rfl 1 (by decide) (hG (.fieldLink R_C 49 "ValueSieve$Value" "unknown" "J") gw23) (fun _ h9 => h9) rfl d_C_shareBit_93 ?_
        refine lv_aload_n hx hb d_C_shareBit_96 rfl (lv_at hl 3 rfl) ?_
        refine va_get (D := (dC, dI)) (ci := 0) (v := .long (z1.1)) (C := R_V) (T := F_V) (N := 7) hx hb hts (fun w h => List.mem_cons_of_mem _ (uw_V w h)) hown hK hP 1 rfl rfl 0 (by decide) (hG (.fieldLink R_C 45 "ValueSieve$Value" "bits" "J") gw20) (fun _ h9 => h9) rfl d_C_shareBit_97 ?_
        refine lv_ldc2 (v := -1) hx hb hown (hG (.constantLong R_C 52 (-1)) gw309) d_C_shareBit_100 ?_
        refine lv_lxor hx hb d_C_shareBit_103 ?_
        refine lv_land hx hb d_C_shareBit_104 ?_
        refine mg_v (F := f_V_sayBits z0 (z0.1 ||| z1.1) (z0.2.1 &&& (z1.1 ^^^ (-1 : Int64)))) (wc := [(h0, vE z0)]) (w1 := fun g105 => [(h0, vE g105)]) (wr := [(h1, .inr (0, [.long (z1.1), .long (z1.2.1), .long (z1.2.2.1), .long (z1.2.2.2.1), .long (z1.2.2.2.2.1), .long (z1.2.2.2.2.2.1), .int (bI z1.2.2.2.2.2.2)]))]) (ws' := fun g105 => [(h0, .inr (0, [.long (g105.1), .long (g105.2.1), .long (g105.2.2.1), .long (g105.2.2.2.1), .long (g105.2.2.2.2.1), .long (g105.2.2.2.2.2.1), .int (bI g105.2.2.2.2.2.2)])), (h1, .inr (0, [.long (z1.1), .long (z1.2.1), .long (z1.2.2.1), .long (z1.2.2.2.1), .long (z1.2.2.2.2.1), .long (z1.2.2.2.2.2.1), .int (bI z1.2.2.2.2.2.2)]))]) (va_runV (As := [.long (z0.1 ||| z1.1), .long (z0.2.1 &&& (z1.1 ^^^ (-1 : Int64)))]) (rest := []) ⟨hx, hb, hml, hown, hts⟩ (c_V_sayBits l dC dI h0 H.size z0 (z0.1 ||| z1.1) (z0.2.1 &&& (z1.1 ^^^ (-1 : Int64)))) (cwV 2 hts (gV gw310 gw80 gw81 gw1 gw82) rfl rfl rfl (by decide +kernel) ⟨(Nat.le_of_ble_eq_true rfl), (Nat.le_of_ble_eq_true rfl)⟩) ⟨blm, va_recv hK hP (ci := 0) (q0 := 0) rfl rfl, fun U hU hW => ⟨rfl, by rw [hU], by rw [hU]; exact hP.sub [0] rfl, va_K.moved hW.alike hK, (hD.sub [0] (by decide) rfl).weaken (fun _ _ _ _ => trivial)⟩⟩ rfl rfl hl.1 rfl (lv_room (Nat.le_of_ble_eq_true rfl)) d_C_shareBit_105 ⟨Nat.zero_le _, Nat.zero_le _⟩) hP hD hS hA [0] [1] [1, 0] rfl rfl (by decide) (by decide) (fun _ => rfl) (by decide) (fun g105 eg105 H locs hP hD hS => ?_)
        refine K105g s58_0 g105 (Eq.trans (hj.trans (by unfold f_C_shareBit_58; first | with_reducible exact (if_neg e1_108).trans (if_pos e2_108) | exact (if_neg e1_108).trans (if_pos e2_108))) (congrArg (fun g105 => f_C_shareBit_105g z0 z1 s58_0 g105) eg105)) H locs ?_ ?_ hS ls (lv_sub hl [0, 1, 3] rfl)
        · with_reducible exact hP
        · with_reducible exact hD
  have K57 : ∀ (hj : f_C_shareBit z0 z1 = f_C_shareBit_57 z0 z1) (H : Heap) (locs : List Loc) (hP : va_P (dC, dI) classes [(h0, .inr (0, [.long (z0.1), .long (z0.2.1), .long (z0.2.2.1), .long (z0.2.2.2.1), .long (z0.2.2.2.2.1), .long (z0.2.2.2.2.2.1), .int (bI z0.2.2.2.2.2.2)])), (h1, .inr (0, [.long (z1.1), .long (z1.2.1), .long (z1.2.2.1), .long (z1.2.2.2.1), .long (z1.2.2.2.2.1), .long (z1.2.2.2.2.2.1), .int (bI z1.2.2.2.2.2.2)]))] H) (hD : va_D A [(h0, .inr (0, [.long (z0.1), .long (z0.2.1), .long (z0.2.2.1), .long (z0.2.2.2.1), .long (z0.2.2.2.2.1), .long (z0.2.2.2.2.2.1), .int (bI z0.2.2.2.2.2.2)])), (h1, .inr (0, [.long (z1.1), .long (z1.2.1), .long (z1.2.2.1), .long (z1.2.2.2.1), .long (z1.2.2.2.2.1), .long (z1.2.2.2.2.2.1), .int (bI z1.2.2.2.2.2.2)]))]) (hS : va_S A s.heap H locs) (ls : Array Slot) (hl : lv_has ls 5 [(0, .ref h0), (1, .ref h1)]), W p l e (headSpec w_C_shareBit ({ frames := 1, cells := 0, slots := 0, locals := 24 } : Room)).room s m ([.ref h0, .ref h1] : List Value).toArray below meth c H locs 0 0 (MQ below (va_Qv (fun _ : Unit => True) (mB (dC, dI) A [(h0, vE (f_C_shareBit z0 z1).1), (h1, vE (f_C_shareBit z0 z1).2)]) A) ([.ref h0, .ref h1] : List Value).toArray s 0 0 A) (F0 m 57 ls []) := by
    intro hj H locs hP hD hS ls hl
    refine lv_iconst (v := 0) hx hb d_C_shareBit_57 (by decide) ?_
    refine K58 0 (hj.trans rfl) H locs ?_ ?_ hS ls (lv_sub hl [0, 1] rfl)
    · with_reducible exact hP
    · with_reducible exact hD
  refine lv_aload_n hx hb d_C_shareBit_0 rfl (lv_at hl 0 rfl) ?_
  refine va_get (D := (dC, dI)) (ci := 0) (v := .long (z0.1)) (C := R_V) (T := F_V) (N := 7) hx hb hts (fun w h => List.mem_cons_of_mem _ (uw_V w h)) hown hK hP 0 rfl rfl 0 (by decide) (hG (.fieldLink R_C 45 "ValueSieve$Value" "bits" "J") gw20) (fun _ h9 => h9) rfl d_C_shareBit_1 ?_
  refine lv_aload_n hx hb d_C_shareBit_4 rfl (lv_at hl 0 rfl) ?_
  refine va_get (D := (dC, dI)) (ci := 0) (v := .long (z0.2.1)) (C := R_V) (T := F_V) (N := 7) hx hb hts (fun w h => List.mem_cons_of_mem _ (uw_V w h)) hown hK hP 0 rfl rfl 1 (by decide) (hG (.fieldLink R_C 49 "ValueSieve$Value" "unknown" "J") gw23) (fun _ h9 => h9) rfl d_C_shareBit_5 ?_
  refine lv_lor hx hb d_C_shareBit_8 ?_
  refine lv_aload_n hx hb d_C_shareBit_9 rfl (lv_at hl 1 rfl) ?_
  refine va_get (D := (dC, dI)) (ci := 0) (v := .long (z1.1)) (C := R_V) (T := F_V) (N := 7) hx hb hts (fun w h => List.mem_cons_of_mem _ (uw_V w h)) hown hK hP 1 rfl rfl 0 (by decide) (hG (.fieldLink R_C 45 "ValueSieve$Value" "bits" "J") gw20) (fun _ h9 => h9) rfl d_C_shareBit_10 ?_
  refine lv_aload_n hx hb d_C_shareBit_13 rfl (lv_at hl 1 rfl) ?_
  refine va_get (D := (dC, dI)) (ci := 0) (v := .long (z1.2.1)) (C := R_V) (T := F_V) (N := 7) hx hb hts (fun w h => List.mem_cons_of_mem _ (uw_V w h)) hown hK hP 1 rfl rfl 1 (by decide) (hG (.fieldLink R_C 49 "ValueSieve$Value" "unknown" "J") gw23) (fun _ h9 => h9) rfl d_C_shareBit_14 ?_
  refine lv_lor hx hb d_C_shareBit_17 ?_
  refine lv_land hx hb d_C_shareBit_18 ?_
  refine lv_lconst (v := 0) hx hb d_C_shareBit_19 (by decide) ?_
  refine wl_ne (tgt := 35) hx hb d_C_shareBit_20 d_C_shareBit_21 (by decide) (fun e1_35 => ?_) (fun e1_35 => ?_)
  · refine lv_aload_n hx hb d_C_shareBit_35 rfl (lv_at hl 0 rfl) ?_
    refine rc_i (W.runV (As := []) (rest := []) ⟨hx, hb, hml, hown, hts⟩ (c_V_isSingle l dC dI h0 z0) (cwV 0 hts (gV gw321 gw252 gw253 gw1 gw254) rfl rfl rfl (by decide +kernel) ⟨(Nat.le_of_ble_eq_true rfl), (Nat.le_of_ble_eq_true rfl)⟩) ⟨blr, va_recv hK hP (ci := 0) (q0 := 0) rfl rfl, fun U hU hW => ⟨rfl, by rw [hU]; exact hP.sub [0] rfl, va_K.moved hW.alike hK⟩⟩ rfl rfl hl.1 rfl (lv_room (Nat.le_of_ble_eq_true rfl)) d_C_shareBit_36 ⟨Nat.zero_le _, Nat.zero_le _⟩) ?_
    refine lv_if_eq (tgt := 57) hx hb d_C_shareBit_39 (by decide) (fun e2_57 => ?_) (fun e2_57 => ?_)
    · refine K57 (by unfold f_C_shareBit; first | with_reducible exact (if_neg e1_35).trans (if_pos e2_57) | exact (if_neg e1_35).trans (if_pos e2_57)) s.heap [] ?_ ?_ hS ls (lv_sub hl [0, 1] rfl)
      · with_reducible exact hP
      · with_reducible exact hD
    · refine lv_aload_n hx hb d_C_shareBit_42 rfl (lv_at hl 0 rfl) ?_
      refine va_get (D := (dC, dI)) (ci := 0) (v := .long (z0.1)) (C := R_V) (T := F_V) (N := 7) hx hb hts (fun w h => List.mem_cons_of_mem _ (uw_V w h)) hown hK hP 0 rfl rfl 0 (by decide) (hG (.fieldLink R_C 45 "ValueSieve$Value" "bits" "J") gw20) (fun _ h9 => h9) rfl d_C_shareBit_43 ?_
      refine rc_i (W.runS (As := [.long (z0.1)]) (rest := []) ⟨hx, hb, hml, hown, hts⟩ (c_Lo_bitCount l z0.1) (va_cwS 1 hts (gS gw342 gw214 gw5 gw215) rfl rfl rfl (by decide +kernel) ⟨(Nat.le_of_ble_eq_true rfl), (Nat.le_of_ble_eq_true rfl)⟩) ⟨bl0, fun U hU hW => ⟨rfl, trivial⟩⟩ rfl rfl hl.1 rfl (lv_room (Nat.le_of_ble_eq_true rfl)) d_C_shareBit_46 ⟨Nat.zero_le _, Nat.zero_le _⟩) ?_
      refine lv_iconst (v := 1) hx hb d_C_shareBit_49 (by decide) ?_
      refine lv_icmp_ne (tgt := 57) hx hb d_C_shareBit_50 (by decide) (fun e3_57 => ?_) (fun e3_57 => ?_)
      · refine K57 (by unfold f_C_shareBit; first | with_reducible exact (if_neg e1_35).trans ((if_neg e2_57).trans (if_neg e3_57)) | exact (if_neg e1_35).trans ((if_neg e2_57).trans (if_neg e3_57))) s.heap [] ?_ ?_ hS ls (lv_sub hl [0, 1] rfl)
        · with_reducible exact hP
        · with_reducible exact hD
      · refine lv_iconst (v := 1) hx hb d_C_shareBit_53 (by decide) ?_
        refine lv_goto (tgt := 58) hx hb d_C_shareBit_54 (by decide) ?_
        refine K58 1 (by unfold f_C_shareBit; first | with_reducible exact (if_neg e1_35).trans ((if_neg e2_57).trans (if_pos e3_57)) | exact (if_neg e1_35).trans ((if_neg e2_57).trans (if_pos e3_57))) s.heap [] ?_ ?_ hS ls (lv_sub hl [0, 1] rfl)
        · with_reducible exact hP
        · with_reducible exact hD
  · refine lv_aload_n hx hb d_C_shareBit_24 rfl (lv_at hl 0 rfl) ?_
    refine lv_iconst (v := 1) hx hb d_C_shareBit_25 (by decide) ?_
    refine va_put (D := (dC, dI)) (ci := 0) (v := .int (bI true)) (ty := .boolean) (C := R_V) (T := F_V) (N := 7) hx hb hts (fun w h => List.mem_cons_of_mem _ (uw_V w h)) t_V t_V_ok n_V hown hK hP hD hS 0 rfl rfl 6 (by decide) (hG (.fieldLink R_C 54 "ValueSieve$Value" "nothing" "Z") gw42) (fun _ h9 => h9) rfl (by decide +kernel) (bI_n true) (bI_f true) (Nat.le_of_ble_eq_true rfl) d_C_shareBit_26 (fun H locs hP hD hS => ?_)
    have hP : va_P (dC, dI) classes [(h0, .inr (0, [.long (z0.1), .long (z0.2.1), .long (z0.2.2.1), .long (z0.2.2.2.1), .long (z0.2.2.2.2.1), .long (z0.2.2.2.2.2.1), .int (bI true)])), (h1, .inr (0, [.long (z1.1), .long (z1.2.1), .long (z1.2.2.1), .long (z1.2.2.2.1), .long (z1.2.2.2.2.1), .long (z1.2.2.2.2.2.1), .int (bI z1.2.2.2.2.2.2)]))] H := hP
    have hD : va_D A [(h0, .inr (0, [.long (z0.1), .long (z0.2.1), .long (z0.2.2.1), .long (z0.2.2.2.1), .long (z0.2.2.2.2.1), .long (z0.2.2.2.2.2.1), .int (bI true)])), (h1, .inr (0, [.long (z1.1), .long (z1.2.1), .long (z1.2.2.1), .long (z1.2.2.2.1), .long (z1.2.2.2.2.1), .long (z1.2.2.2.2.2.1), .int (bI z1.2.2.2.2.2.2)]))] := hD
    refine lv_aload_n hx hb d_C_shareBit_29 rfl (lv_at hl 1 rfl) ?_
    refine lv_iconst (v := 1) hx hb d_C_shareBit_30 (by decide) ?_
    refine va_put (D := (dC, dI)) (ci := 0) (v := .int (bI true)) (ty := .boolean) (C := R_V) (T := F_V) (N := 7) hx hb hts (fun w h => List.mem_cons_of_mem _ (uw_V w h)) t_V t_V_ok n_V hown hK hP hD hS 1 rfl rfl 6 (by decide) (hG (.fieldLink R_C 54 "ValueSieve$Value" "nothing" "Z") gw42) (fun _ h9 => h9) rfl (by decide +kernel) (bI_n true) (bI_f true) (Nat.le_of_ble_eq_true rfl) d_C_shareBit_31 (fun H locs hP hD hS => ?_)
    have hP : va_P (dC, dI) classes [(h0, .inr (0, [.long (z0.1), .long (z0.2.1), .long (z0.2.2.1), .long (z0.2.2.2.1), .long (z0.2.2.2.2.1), .long (z0.2.2.2.2.2.1), .int (bI true)])), (h1, .inr (0, [.long (z1.1), .long (z1.2.1), .long (z1.2.2.1), .long (z1.2.2.2.1), .long (z1.2.2.2.2.1), .long (z1.2.2.2.2.2.1), .int (bI true)]))] H := hP
    have hD : va_D A [(h0, .inr (0, [.long (z0.1), .long (z0.2.1), .long (z0.2.2.1), .long (z0.2.2.2.1), .long (z0.2.2.2.2.1), .long (z0.2.2.2.2.2.1), .int (bI true)])), (h1, .inr (0, [.long (z1.1), .long (z1.2.1), .long (z1.2.2.1), .long (z1.2.2.2.1), .long (z1.2.2.2.2.1), .long (z1.2.2.2.2.2.1), .int (bI true)]))] := hD
    have fe : f_C_shareBit z0 z1 = ((z0.1, z0.2.1, z0.2.2.1, z0.2.2.2.1, z0.2.2.2.2.1, z0.2.2.2.2.2.1, true), (z1.1, z1.2.1, z1.2.2.1, z1.2.2.2.1, z1.2.2.2.2.1, z1.2.2.2.2.2.1, true)) := by unfold f_C_shareBit; first | with_reducible exact if_pos e1_35 | exact if_pos e1_35
    exact W.vret hx hb hr (fun t ht hW => ⟨⟨(), rfl, trivial, by rw [ht, fe]; (try simp only [vE_mk]); exact hP, by rw [fe]; (try simp only [vE_mk]); exact hD⟩, hS.F ht⟩) hS.2.2 d_C_shareBit_34
-- ValueSieve$Comparisons.shareNoBit
theorem d_C_shareNoBit_0 : decode b_C_shareNoBit 0 = .ok (.aload_n 0, 1) := by decide +kernel
theorem d_C_shareNoBit_1 : decode b_C_shareNoBit 1 = .ok (.getfield 45, 3) := by decide +kernel
theorem d_C_shareNoBit_4 : decode b_C_shareNoBit 4 = .ok (.aload_n 1, 1) := by decide +kernel
theorem d_C_shareNoBit_5 : decode b_C_shareNoBit 5 = .ok (.getfield 45, 3) := by decide +kernel
theorem d_C_shareNoBit_8 : decode b_C_shareNoBit 8 = .ok (.land, 1) := by decide +kernel
theorem d_C_shareNoBit_9 : decode b_C_shareNoBit 9 = .ok (.lconst 0, 1) := by decide +kernel
theorem d_C_shareNoBit_10 : decode b_C_shareNoBit 10 = .ok (.lcmp, 1) := by decide +kernel
theorem d_C_shareNoBit_11 : decode b_C_shareNoBit 11 = .ok (.ifCond .eq 14, 3) := by decide +kernel
theorem d_C_shareNoBit_14 : decode b_C_shareNoBit 14 = .ok (.aload_n 0, 1) := by decide +kernel
theorem d_C_shareNoBit_15 : decode b_C_shareNoBit 15 = .ok (.iconst 1, 1) := by decide +kernel
theorem d_C_shareNoBit_16 : decode b_C_shareNoBit 16 = .ok (.putfield 54, 3) := by decide +kernel
theorem d_C_shareNoBit_19 : decode b_C_shareNoBit 19 = .ok (.aload_n 1, 1) := by decide +kernel
theorem d_C_shareNoBit_20 : decode b_C_shareNoBit 20 = .ok (.iconst 1, 1) := by decide +kernel
theorem d_C_shareNoBit_21 : decode b_C_shareNoBit 21 = .ok (.putfield 54, 3) := by decide +kernel
theorem d_C_shareNoBit_24 : decode b_C_shareNoBit 24 = .ok (.return_, 1) := by decide +kernel
theorem d_C_shareNoBit_25 : decode b_C_shareNoBit 25 = .ok (.aload_n 0, 1) := by decide +kernel
theorem d_C_shareNoBit_26 : decode b_C_shareNoBit 26 = .ok (.invokevirtual 99, 3) := by decide +kernel
theorem d_C_shareNoBit_29 : decode b_C_shareNoBit 29 = .ok (.istore_n 2, 1) := by decide +kernel
theorem d_C_shareNoBit_30 : decode b_C_shareNoBit 30 = .ok (.aload_n 1, 1) := by decide +kernel
theorem d_C_shareNoBit_31 : decode b_C_shareNoBit 31 = .ok (.invokevirtual 99, 3) := by decide +kernel
theorem d_C_shareNoBit_34 : decode b_C_shareNoBit 34 = .ok (.ifCond .eq 24, 3) := by decide +kernel
theorem d_C_shareNoBit_37 : decode b_C_shareNoBit 37 = .ok (.aload_n 0, 1) := by decide +kernel
theorem d_C_shareNoBit_38 : decode b_C_shareNoBit 38 = .ok (.aload_n 0, 1) := by decide +kernel
theorem d_C_shareNoBit_39 : decode b_C_shareNoBit 39 = .ok (.getfield 45, 3) := by decide +kernel
theorem d_C_shareNoBit_42 : decode b_C_shareNoBit 42 = .ok (.aload_n 0, 1) := by decide +kernel
theorem d_C_shareNoBit_43 : decode b_C_shareNoBit 43 = .ok (.getfield 49, 3) := by decide +kernel
theorem d_C_shareNoBit_46 : decode b_C_shareNoBit 46 = .ok (.aload_n 1, 1) := by decide +kernel
theorem d_C_shareNoBit_47 : decode b_C_shareNoBit 47 = .ok (.getfield 45, 3) := by decide +kernel
theorem d_C_shareNoBit_50 : decode b_C_shareNoBit 50 = .ok (.ldc2_w 52, 3) := by decide +kernel
theorem d_C_shareNoBit_53 : decode b_C_shareNoBit 53 = .ok (.lxor, 1) := by decide +kernel
theorem d_C_shareNoBit_54 : decode b_C_shareNoBit 54 = .ok (.land, 1) := by decide +kernel
theorem d_C_shareNoBit_55 : decode b_C_shareNoBit 55 = .ok (.invokevirtual 58, 3) := by decide +kernel
theorem d_C_shareNoBit_58 : decode b_C_shareNoBit 58 = .ok (.iload_n 2, 1) := by decide +kernel
theorem d_C_shareNoBit_59 : decode b_C_shareNoBit 59 = .ok (.ifCond .eq 24, 3) := by decide +kernel
theorem d_C_shareNoBit_62 : decode b_C_shareNoBit 62 = .ok (.aload_n 1, 1) := by decide +kernel
theorem d_C_shareNoBit_63 : decode b_C_shareNoBit 63 = .ok (.aload_n 1, 1) := by decide +kernel
theorem d_C_shareNoBit_64 : decode b_C_shareNoBit 64 = .ok (.getfield 45, 3) := by decide +kernel
theorem d_C_shareNoBit_67 : decode b_C_shareNoBit 67 = .ok (.aload_n 1, 1) := by decide +kernel
theorem d_C_shareNoBit_68 : decode b_C_shareNoBit 68 = .ok (.getfield 49, 3) := by decide +kernel
theorem d_C_shareNoBit_71 : decode b_C_shareNoBit 71 = .ok (.aload_n 0, 1) := by decide +kernel
theorem d_C_shareNoBit_72 : decode b_C_shareNoBit 72 = .ok (.getfield 45, 3) := by decide +kernel
theorem d_C_shareNoBit_75 : decode b_C_shareNoBit 75 = .ok (.ldc2_w 52, 3) := by decide +kernel
theorem d_C_shareNoBit_78 : decode b_C_shareNoBit 78 = .ok (.lxor, 1) := by decide +kernel
theorem d_C_shareNoBit_79 : decode b_C_shareNoBit 79 = .ok (.land, 1) := by decide +kernel
theorem d_C_shareNoBit_80 : decode b_C_shareNoBit 80 = .ok (.invokevirtual 58, 3) := by decide +kernel
theorem d_C_shareNoBit_83 : decode b_C_shareNoBit 83 = .ok (.return_, 1) := by decide +kernel
def f_C_shareNoBit_80g (z0 : VV) (z1 : VV) (w80g_0_0 : Int64) (w80g_0_1 : Int64) (w80g_0_2 : Int64) (w80g_0_3 : Int64) (w80g_0_4 : Int64) (w80g_0_5 : Int64) (w80g_0_6 : Bool) (g80 : VV) : VV × VV := ((w80g_0_0, w80g_0_1, w80g_0_2, w80g_0_3, w80g_0_4, w80g_0_5, w80g_0_6), g80)
def f_C_shareNoBit_58 (z0 : VV) (z1 : VV) (v29 : Int32) (w58_0_0 : Int64) (w58_0_1 : Int64) (w58_0_2 : Int64) (w58_0_3 : Int64) (w58_0_4 : Int64) (w58_0_5 : Int64) (w58_0_6 : Bool) : VV × VV := (if v29 = 0 then ((w58_0_0, w58_0_1, w58_0_2, w58_0_3, w58_0_4, w58_0_5, w58_0_6), z1) else f_C_shareNoBit_80g z0 z1 w58_0_0 w58_0_1 w58_0_2 w58_0_3 w58_0_4 w58_0_5 w58_0_6 (f_V_sayBits z1 z1.1 (z1.2.1 &&& (w58_0_0 ^^^ (-1 : Int64)))))
def f_C_shareNoBit_55g (z0 : VV) (z1 : VV) (v29 : Int32) (g55 : VV) : VV × VV := f_C_shareNoBit_58 z0 z1 v29 g55.1 g55.2.1 g55.2.2.1 g55.2.2.2.1 g55.2.2.2.2.1 g55.2.2.2.2.2.1 g55.2.2.2.2.2.2
def f_C_shareNoBit_29v (z0 : VV) (z1 : VV) (v29 : Int32) : VV × VV := (if (f_V_isSingle z1) = 0 then f_C_shareNoBit_58 z0 z1 v29 z0.1 z0.2.1 z0.2.2.1 z0.2.2.2.1 z0.2.2.2.2.1 z0.2.2.2.2.2.1 z0.2.2.2.2.2.2 else f_C_shareNoBit_55g z0 z1 v29 (f_V_sayBits z0 z0.1 (z0.2.1 &&& (z1.1 ^^^ (-1 : Int64)))))
def f_C_shareNoBit (z0 : VV) (z1 : VV) : VV × VV := (if (z0.1 &&& z1.1) = 0 then f_C_shareNoBit_29v z0 z1 (f_V_isSingle z0) else ((z0.1, z0.2.1, z0.2.2.1, z0.2.2.2.1, z0.2.2.2.2.1, z0.2.2.2.2.2.1, true), (z1.1, z1.2.1, z1.2.2.1, z1.2.2.2.1, z1.2.2.2.2.1, z1.2.2.2.2.2.1, true)))
set_option maxRecDepth 100000 in
set_option maxHeartbeats 4000000 in
theorem c_C_shareNoBit (l : Launch) (dC : Nat → ClassId) (dI : Nat → Nat → Nat) (h0 : Nat) (h1 : Nat) (sz : Nat) (z0 : VV) (z1 : VV) : Met l y_C_shareNoBit w_C_shareNoBit ({ frames := 1, cells := 0, slots := 0, locals := 24 } : Room) (va_Pc [.ref h0, .ref h1] (mP (dC, dI) [(h0, vE z0), (h1, vE z1)] sz)) (va_Qv (fun _ : Unit => True) (mB (dC, dI) (va_A [(h0, vE z0), (h1, vE z1)] sz) [(h0, vE (f_C_shareNoBit z0 z1).1), (h1, vE (f_C_shareNoBit z0 z1).2)]) (va_A [(h0, vE z0), (h1, vE z1)] sz)) 0 0 (va_A [(h0, vE z0), (h1, vE z1)] sz) := by
  refine Met.ofW (cc := b_C_shareNoBit) (maxL := 3) (ret := none) (by decide) rfl ?_
  intro p e s m args below meth c s₁ B hml hv
  obtain ⟨rfl, hsz, hP, hK, hD0⟩ := hv
  have hx := B.exec
  have hb := B.bytes
  have hr := B.returns
  have hts := atoms_spec (ws := w_C_shareNoBit) B.pre
  have hG : ∀ w ∈ gG, w.before _ s = true := fun w h => hts w (List.mem_cons_of_mem _ h)
  have hown : s.vm.findClass R_C = some m.cls := findClass_of_methodNamed B.named
  have hlocks := B.notSynchronized
  subst hsz
  have hD := hD0.self (sz := s.heap.size)
  generalize hAe : va_A [(h0, vE z0), (h1, vE z1)] s.heap.size = A at hD ⊢
  have hA : ∀ q : Nat, s.heap.size ≤ q → A q := fun q h => by rw [← hAe]; exact Or.inr h
  have hS : va_S A s.heap s.heap [] := va_S.rf
  have hP : va_P (dC, dI) classes [(h0, .inr (0, [.long (z0.1), .long (z0.2.1), .long (z0.2.2.1), .long (z0.2.2.2.1), .long (z0.2.2.2.2.1), .long (z0.2.2.2.2.2.1), .int (bI z0.2.2.2.2.2.2)])), (h1, .inr (0, [.long (z1.1), .long (z1.2.1), .long (z1.2.2.1), .long (z1.2.2.2.1), .long (z1.2.2.2.2.1), .long (z1.2.2.2.2.2.1), .int (bI z1.2.2.2.2.2.2)]))] s.heap := hP
  have hD : va_D A [(h0, .inr (0, [.long (z0.1), .long (z0.2.1), .long (z0.2.2.1), .long (z0.2.2.2.1), .long (z0.2.2.2.2.1), .long (z0.2.2.2.2.2.1), .int (bI z0.2.2.2.2.2.2)])), (h1, .inr (0, [.long (z1.1), .long (z1.2.1), .long (z1.2.2.1), .long (z1.2.2.2.1), .long (z1.2.2.2.2.1), .long (z1.2.2.2.2.2.1), .int (bI z1.2.2.2.2.2.2)]))] := hD
  have hl := lv_entry ([.ref h0, .ref h1]) (n := 3) (Nat.le_of_ble_eq_true rfl)
  rw [lg_entry_eq]
  generalize (lg_sl ([.ref h0, .ref h1]) ++ List.replicate (3 - (lg_sl ([.ref h0, .ref h1])).length) Slot.unset).toArray = ls at hl ⊢
  have hl : lv_has ls 3 [(0, .ref h0), (1, .ref h1)] := hl
  have K80g : ∀ (w80g_0_0 : Int64) (w80g_0_1 : Int64) (w80g_0_2 : Int64) (w80g_0_3 : Int64) (w80g_0_4 : Int64) (w80g_0_5 : Int64) (w80g_0_6 : Bool) (g80 : VV) (hj : f_C_shareNoBit z0 z1 = f_C_shareNoBit_80g z0 z1 w80g_0_0 w80g_0_1 w80g_0_2 w80g_0_3 w80g_0_4 w80g_0_5 w80g_0_6 g80) (H : Heap) (locs : List Loc) (hP : va_P (dC, dI) classes [(h0, .inr (0, [.long (w80g_0_0), .long (w80g_0_1), .long (w80g_0_2), .long (w80g_0_3), .long (w80g_0_4), .long (w80g_0_5), .int (bI w80g_0_6)])), (h1, .inr (0, [.long (g80.1), .long (g80.2.1), .long (g80.2.2.1), .long (g80.2.2.2.1), .long (g80.2.2.2.2.1), .long (g80.2.2.2.2.2.1), .int (bI g80.2.2.2.2.2.2)]))] H) (hD : va_D A [(h0, .inr (0, [.long (w80g_0_0), .long (w80g_0_1), .long (w80g_0_2), .long (w80g_0_3), .long (w80g_0_4), .long (w80g_0_5), .int (bI w80g_0_6)])), (h1, .inr (0, [.long (g80.1), .long (g80.2.1), .long (g80.2.2.1), .long (g80.2.2.2.1), .long (g80.2.2.2.2.1), .long (g80.2.2.2.2.2.1), .int (bI g80.2.2.2.2.2.2)]))]) (hS : va_S A s.heap H locs) (ls : Array Slot) (hl : lv_has ls 3 []), W p l e (headSpec w_C_shareNoBit ({ frames := 1, cells := 0, slots := 0, locals := 24 } : Room)).room s m ([.ref h0, .ref h1] : List Value).toArray below meth c H locs 0 0 (MQ below (va_Qv (fun _ : Unit => True) (mB (dC, dI) A [(h0, vE (f_C_shareNoBit z0 z1).1), (h1, vE (f_C_shareNoBit z0 z1).2)]) A) ([.ref h0, .ref h1] : List Value).toArray s 0 0 A) (F0 m 83 ls []) := by
    intro w80g_0_0 w80g_0_1 w80g_0_2 w80g_0_3 w80g_0_4 w80g_0_5 w80g_0_6 g80 hj H locs hP hD hS ls hl
    have fe : f_C_shareNoBit z0 z1 = ((w80g_0_0, w80g_0_1, w80g_0_2, w80g_0_3, w80g_0_4, w80g_0_5, w80g_0_6), g80) := hj.trans rfl
    exact W.vret hx hb hr (fun t ht hW => ⟨⟨(), rfl, trivial, by rw [ht, fe]; (try simp only [vE_mk]); exact hP, by rw [fe]; (try simp only [vE_mk]); exact hD⟩, hS.F ht⟩) hS.2.2 d_C_shareNoBit_83
  have K58 : ∀ (v29 : Int32) (w58_0_0 : Int64) (w58_0_1 : Int64) (w58_0_2 : Int64) (w58_0_3 : Int64) (w58_0_4 : Int64) (w58_0_5 : Int64) (w58_0_6 : Bool) (hj : f_C_shareNoBit z0 z1 = f_C_shareNoBit_58 z0 z1 v29 w58_0_0 w58_0_1 w58_0_2 w58_0_3 w58_0_4 w58_0_5 w58_0_6) (H : Heap) (locs : List Loc) (hP : va_P (dC, dI) classes [(h0, .inr (0, [.long (w58_0_0), .long (w58_0_1), .long (w58_0_2), .long (w58_0_3), .long (w58_0_4), .long (w58_0_5), .int (bI w58_0_6)])), (h1, .inr (0, [.long (z1.1), .long (z1.2.1), .long (z1.2.2.1), .long (z1.2.2.2.1), .long (z1.2.2.2.2.1), .long (z1.2.2.2.2.2.1), .int (bI z1.2.2.2.2.2.2)]))] H) (hD : va_D A [(h0, .inr (0, [.long (w58_0_0), .long (w58_0_1), .long (w58_0_2), .long (w58_0_3), .long (w58_0_4), .long (w58_0_5), .int (bI w58_0_6)])), (h1, .inr (0, [.long (z1.1), .long (z1.2.1), .long (z1.2.2.1), .long (z1.2.2.2.1), .long (z1.2.2.2.2.1), .long (z1.2.2.2.2.2.1), .int (bI z1.2.2.2.2.2.2)]))]) (hS : va_S A s.heap H locs) (ls : Array Slot) (hl : lv_has ls 3 [(2, .int (v29)), (0, .ref h0), (1, .ref h1)]), W p l e (headSpec w_C_shareNoBit ({ frames := 1, cells := 0, slots := 0, locals := 24 } : Room)).room s m ([.ref h0, .ref h1] : List Value).toArray below meth c H locs 0 0 (MQ below (va_Qv (fun _ : Unit => True) (mB (dC, dI) A [(h0, vE (f_C_shareNoBit z0 z1).1), (h1, vE (f_C_shareNoBit z0 z1).2)]) A) ([.ref h0, .ref h1] : List Value).toArray s 0 0 A) (F0 m 58 ls []) := by
    intro v29 w58_0_0 w58_0_1 w58_0_2 w58_0_3 w58_0_4 w58_0_5 w58_0_6 hj H locs hP hD hS ls hl
    refine lv_iload_n hx hb d_C_shareNoBit_58 rfl (lv_at hl 0 rfl) ?_
    refine lv_if_eq (tgt := 83) hx hb d_C_shareNoBit_59 (by decide) (fun e1_83 => ?_) (fun e1_83 => ?_)
    · have fe : f_C_shareNoBit z0 z1 = ((w58_0_0, w58_0_1, w58_0_2, w58_0_3, w58_0_4, w58_0_5, w58_0_6), z1) := hj.trans (by unfold f_C_shareNoBit_58; first | with_reducible exact if_pos e1_83 | exact if_pos e1_83)
      exact W.vret hx hb hr (fun t ht hW => ⟨⟨(), rfl, trivial, by rw [ht, fe]; (try simp only [vE_mk]); exact hP, by rw [fe]; (try simp only [vE_mk]); exact hD⟩, hS.F ht⟩) hS.2.2 d_C_shareNoBit_83
    · refine lv_aload_n hx hb d_C_shareNoBit_62 rfl (lv_at hl 2 rfl) ?_
      refine lv_aload_n hx hb d_C_shareNoBit_63 rfl (lv_at hl 2 rfl) ?_
      refine va_get (D := (dC, dI)) (ci := 0) (v := .long (z1.1)) (C := R_V) (T := F_V) (N := 7) hx hb hts (fun w h => List.mem_cons_of_mem _ (uw_V w h)) hown hK hP 1 rfl rfl 0 (by decide) (hG (.fieldLink R_C 45 "ValueSieve$Value" "bits" "J") gw20) (fun _ h9 => h9) rfl d_C_shareNoBit_64 ?_
      refine lv_aload_n hx hb d_C_shareNoBit_67 rfl (lv_at hl 2 rfl) ?_
      refine va_get (D := (dC, dI)) (ci := 0) (v := .long (z1.2.1)) (C := R_V) (T := F_V) (N := 7) hx hb hts (fun w h => List.mem_cons_of_mem _ (uw_V w h)) hown hK hP 1 rfl rfl 1 (by decide) (hG (.fieldLink R_C 49 "ValueSieve$Value" "unknown" "J") gw23) (fun _ h9 => h9) rfl d_C_shareNoBit_68 ?_
      refine lv_aload_n hx hb d_C_shareNoBit_71 rfl (lv_at hl 1 rfl) ?_
      refine va_get (D := (dC, dI)) (ci := 0) (v := .long (w58_0_0)) (C := R_V) (T := F_V) (N := 7) hx hb hts (fun w h => List.mem_cons_of_mem _ (uw_V w h)) hown hK hP 0 rfl rfl 0 (by decide) (hG (.fieldLink R_C 45 "ValueSieve$Value" "bits" "J") gw20) (fun _ h9 => h9) rfl d_C_shareNoBit_72 ?_
      refine lv_ldc2 (v := -1) hx hb hown (hG (.constantLong R_C 52 (-1)) gw309) d_C_shareNoBit_75 ?_
      refine lv_lxor hx hb d_C_shareNoBit_78 ?_
      refine lv_land hx hb d_C_shareNoBit_79 ?_
      refine mg_v (F := f_V_sayBits z1 z1.1 (z1.2.1 &&& (w58_0_0 ^^^ (-1 : Int64)))) (wc := [(h1, vE z1)]) (w1 := fun g80 => [(h1, vE g80)]) (wr := [(h0, .inr (0, [.long (w58_0_0), .long (w58_0_1), .long (w58_0_2), .long (w58_0_3), .long (w58_0_4), .long (w58_0_5), .int (bI w58_0_6)]))]) (ws' := fun g80 => [(h0, .inr (0, [.long (w58_0_0), .long (w58_0_1), .long (w58_0_2), .long (w58_0_3), .long (w58_0_4), .long (w58_0_5), .int (bI w58_0_6)])), (h1, .inr (0, [.long (g80.1), .long (g80.2.1), .long (g80.2.2.1), .long (g80.2.2.2.1), .long (g80.2.2.2.2.1), .long (g80.2.2.2.2.2.1), .int (bI g80.2.2.2.2.2.2)]))]) (va_runV (As := [.long (z1.1), .long (z1.2.1 &&& (w58_0_0 ^^^ (-1 : Int64)))]) (rest := []) ⟨hx, hb, hml, hown, hts⟩ (c_V_sayBits l dC dI h1 H.size z1 z1.1 (z1.2.1 &&& (w58_0_0 ^^^ (-1 : Int64)))) (cwV 2 hts (gV gw310 gw80 gw81 gw1 gw82) rfl rfl rfl (by decide +kernel) ⟨(Nat.le_of_ble_eq_true rfl), (Nat.le_of_ble_eq_true rfl)⟩) ⟨blm, va_recv hK hP (ci := 0) (q0 := 1) rfl rfl, fun U hU hW => ⟨rfl, by rw [hU], by rw [hU]; exact hP.sub [1] rfl, va_K.moved hW.alike hK, (hD.sub [1] (by decide) rfl).weaken (fun _ _ _ _ => trivial)⟩⟩ rfl rfl hl.1 rfl (lv_room (Nat.le_of_ble_eq_true rfl)) d_C_shareNoBit_80 ⟨Nat.zero_le _, Nat.zero_le _⟩) hP hD hS hA [1] [0] [0, 1] rfl rfl (by decide) (by decide) (fun _ => rfl) (by decide) (fun g80 eg80 H locs hP hD hS => ?_)
      refine K80g w58_0_0 w58_0_1 w58_0_2 w58_0_3 w58_0_4 w58_0_5 w58_0_6 g80 (Eq.trans (hj.trans (by unfold f_C_shareNoBit_58; first | with_reducible exact if_neg e1_83 | exact if_neg e1_83)) (congrArg (fun g80 => f_C_shareNoBit_80g z0 z1 w58_0_0 w58_0_1 w58_0_2 w58_0_3 w58_0_4 w58_0_5 w58_0_6 g80) eg80)) H locs ?_ ?_ hS ls (lv_sub hl [] rfl)
      · with_reducible exact hP
      · with_reducible exact hD
  have K55g : ∀ (v29 : Int32) (g55 : VV) (hj : f_C_shareNoBit z0 z1 = f_C_shareNoBit_55g z0 z1 v29 g55) (H : Heap) (locs : List Loc) (hP : va_P (dC, dI) classes [(h0, .inr (0, [.long (g55.1), .long (g55.2.1), .long (g55.2.2.1), .long (g55.2.2.2.1), .long (g55.2.2.2.2.1), .long (g55.2.2.2.2.2.1), .int (bI g55.2.2.2.2.2.2)])), (h1, .inr (0, [.long (z1.1), .long (z1.2.1), .long (z1.2.2.1), .long (z1.2.2.2.1), .long (z1.2.2.2.2.1), .long (z1.2.2.2.2.2.1), .int (bI z1.2.2.2.2.2.2)]))] H) (hD : va_D A [(h0, .inr (0, [.long (g55.1), .long (g55.2.1), .long (g55.2.2.1), .long (g55.2.2.2.1), .long (g55.2.2.2.2.1), .long (g55.2.2.2.2.2.1), .int (bI g55.2.2.2.2.2.2)])), (h1, .inr (0, [.long (z1.1), .long (z1.2.1), .long (z1.2.2.1), .long (z1.2.2.2.1), .long (z1.2.2.2.2.1), .long (z1.2.2.2.2.2.1), .int (bI z1.2.2.2.2.2.2)]))]) (hS : va_S A s.heap H locs) (ls : Array Slot) (hl : lv_has ls 3 [(2, .int (v29)), (0, .ref h0), (1, .ref h1)]), W p l e (headSpec w_C_shareNoBit ({ frames := 1, cells := 0, slots := 0, locals := 24 } : Room)).room s m ([.ref h0, .ref h1] : List Value).toArray below meth c H locs 0 0 (MQ below (va_Qv (fun _ : Unit => True) (mB (dC, dI) A [(h0, vE (f_C_shareNoBit z0 z1).1), (h1, vE (f_C_shareNoBit z0 z1).2)]) A) ([.ref h0, .ref h1] : List Value).toArray s 0 0 A) (F0 m 58 ls []) := by
    intro v29 g55 hj H locs hP hD hS ls hl
    refine K58 v29 g55.1 g55.2.1 g55.2.2.1 g55.2.2.2.1 g55.2.2.2.2.1 g55.2.2.2.2.2.1 g55.2.2.2.2.2.2 (hj.trans rfl) H locs ?_ ?_ hS ls (lv_sub hl [0, 1, 2] rfl)
    · with_reducible exact hP
    · with_reducible exact hD
  have K29v : ∀ (v29 : Int32) (hj : f_C_shareNoBit z0 z1 = f_C_shareNoBit_29v z0 z1 v29) (H : Heap) (locs : List Loc) (hP : va_P (dC, dI) classes [(h0, .inr (0, [.long (z0.1), .long (z0.2.1), .long (z0.2.2.1), .long (z0.2.2.2.1), .long (z0.2.2.2.2.1), .long (z0.2.2.2.2.2.1), .int (bI z0.2.2.2.2.2.2)])), (h1, .inr (0, [.long (z1.1), .long (z1.2.1), .long (z1.2.2.1), .long (z1.2.2.2.1), .long (z1.2.2.2.2.1), .long (z1.2.2.2.2.2.1), .int (bI z1.2.2.2.2.2.2)]))] H) (hD : va_D A [(h0, .inr (0, [.long (z0.1), .long (z0.2.1), .long (z0.2.2.1), .long (z0.2.2.2.1), .long (z0.2.2.2.2.1), .long (z0.2.2.2.2.2.1), .int (bI z0.2.2.2.2.2.2)])), (h1, .inr (0, [.long (z1.1), .long (z1.2.1), .long (z1.2.2.1), .long (z1.2.2.2.1), .long (z1.2.2.2.2.1), .long (z1.2.2.2.2.2.1), .int (bI z1.2.2.2.2.2.2)]))]) (hS : va_S A s.heap H locs) (ls : Array Slot) (hl : lv_has ls 3 [(2, .int (v29)), (0, .ref h0), (1, .ref h1)]), W p l e (headSpec w_C_shareNoBit ({ frames := 1, cells := 0, slots := 0, locals := 24 } : Room)).room s m ([.ref h0, .ref h1] : List Value).toArray below meth c H locs 0 0 (MQ below (va_Qv (fun _ : Unit => True) (mB (dC, dI) A [(h0, vE (f_C_shareNoBit z0 z1).1), (h1, vE (f_C_shareNoBit z0 z1).2)]) A) ([.ref h0, .ref h1] : List Value).toArray s 0 0 A) (F0 m 30 ls []) := by
    intro v29 hj H locs hP hD hS ls hl
    refine lv_aload_n hx hb d_C_shareNoBit_30 rfl (lv_at hl 2 rfl) ?_
    refine rc_i (W.runV (As := []) (rest := []) ⟨hx, hb, hml, hown, hts⟩ (c_V_isSingle l dC dI h1 z1) (cwV 0 hts (gV gw321 gw252 gw253 gw1 gw254) rfl rfl rfl (by decide +kernel) ⟨(Nat.le_of_ble_eq_true rfl), (Nat.le_of_ble_eq_true rfl)⟩) ⟨blr, va_recv hK hP (ci := 0) (q0 := 1) rfl rfl, fun U hU hW => ⟨rfl, by rw [hU]; exact hP.sub [1] rfl, va_K.moved hW.alike hK⟩⟩ rfl rfl hl.1 rfl (lv_room (Nat.le_of_ble_eq_true rfl)) d_C_shareNoBit_31 ⟨Nat.zero_le _, Nat.zero_le _⟩) ?_
    refine lv_if_eq (tgt := 58) hx hb d_C_shareNoBit_34 (by decide) (fun e1_58 => ?_) (fun e1_58 => ?_)
    · refine K58 v29 z0.1 z0.2.1 z0.2.2.1 z0.2.2.2.1 z0.2.2.2.2.1 z0.2.2.2.2.2.1 z0.2.2.2.2.2.2 (hj.trans (by unfold f_C_shareNoBit_29v; first | with_reducible exact if_pos e1_58 | exact if_pos e1_58)) H locs ?_ ?_ hS ls (lv_sub hl [0, 1, 2] rfl)
      · with_reducible exact hP
      · with_reducible exact hD
    · refine lv_aload_n hx hb d_C_shareNoBit_37 rfl (lv_at hl 1 rfl) ?_
      refine lv_aload_n hx hb d_C_shareNoBit_38 rfl (lv_at hl 1 rfl) ?_
      refine va_get (D := (dC, dI)) (ci := 0) (v := .long (z0.1)) (C := R_V) (T := F_V) (N := 7) hx hb hts (fun w h => List.mem_cons_of_mem _ (uw_V w h)) hown hK hP 0 rfl rfl 0 (by decide) (hG (.fieldLink R_C 45 "ValueSieve$Value" "bits" "J") gw20) (fun _ h9 => h9) rfl d_C_shareNoBit_39 ?_
      refine lv_aload_n hx hb d_C_shareNoBit_42 rfl (lv_at hl 1 rfl) ?_
      refine va_get (D := (dC, dI)) (ci := 0) (v := .long (z0.2.1)) (C := R_V) (T := F_V) (N := 7) hx hb hts (fun w h => List.mem_cons_of_mem _ (uw_V w h)) hown hK hP 0 rfl rfl 1 (by decide) (hG (.fieldLink R_C 49 "ValueSieve$Value" "unknown" "J") gw23) (fun _ h9 => h9) rfl d_C_shareNoBit_43 ?_
      refine lv_aload_n hx hb d_C_shareNoBit_46 rfl (lv_at hl 2 rfl) ?_
      refine va_get (D := (dC, dI)) (ci := 0) (v := .long (z1.1)) (C := R_V) (T := F_V) (N := 7) hx hb hts (fun w h => List.mem_cons_of_mem _ (uw_V w h)) hown hK hP 1 rfl rfl 0 (by decide) (hG (.fieldLink R_C 45 "ValueSieve$Value" "bits" "J") gw20) (fun _ h9 => h9) rfl d_C_shareNoBit_47 ?_
      refine lv_ldc2 (v := -1) hx hb hown (hG (.constantLong R_C 52 (-1)) gw309) d_C_shareNoBit_50 ?_
      refine lv_lxor hx hb d_C_shareNoBit_53 ?_
      refine lv_land hx hb d_C_shareNoBit_54 ?_
      refine mg_v (F := f_V_sayBits z0 z0.1 (z0.2.1 &&& (z1.1 ^^^ (-1 : Int64)))) (wc := [(h0, vE z0)]) (w1 := fun g55 => [(h0, vE g55)]) (wr := [(h1, .inr (0, [.long (z1.1), .long (z1.2.1), .long (z1.2.2.1), .long (z1.2.2.2.1), .long (z1.2.2.2.2.1), .long (z1.2.2.2.2.2.1), .int (bI z1.2.2.2.2.2.2)]))]) (ws' := fun g55 => [(h0, .inr (0, [.long (g55.1), .long (g55.2.1), .long (g55.2.2.1), .long (g55.2.2.2.1), .long (g55.2.2.2.2.1), .long (g55.2.2.2.2.2.1), .int (bI g55.2.2.2.2.2.2)])), (h1, .inr (0, [.long (z1.1), .long (z1.2.1), .long (z1.2.2.1), .long (z1.2.2.2.1), .long (z1.2.2.2.2.1), .long (z1.2.2.2.2.2.1), .int (bI z1.2.2.2.2.2.2)]))]) (va_runV (As := [.long (z0.1), .long (z0.2.1 &&& (z1.1 ^^^ (-1 : Int64)))]) (rest := []) ⟨hx, hb, hml, hown, hts⟩ (c_V_sayBits l dC dI h0 H.size z0 z0.1 (z0.2.1 &&& (z1.1 ^^^ (-1 : Int64)))) (cwV 2 hts (gV gw310 gw80 gw81 gw1 gw82) rfl rfl rfl (by decide +kernel) ⟨(Nat.le_of_ble_eq_true rfl), (Nat.le_of_ble_eq_true rfl)⟩) ⟨blm, va_recv hK hP (ci := 0) (q0 := 0) rfl rfl, fun U hU hW => ⟨rfl, by rw [hU], by rw [hU]; exact hP.sub [0] rfl, va_K.moved hW.alike hK, (hD.sub [0] (by decide) rfl).weaken (fun _ _ _ _ => trivial)⟩⟩ rfl rfl hl.1 rfl (lv_room (Nat.le_of_ble_eq_true rfl)) d_C_shareNoBit_55 ⟨Nat.zero_le _, Nat.zero_le _⟩) hP hD hS hA [0] [1] [1, 0] rfl rfl (by decide) (by decide) (fun _ => rfl) (by decide) (fun g55 eg55 H locs hP hD hS => ?_)
      refine K55g v29 g55 (Eq.trans (hj.trans (by unfold f_C_shareNoBit_29v; first | with_reducible exact if_neg e1_58 | exact if_neg e1_58)) (congrArg (fun g55 => f_C_shareNoBit_55g z0 z1 v29 g55) eg55)) H locs ?_ ?_ hS ls (lv_sub hl [0, 1, 2] rfl)
      · with_reducible exact hP
      · with_reducible exact hD
  refine lv_aload_n hx hb d_C_shareNoBit_0 rfl (lv_at hl 0 rfl) ?_
  refine va_get (D := (dC, dI)) (ci := 0) (v := .long (z0.1)) (C := R_V) (T := F_V) (N := 7) hx hb hts (fun w h => List.mem_cons_of_mem _ (uw_V w h)) hown hK hP 0 rfl rfl 0 (by decide) (hG (.fieldLink R_C 45 "ValueSieve$Value" "bits" "J") gw20) (fun _ h9 => h9) rfl d_C_shareNoBit_1 ?_
  refine lv_aload_n hx hb d_C_shareNoBit_4 rfl (lv_at hl 1 rfl) ?_
  refine va_get (D := (dC, dI)) (ci := 0) (v := .long (z1.1)) (C := R_V) (T := F_V) (N := 7) hx hb hts (fun w h => List.mem_cons_of_mem _ (uw_V w h)) hown hK hP 1 rfl rfl 0 (by decide) (hG (.fieldLink R_C 45 "ValueSieve$Value" "bits" "J") gw20) (fun _ h9 => h9) rfl d_C_shareNoBit_5 ?_
  refine lv_land hx hb d_C_shareNoBit_8 ?_
  refine lv_lconst (v := 0) hx hb d_C_shareNoBit_9 (by decide) ?_
  refine wl_eq (tgt := 25) hx hb d_C_shareNoBit_10 d_C_shareNoBit_11 (by decide) (fun e1_25 => ?_) (fun e1_25 => ?_)
  · refine lv_aload_n hx hb d_C_shareNoBit_25 rfl (lv_at hl 0 rfl) ?_
    refine rc_i (W.runV (As := []) (rest := []) ⟨hx, hb, hml, hown, hts⟩ (c_V_isSingle l dC dI h0 z0) (cwV 0 hts (gV gw321 gw252 gw253 gw1 gw254) rfl rfl rfl (by decide +kernel) ⟨(Nat.le_of_ble_eq_true rfl), (Nat.le_of_ble_eq_true rfl)⟩) ⟨blr, va_recv hK hP (ci := 0) (q0 := 0) rfl rfl, fun U hU hW => ⟨rfl, by rw [hU]; exact hP.sub [0] rfl, va_K.moved hW.alike hK⟩⟩ rfl rfl hl.1 rfl (lv_room (Nat.le_of_ble_eq_true rfl)) d_C_shareNoBit_26 ⟨Nat.zero_le _, Nat.zero_le _⟩) ?_
    refine lv_topi (fun v29 ev29 => ?_)
    refine lv_istore_n (lv' := [(2, .int (v29)), (0, .ref h0), (1, .ref h1)]) hx hb d_C_shareNoBit_29 rfl hl (by decide) rfl (fun ls hl => ?_)
    refine K29v v29 (Eq.trans (by unfold f_C_shareNoBit; first | with_reducible exact if_pos e1_25 | exact if_pos e1_25) (congrArg (fun v29 => f_C_shareNoBit_29v z0 z1 v29) ev29.symm)) s.heap [] ?_ ?_ hS ls (lv_sub hl [0, 1, 2] rfl)
    · with_reducible exact hP
    · with_reducible exact hD
  · refine lv_aload_n hx hb d_C_shareNoBit_14 rfl (lv_at hl 0 rfl) ?_
    refine lv_iconst (v := 1) hx hb d_C_shareNoBit_15 (by decide) ?_
    refine va_put (D := (dC, dI)) (ci := 0) (v := .int (bI true)) (ty := .boolean) (C := R_V) (T := F_V) (N := 7) hx hb hts (fun w h => List.mem_cons_of_mem _ (uw_V w h)) t_V t_V_ok n_V hown hK hP hD hS 0 rfl rfl 6 (by decide) (hG (.fieldLink R_C 54 "ValueSieve$Value" "nothing" "Z") gw42) (fun _ h9 => h9) rfl (by decide +kernel) (bI_n true) (bI_f true) (Nat.le_of_ble_eq_true rfl) d_C_shareNoBit_16 (fun H locs hP hD hS => ?_)
    have hP : va_P (dC, dI) classes [(h0, .inr (0, [.long (z0.1), .long (z0.2.1), .long (z0.2.2.1), .long (z0.2.2.2.1), .long (z0.2.2.2.2.1), .long (z0.2.2.2.2.2.1), .int (bI true)])), (h1, .inr (0, [.long (z1.1), .long (z1.2.1), .long (z1.2.2.1), .long (z1.2.2.2.1), .long (z1.2.2.2.2.1), .long (z1.2.2.2.2.2.1), .int (bI z1.2.2.2.2.2.2)]))] H := hP
    have hD : va_D A [(h0, .inr (0, [.long (z0.1), .long (z0.2.1), .long (z0.2.2.1), .long (z0.2.2.2.1), .long (z0.2.2.2.2.1), .long (z0.2.2.2.2.2.1), .int (bI true)])), (h1, .inr (0, [.long (z1.1), .long (z1.2.1), .long (z1.2.2.1), .long (z1.2.2.2.1), .long (z1.2.2.2.2.1), .long (z1.2.2.2.2.2.1), .int (bI z1.2.2.2.2.2.2)]))] := hD
    refine lv_aload_n hx hb d_C_shareNoBit_19 rfl (lv_at hl 1 rfl) ?_
    refine lv_iconst (v := 1) hx hb d_C_shareNoBit_20 (by decide) ?_
    refine va_put (D := (dC, dI)) (ci := 0) (v := .int (bI true)) (ty := .boolean) (C := R_V) (T := F_V) (N := 7) hx hb hts (fun w h => List.mem_cons_of_mem _ (uw_V w h)) t_V t_V_ok n_V hown hK hP hD hS 1 rfl rfl 6 (by decide) (hG (.fieldLink R_C 54 "ValueSieve$Value" "nothing" "Z") gw42) (fun _ h9 => h9) rfl (by decide +kernel) (bI_n true) (bI_f true) (Nat.le_of_ble_eq_true rfl) d_C_shareNoBit_21 (fun H locs hP hD hS => ?_)
    have hP : va_P (dC, dI) classes [(h0, .inr (0, [.long (z0.1), .long (z0.2.1), .long (z0.2.2.1), .long (z0.2.2.2.1), .long (z0.2.2.2.2.1), .long (z0.2.2.2.2.2.1), .int (bI true)])), (h1, .inr (0, [.long (z1.1), .long (z1.2.1), .long (z1.2.2.1), .long (z1.2.2.2.1), .long (z1.2.2.2.2.1), .long (z1.2.2.2.2.2.1), .int (bI true)]))] H := hP
    have hD : va_D A [(h0, .inr (0, [.long (z0.1), .long (z0.2.1), .long (z0.2.2.1), .long (z0.2.2.2.1), .long (z0.2.2.2.2.1), .long (z0.2.2.2.2.2.1), .int (bI true)])), (h1, .inr (0, [.long (z1.1), .long (z1.2.1), .long (z1.2.2.1), .long (z1.2.2.2.1), .long (z1.2.2.2.2.1), .long (z1.2.2.2.2.2.1), .int (bI true)]))] := hD
    have fe : f_C_shareNoBit z0 z1 = ((z0.1, z0.2.1, z0.2.2.1, z0.2.2.2.1, z0.2.2.2.2.1, z0.2.2.2.2.2.1, true), (z1.1, z1.2.1, z1.2.2.1, z1.2.2.2.1, z1.2.2.2.2.1, z1.2.2.2.2.2.1, true)) := by unfold f_C_shareNoBit; first | with_reducible exact if_neg e1_25 | exact if_neg e1_25
    exact W.vret hx hb hr (fun t ht hW => ⟨⟨(), rfl, trivial, by rw [ht, fe]; (try simp only [vE_mk]); exact hP, by rw [fe]; (try simp only [vE_mk]); exact hD⟩, hS.F ht⟩) hS.2.2 d_C_shareNoBit_24
-- ValueSieve$Comparisons.refine
theorem d_C_refine_0 : decode b_C_refine 0 = .ok (.iload_n 0, 1) := by decide +kernel
theorem d_C_refine_1 : decode b_C_refine 1 = .ok (.tableswitch 147 0 10 #[59, 67, 75, 83, 91, 99, 107, 115, 123, 131, 139], 59) := by decide +kernel
theorem d_C_refine_60 : decode b_C_refine 60 = .ok (.aload_n 1, 1) := by decide +kernel
theorem d_C_refine_61 : decode b_C_refine 61 = .ok (.aload_n 2, 1) := by decide +kernel
theorem d_C_refine_62 : decode b_C_refine 62 = .ok (.invokestatic 15, 3) := by decide +kernel
theorem d_C_refine_65 : decode b_C_refine 65 = .ok (.goto 88, 3) := by decide +kernel
theorem d_C_refine_68 : decode b_C_refine 68 = .ok (.aload_n 1, 1) := by decide +kernel
theorem d_C_refine_69 : decode b_C_refine 69 = .ok (.aload_n 2, 1) := by decide +kernel
theorem d_C_refine_70 : decode b_C_refine 70 = .ok (.invokestatic 19, 3) := by decide +kernel
theorem d_C_refine_73 : decode b_C_refine 73 = .ok (.goto 80, 3) := by decide +kernel
theorem d_C_refine_76 : decode b_C_refine 76 = .ok (.aload_n 1, 1) := by decide +kernel
theorem d_C_refine_77 : decode b_C_refine 77 = .ok (.aload_n 2, 1) := by decide +kernel
theorem d_C_refine_78 : decode b_C_refine 78 = .ok (.invokestatic 22, 3) := by decide +kernel
theorem d_C_refine_81 : decode b_C_refine 81 = .ok (.goto 72, 3) := by decide +kernel
theorem d_C_refine_84 : decode b_C_refine 84 = .ok (.aload_n 1, 1) := by decide +kernel
theorem d_C_refine_85 : decode b_C_refine 85 = .ok (.aload_n 2, 1) := by decide +kernel
theorem d_C_refine_86 : decode b_C_refine 86 = .ok (.invokestatic 25, 3) := by decide +kernel
theorem d_C_refine_89 : decode b_C_refine 89 = .ok (.goto 64, 3) := by decide +kernel
theorem d_C_refine_92 : decode b_C_refine 92 = .ok (.aload_n 2, 1) := by decide +kernel
theorem d_C_refine_93 : decode b_C_refine 93 = .ok (.aload_n 1, 1) := by decide +kernel
theorem d_C_refine_94 : decode b_C_refine 94 = .ok (.invokestatic 22, 3) := by decide +kernel
theorem d_C_refine_97 : decode b_C_refine 97 = .ok (.goto 56, 3) := by decide +kernel
theorem d_C_refine_100 : decode b_C_refine 100 = .ok (.aload_n 2, 1) := by decide +kernel
theorem d_C_refine_101 : decode b_C_refine 101 = .ok (.aload_n 1, 1) := by decide +kernel
theorem d_C_refine_102 : decode b_C_refine 102 = .ok (.invokestatic 25, 3) := by decide +kernel
theorem d_C_refine_105 : decode b_C_refine 105 = .ok (.goto 48, 3) := by decide +kernel
theorem d_C_refine_108 : decode b_C_refine 108 = .ok (.aload_n 1, 1) := by decide +kernel
theorem d_C_refine_109 : decode b_C_refine 109 = .ok (.aload_n 2, 1) := by decide +kernel
theorem d_C_refine_110 : decode b_C_refine 110 = .ok (.invokestatic 28, 3) := by decide +kernel
theorem d_C_refine_113 : decode b_C_refine 113 = .ok (.goto 40, 3) := by decide +kernel
theorem d_C_refine_116 : decode b_C_refine 116 = .ok (.aload_n 1, 1) := by decide +kernel
theorem d_C_refine_117 : decode b_C_refine 117 = .ok (.aload_n 2, 1) := by decide +kernel
theorem d_C_refine_118 : decode b_C_refine 118 = .ok (.invokestatic 31, 3) := by decide +kernel
theorem d_C_refine_121 : decode b_C_refine 121 = .ok (.goto 32, 3) := by decide +kernel
theorem d_C_refine_124 : decode b_C_refine 124 = .ok (.aload_n 2, 1) := by decide +kernel
theorem d_C_refine_125 : decode b_C_refine 125 = .ok (.aload_n 1, 1) := by decide +kernel
theorem d_C_refine_126 : decode b_C_refine 126 = .ok (.invokestatic 28, 3) := by decide +kernel
theorem d_C_refine_129 : decode b_C_refine 129 = .ok (.goto 24, 3) := by decide +kernel
theorem d_C_refine_132 : decode b_C_refine 132 = .ok (.aload_n 2, 1) := by decide +kernel
theorem d_C_refine_133 : decode b_C_refine 133 = .ok (.aload_n 1, 1) := by decide +kernel
theorem d_C_refine_134 : decode b_C_refine 134 = .ok (.invokestatic 31, 3) := by decide +kernel
theorem d_C_refine_137 : decode b_C_refine 137 = .ok (.goto 16, 3) := by decide +kernel
theorem d_C_refine_140 : decode b_C_refine 140 = .ok (.aload_n 1, 1) := by decide +kernel
theorem d_C_refine_141 : decode b_C_refine 141 = .ok (.aload_n 2, 1) := by decide +kernel
theorem d_C_refine_142 : decode b_C_refine 142 = .ok (.invokestatic 34, 3) := by decide +kernel
theorem d_C_refine_145 : decode b_C_refine 145 = .ok (.goto 8, 3) := by decide +kernel
theorem d_C_refine_148 : decode b_C_refine 148 = .ok (.aload_n 1, 1) := by decide +kernel
theorem d_C_refine_149 : decode b_C_refine 149 = .ok (.aload_n 2, 1) := by decide +kernel
theorem d_C_refine_150 : decode b_C_refine 150 = .ok (.invokestatic 37, 3) := by decide +kernel
theorem d_C_refine_153 : decode b_C_refine 153 = .ok (.aload_n 1, 1) := by decide +kernel
theorem d_C_refine_154 : decode b_C_refine 154 = .ok (.invokevirtual 40, 3) := by decide +kernel
theorem d_C_refine_157 : decode b_C_refine 157 = .ok (.aload_n 2, 1) := by decide +kernel
theorem d_C_refine_158 : decode b_C_refine 158 = .ok (.invokevirtual 40, 3) := by decide +kernel
theorem d_C_refine_161 : decode b_C_refine 161 = .ok (.return_, 1) := by decide +kernel
def f_C_refine_158g (p0 : Int32) (z1 : VV) (z2 : VV) (g154 : VV) (g158 : VV) : VV × VV := (g154, g158)
def f_C_refine_154g (p0 : Int32) (z1 : VV) (z2 : VV) (w154g_1_0 : Int64) (w154g_1_1 : Int64) (w154g_1_2 : Int64) (w154g_1_3 : Int64) (w154g_1_4 : Int64) (w154g_1_5 : Int64) (w154g_1_6 : Bool) (g154 : VV) : VV × VV := f_C_refine_158g p0 z1 z2 g154 (f_V_tighten ((w154g_1_0, w154g_1_1, w154g_1_2, w154g_1_3, w154g_1_4, w154g_1_5, w154g_1_6)))
def f_C_refine_153 (p0 : Int32) (z1 : VV) (z2 : VV) (w153_0_0 : Int64) (w153_0_1 : Int64) (w153_0_2 : Int64) (w153_0_3 : Int64) (w153_0_4 : Int64) (w153_0_5 : Int64) (w153_0_6 : Bool) (w153_1_0 : Int64) (w153_1_1 : Int64) (w153_1_2 : Int64) (w153_1_3 : Int64) (w153_1_4 : Int64) (w153_1_5 : Int64) (w153_1_6 : Bool) : VV × VV := f_C_refine_154g p0 z1 z2 w153_1_0 w153_1_1 w153_1_2 w153_1_3 w153_1_4 w153_1_5 w153_1_6 (f_V_tighten ((w153_0_0, w153_0_1, w153_0_2, w153_0_3, w153_0_4, w153_0_5, w153_0_6)))
def f_C_refine_150g (p0 : Int32) (z1 : VV) (z2 : VV) (g150 : VV × VV) : VV × VV := f_C_refine_153 p0 z1 z2 g150.1.1 g150.1.2.1 g150.1.2.2.1 g150.1.2.2.2.1 g150.1.2.2.2.2.1 g150.1.2.2.2.2.2.1 g150.1.2.2.2.2.2.2 g150.2.1 g150.2.2.1 g150.2.2.2.1 g150.2.2.2.2.1 g150.2.2.2.2.2.1 g150.2.2.2.2.2.2.1 g150.2.2.2.2.2.2.2
def f_C_refine_142g (p0 : Int32) (z1 : VV) (z2 : VV) (g142 : VV × VV) : VV × VV := f_C_refine_153 p0 z1 z2 g142.1.1 g142.1.2.1 g142.1.2.2.1 g142.1.2.2.2.1 g142.1.2.2.2.2.1 g142.1.2.2.2.2.2.1 g142.1.2.2.2.2.2.2 g142.2.1 g142.2.2.1 g142.2.2.2.1 g142.2.2.2.2.1 g142.2.2.2.2.2.1 g142.2.2.2.2.2.2.1 g142.2.2.2.2.2.2.2
def f_C_refine_134g (p0 : Int32) (z1 : VV) (z2 : VV) (g134 : VV × VV) : VV × VV := f_C_refine_153 p0 z1 z2 g134.2.1 g134.2.2.1 g134.2.2.2.1 g134.2.2.2.2.1 g134.2.2.2.2.2.1 g134.2.2.2.2.2.2.1 g134.2.2.2.2.2.2.2 g134.1.1 g134.1.2.1 g134.1.2.2.1 g134.1.2.2.2.1 g134.1.2.2.2.2.1 g134.1.2.2.2.2.2.1 g134.1.2.2.2.2.2.2
def f_C_refine_126g (p0 : Int32) (z1 : VV) (z2 : VV) (g126 : VV × VV) : VV × VV := f_C_refine_153 p0 z1 z2 g126.2.1 g126.2.2.1 g126.2.2.2.1 g126.2.2.2.2.1 g126.2.2.2.2.2.1 g126.2.2.2.2.2.2.1 g126.2.2.2.2.2.2.2 g126.1.1 g126.1.2.1 g126.1.2.2.1 g126.1.2.2.2.1 g126.1.2.2.2.2.1 g126.1.2.2.2.2.2.1 g126.1.2.2.2.2.2.2
def f_C_refine_118g (p0 : Int32) (z1 : VV) (z2 : VV) (g118 : VV × VV) : VV × VV := f_C_refine_153 p0 z1 z2 g118.1.1 g118.1.2.1 g118.1.2.2.1 g118.1.2.2.2.1 g118.1.2.2.2.2.1 g118.1.2.2.2.2.2.1 g118.1.2.2.2.2.2.2 g118.2.1 g118.2.2.1 g118.2.2.2.1 g118.2.2.2.2.1 g118.2.2.2.2.2.1 g118.2.2.2.2.2.2.1 g118.2.2.2.2.2.2.2
def f_C_refine_110g (p0 : Int32) (z1 : VV) (z2 : VV) (g110 : VV × VV) : VV × VV := f_C_refine_153 p0 z1 z2 g110.1.1 g110.1.2.1 g110.1.2.2.1 g110.1.2.2.2.1 g110.1.2.2.2.2.1 g110.1.2.2.2.2.2.1 g110.1.2.2.2.2.2.2 g110.2.1 g110.2.2.1 g110.2.2.2.1 g110.2.2.2.2.1 g110.2.2.2.2.2.1 g110.2.2.2.2.2.2.1 g110.2.2.2.2.2.2.2
def f_C_refine_102g (p0 : Int32) (z1 : VV) (z2 : VV) (g102 : VV × VV) : VV × VV := f_C_refine_153 p0 z1 z2 g102.2.1 g102.2.2.1 g102.2.2.2.1 g102.2.2.2.2.1 g102.2.2.2.2.2.1 g102.2.2.2.2.2.2.1 g102.2.2.2.2.2.2.2 g102.1.1 g102.1.2.1 g102.1.2.2.1 g102.1.2.2.2.1 g102.1.2.2.2.2.1 g102.1.2.2.2.2.2.1 g102.1.2.2.2.2.2.2
def f_C_refine_94g (p0 : Int32) (z1 : VV) (z2 : VV) (g94 : VV × VV) : VV × VV := f_C_refine_153 p0 z1 z2 g94.2.1 g94.2.2.1 g94.2.2.2.1 g94.2.2.2.2.1 g94.2.2.2.2.2.1 g94.2.2.2.2.2.2.1 g94.2.2.2.2.2.2.2 g94.1.1 g94.1.2.1 g94.1.2.2.1 g94.1.2.2.2.1 g94.1.2.2.2.2.1 g94.1.2.2.2.2.2.1 g94.1.2.2.2.2.2.2
def f_C_refine_86g (p0 : Int32) (z1 : VV) (z2 : VV) (g86 : VV × VV) : VV × VV := f_C_refine_153 p0 z1 z2 g86.1.1 g86.1.2.1 g86.1.2.2.1 g86.1.2.2.2.1 g86.1.2.2.2.2.1 g86.1.2.2.2.2.2.1 g86.1.2.2.2.2.2.2 g86.2.1 g86.2.2.1 g86.2.2.2.1 g86.2.2.2.2.1 g86.2.2.2.2.2.1 g86.2.2.2.2.2.2.1 g86.2.2.2.2.2.2.2
def f_C_refine_78g (p0 : Int32) (z1 : VV) (z2 : VV) (g78 : VV × VV) : VV × VV := f_C_refine_153 p0 z1 z2 g78.1.1 g78.1.2.1 g78.1.2.2.1 g78.1.2.2.2.1 g78.1.2.2.2.2.1 g78.1.2.2.2.2.2.1 g78.1.2.2.2.2.2.2 g78.2.1 g78.2.2.1 g78.2.2.2.1 g78.2.2.2.2.1 g78.2.2.2.2.2.1 g78.2.2.2.2.2.2.1 g78.2.2.2.2.2.2.2
def f_C_refine_70g (p0 : Int32) (z1 : VV) (z2 : VV) (g70 : VV × VV) : VV × VV := f_C_refine_153 p0 z1 z2 g70.1.1 g70.1.2.1 g70.1.2.2.1 g70.1.2.2.2.1 g70.1.2.2.2.2.1 g70.1.2.2.2.2.2.1 g70.1.2.2.2.2.2.2 g70.2.1 g70.2.2.1 g70.2.2.2.1 g70.2.2.2.2.1 g70.2.2.2.2.2.1 g70.2.2.2.2.2.2.1 g70.2.2.2.2.2.2.2
def f_C_refine_62g (p0 : Int32) (z1 : VV) (z2 : VV) (g62 : VV × VV) : VV × VV := f_C_refine_153 p0 z1 z2 g62.1.1 g62.1.2.1 g62.1.2.2.1 g62.1.2.2.2.1 g62.1.2.2.2.2.1 g62.1.2.2.2.2.2.1 g62.1.2.2.2.2.2.2 g62.2.1 g62.2.2.1 g62.2.2.2.1 g62.2.2.2.2.1 g62.2.2.2.2.2.1 g62.2.2.2.2.2.2.1 g62.2.2.2.2.2.2.2
def f_C_refine (p0 : Int32) (z1 : VV) (z2 : VV) : VV × VV := (if p0 = 0 then f_C_refine_62g p0 z1 z2 (f_C_equate z1 z2) else (if p0 = 1 then f_C_refine_70g p0 z1 z2 (f_C_part z1 z2) else (if p0 = 2 then f_C_refine_78g p0 z1 z2 (f_C_orderStrictly z1 z2) else (if p0 = 3 then f_C_refine_86g p0 z1 z2 (f_C_order z1 z2) else (if p0 = 4 then f_C_refine_94g p0 z1 z2 (f_C_orderStrictly z2 z1) else (if p0 = 5 then f_C_refine_102g p0 z1 z2 (f_C_order z2 z1) else (if p0 = 6 then f_C_refine_110g p0 z1 z2 (f_C_orderSignedStrictly z1 z2) else (if p0 = 7 then f_C_refine_118g p0 z1 z2 (f_C_orderSigned z1 z2) else (if p0 = 8 then f_C_refine_126g p0 z1 z2 (f_C_orderSignedStrictly z2 z1) else (if p0 = 9 then f_C_refine_134g p0 z1 z2 (f_C_orderSigned z2 z1) else (if p0 = 10 then f_C_refine_142g p0 z1 z2 (f_C_shareBit z1 z2) else f_C_refine_150g p0 z1 z2 (f_C_shareNoBit z1 z2))))))))))))
set_option maxRecDepth 100000 in
set_option maxHeartbeats 4000000 in
theorem c_C_refine (l : Launch) (dC : Nat → ClassId) (dI : Nat → Nat → Nat) (h1 : Nat) (h2 : Nat) (sz : Nat) (p0 : Int32) (z1 : VV) (z2 : VV) : Met l y_C_refine w_C_refine ({ frames := 4, cells := 0, slots := 0, locals := 118 } : Room) (va_Pc [.int (p0), .ref h1, .ref h2] (mP (dC, dI) [(h1, vE z1), (h2, vE z2)] sz)) (va_Qv (fun _ : Unit => True) (mB (dC, dI) (va_A [(h1, vE z1), (h2, vE z2)] sz) [(h1, vE (f_C_refine p0 z1 z2).1), (h2, vE (f_C_refine p0 z1 z2).2)]) (va_A [(h1, vE z1), (h2, vE z2)] sz)) 0 0 (va_A [(h1, vE z1), (h2, vE z2)] sz) := by
  refine Met.ofW (cc := b_C_refine) (maxL := 3) (ret := none) (by decide) rfl ?_
  intro p e s m args below meth c s₁ B hml hv
  obtain ⟨rfl, hsz, hP, hK, hD0⟩ := hv
  have hx := B.exec
  have hb := B.bytes
  have hr := B.returns
  have hts := atoms_spec (ws := w_C_refine) B.pre
  have hG : ∀ w ∈ gG, w.before _ s = true := fun w h => hts w (List.mem_cons_of_mem _ h)
  have hown : s.vm.findClass R_C = some m.cls := findClass_of_methodNamed B.named
  have hlocks := B.notSynchronized
  subst hsz
  have hD := hD0.self (sz := s.heap.size)
  generalize hAe : va_A [(h1, vE z1), (h2, vE z2)] s.heap.size = A at hD ⊢
  have hA : ∀ q : Nat, s.heap.size ≤ q → A q := fun q h => by rw [← hAe]; exact Or.inr h
  have hS : va_S A s.heap s.heap [] := va_S.rf
  have hP : va_P (dC, dI) classes [(h1, .inr (0, [.long (z1.1), .long (z1.2.1), .long (z1.2.2.1), .long (z1.2.2.2.1), .long (z1.2.2.2.2.1), .long (z1.2.2.2.2.2.1), .int (bI z1.2.2.2.2.2.2)])), (h2, .inr (0, [.long (z2.1), .long (z2.2.1), .long (z2.2.2.1), .long (z2.2.2.2.1), .long (z2.2.2.2.2.1), .long (z2.2.2.2.2.2.1), .int (bI z2.2.2.2.2.2.2)]))] s.heap := hP
  have hD : va_D A [(h1, .inr (0, [.long (z1.1), .long (z1.2.1), .long (z1.2.2.1), .long (z1.2.2.2.1), .long (z1.2.2.2.2.1), .long (z1.2.2.2.2.2.1), .int (bI z1.2.2.2.2.2.2)])), (h2, .inr (0, [.long (z2.1), .long (z2.2.1), .long (z2.2.2.1), .long (z2.2.2.2.1), .long (z2.2.2.2.2.1), .long (z2.2.2.2.2.2.1), .int (bI z2.2.2.2.2.2.2)]))] := hD
  have hl := lv_entry ([.int (p0), .ref h1, .ref h2]) (n := 3) (Nat.le_of_ble_eq_true rfl)
  rw [lg_entry_eq]
  generalize (lg_sl ([.int (p0), .ref h1, .ref h2]) ++ List.replicate (3 - (lg_sl ([.int (p0), .ref h1, .ref h2])).length) Slot.unset).toArray = ls at hl ⊢
  have hl : lv_has ls 3 [(0, .int (p0)), (1, .ref h1), (2, .ref h2)] := hl
  have K158g : ∀ (g154 : VV) (g158 : VV) (hj : f_C_refine p0 z1 z2 = f_C_refine_158g p0 z1 z2 g154 g158) (H : Heap) (locs : List Loc) (hP : va_P (dC, dI) classes [(h1, .inr (0, [.long (g154.1), .long (g154.2.1), .long (g154.2.2.1), .long (g154.2.2.2.1), .long (g154.2.2.2.2.1), .long (g154.2.2.2.2.2.1), .int (bI g154.2.2.2.2.2.2)])), (h2, .inr (0, [.long (g158.1), .long (g158.2.1), .long (g158.2.2.1), .long (g158.2.2.2.1), .long (g158.2.2.2.2.1), .long (g158.2.2.2.2.2.1), .int (bI g158.2.2.2.2.2.2)]))] H) (hD : va_D A [(h1, .inr (0, [.long (g154.1), .long (g154.2.1), .long (g154.2.2.1), .long (g154.2.2.2.1), .long (g154.2.2.2.2.1), .long (g154.2.2.2.2.2.1), .int (bI g154.2.2.2.2.2.2)])), (h2, .inr (0, [.long (g158.1), .long (g158.2.1), .long (g158.2.2.1), .long (g158.2.2.2.1), .long (g158.2.2.2.2.1), .long (g158.2.2.2.2.2.1), .int (bI g158.2.2.2.2.2.2)]))]) (hS : va_S A s.heap H locs) (ls : Array Slot) (hl : lv_has ls 3 []), W p l e (headSpec w_C_refine ({ frames := 4, cells := 0, slots := 0, locals := 118 } : Room)).room s m ([.int (p0), .ref h1, .ref h2] : List Value).toArray below meth c H locs 0 0 (MQ below (va_Qv (fun _ : Unit => True) (mB (dC, dI) A [(h1, vE (f_C_refine p0 z1 z2).1), (h2, vE (f_C_refine p0 z1 z2).2)]) A) ([.int (p0), .ref h1, .ref h2] : List Value).toArray s 0 0 A) (F0 m 161 ls []) := by
    intro g154 g158 hj H locs hP hD hS ls hl
    have fe : f_C_refine p0 z1 z2 = (g154, g158) := hj.trans rfl
    exact W.vret hx hb hr (fun t ht hW => ⟨⟨(), rfl, trivial, by rw [ht, fe]; (try simp only [vE_mk]); exact hP, by rw [fe]; (try simp only [vE_mk]); exact hD⟩, hS.F ht⟩) hS.2.2 d_C_refine_161
  have K154g : ∀ (w154g_1_0 : Int64) (w154g_1_1 : Int64) (w154g_1_2 : Int64) (w154g_1_3 : Int64) (w154g_1_4 : Int64) (w154g_1_5 : Int64) (w154g_1_6 : Bool) (g154 : VV) (hj : f_C_refine p0 z1 z2 = f_C_refine_154g p0 z1 z2 w154g_1_0 w154g_1_1 w154g_1_2 w154g_1_3 w154g_1_4 w154g_1_5 w154g_1_6 g154) (H : Heap) (locs : List Loc) (hP : va_P (dC, dI) classes [(h1, .inr (0, [.long (g154.1), .long (g154.2.1), .long (g154.2.2.1), .long (g154.2.2.2.1), .long (g154.2.2.2.2.1), .long (g154.2.2.2.2.2.1), .int (bI g154.2.2.2.2.2.2)])), (h2, .inr (0, [.long (w154g_1_0), .long (w154g_1_1), .long (w154g_1_2), .long (w154g_1_3), .long (w154g_1_4), .long (w154g_1_5), .int (bI w154g_1_6)]))] H) (hD : va_D A [(h1, .inr (0, [.long (g154.1), .long (g154.2.1), .long (g154.2.2.1), .long (g154.2.2.2.1), .long (g154.2.2.2.2.1), .long (g154.2.2.2.2.2.1), .int (bI g154.2.2.2.2.2.2)])), (h2, .inr (0, [.long (w154g_1_0), .long (w154g_1_1), .long (w154g_1_2), .long (w154g_1_3), .long (w154g_1_4), .long (w154g_1_5), .int (bI w154g_1_6)]))]) (hS : va_S A s.heap H locs) (ls : Array Slot) (hl : lv_has ls 3 [(2, .ref h2)]), W p l e (headSpec w_C_refine ({ frames := 4, cells := 0, slots := 0, locals := 118 } : Room)).room s m ([.int (p0), .ref h1, .ref h2] : List Value).toArray below meth c H locs 0 0 (MQ below (va_Qv (fun _ : Unit => True) (mB (dC, dI) A [(h1, vE (f_C_refine p0 z1 z2).1), (h2, vE (f_C_refine p0 z1 z2).2)]) A) ([.int (p0), .ref h1, .ref h2] : List Value).toArray s 0 0 A) (F0 m 157 ls []) := by
    intro w154g_1_0 w154g_1_1 w154g_1_2 w154g_1_3 w154g_1_4 w154g_1_5 w154g_1_6 g154 hj H locs hP hD hS ls hl
    refine lv_aload_n hx hb d_C_refine_157 rfl (lv_at hl 0 rfl) ?_
    refine mg_v (F := f_V_tighten ((w154g_1_0, w154g_1_1, w154g_1_2, w154g_1_3, w154g_1_4, w154g_1_5, w154g_1_6))) (wc := [(h2, vE ((w154g_1_0, w154g_1_1, w154g_1_2, w154g_1_3, w154g_1_4, w154g_1_5, w154g_1_6)))]) (w1 := fun g158 => [(h2, vE g158)]) (wr := [(h1, .inr (0, [.long (g154.1), .long (g154.2.1), .long (g154.2.2.1), .long (g154.2.2.2.1), .long (g154.2.2.2.2.1), .long (g154.2.2.2.2.2.1), .int (bI g154.2.2.2.2.2.2)]))]) (ws' := fun g158 => [(h1, .inr (0, [.long (g154.1), .long (g154.2.1), .long (g154.2.2.1), .long (g154.2.2.2.1), .long (g154.2.2.2.2.1), .long (g154.2.2.2.2.2.1), .int (bI g154.2.2.2.2.2.2)])), (h2, .inr (0, [.long (g158.1), .long (g158.2.1), .long (g158.2.2.1), .long (g158.2.2.2.1), .long (g158.2.2.2.2.1), .long (g158.2.2.2.2.2.1), .int (bI g158.2.2.2.2.2.2)]))]) (va_runV (As := []) (rest := []) ⟨hx, hb, hml, hown, hts⟩ (c_V_tighten l dC dI h2 H.size ((w154g_1_0, w154g_1_1, w154g_1_2, w154g_1_3, w154g_1_4, w154g_1_5, w154g_1_6))) (cwV 0 hts (gV gw346 gw113 gw114 gw1 gw115) rfl rfl rfl (by decide +kernel) ⟨(Nat.le_of_ble_eq_true rfl), (Nat.le_of_ble_eq_true rfl)⟩) ⟨blm, va_recv hK hP (ci := 0) (q0 := 1) rfl rfl, fun U hU hW => ⟨rfl, by rw [hU], by rw [hU]; exact hP.sub [1] rfl, va_K.moved hW.alike hK, (hD.sub [1] (by decide) rfl).weaken (fun _ _ _ _ => trivial)⟩⟩ rfl rfl hl.1 rfl (lv_room (Nat.le_of_ble_eq_true rfl)) d_C_refine_158 ⟨Nat.zero_le _, Nat.zero_le _⟩) hP hD hS hA [1] [0] [0, 1] rfl rfl (by decide) (by decide) (fun _ => rfl) (by decide) (fun g158 eg158 H locs hP hD hS => ?_)
    refine K158g g154 g158 (Eq.trans (hj.trans rfl) (congrArg (fun g158 => f_C_refine_158g p0 z1 z2 g154 g158) eg158)) H locs ?_ ?_ hS ls (lv_sub hl [] rfl)
    · with_reducible exact hP
    · with_reducible exact hD
  have K153 : ∀ (w153_0_0 : Int64) (w153_0_1 : Int64) (w153_0_2 : Int64) (w153_0_3 : Int64) (w153_0_4 : Int64) (w153_0_5 : Int64) (w153_0_6 : Bool) (w153_1_0 : Int64) (w153_1_1 : Int64) (w153_1_2 : Int64) (w153_1_3 : Int64) (w153_1_4 : Int64) (w153_1_5 : Int64) (w153_1_6 : Bool) (hj : f_C_refine p0 z1 z2 = f_C_refine_153 p0 z1 z2 w153_0_0 w153_0_1 w153_0_2 w153_0_3 w153_0_4 w153_0_5 w153_0_6 w153_1_0 w153_1_1 w153_1_2 w153_1_3 w153_1_4 w153_1_5 w153_1_6) (H : Heap) (locs : List Loc) (hP : va_P (dC, dI) classes [(h1, .inr (0, [.long (w153_0_0), .long (w153_0_1), .long (w153_0_2), .long (w153_0_3), .long (w153_0_4), .long (w153_0_5), .int (bI w153_0_6)])), (h2, .inr (0, [.long (w153_1_0), .long (w153_1_1), .long (w153_1_2), .long (w153_1_3), .long (w153_1_4), .long (w153_1_5), .int (bI w153_1_6)]))] H) (hD : va_D A [(h1, .inr (0, [.long (w153_0_0), .long (w153_0_1), .long (w153_0_2), .long (w153_0_3), .long (w153_0_4), .long (w153_0_5), .int (bI w153_0_6)])), (h2, .inr (0, [.long (w153_1_0), .long (w153_1_1), .long (w153_1_2), .long (w153_1_3), .long (w153_1_4), .long (w153_1_5), .int (bI w153_1_6)]))]) (hS : va_S A s.heap H locs) (ls : Array Slot) (hl : lv_has ls 3 [(1, .ref h1), (2, .ref h2)]), W p l e (headSpec w_C_refine ({ frames := 4, cells := 0, slots := 0, locals := 118 } : Room)).room s m ([.int (p0), .ref h1, .ref h2] : List Value).toArray below meth c H locs 0 0 (MQ below (va_Qv (fun _ : Unit => True) (mB (dC, dI) A [(h1, vE (f_C_refine p0 z1 z2).1), (h2, vE (f_C_refine p0 z1 z2).2)]) A) ([.int (p0), .ref h1, .ref h2] : List Value).toArray s 0 0 A) (F0 m 153 ls []) := by
    intro w153_0_0 w153_0_1 w153_0_2 w153_0_3 w153_0_4 w153_0_5 w153_0_6 w153_1_0 w153_1_1 w153_1_2 w153_1_3 w153_1_4 w153_1_5 w153_1_6 hj H locs hP hD hS ls hl
    refine lv_aload_n hx hb d_C_refine_153 rfl (lv_at hl 0 rfl) ?_
    refine mg_v (F := f_V_tighten ((w153_0_0, w153_0_1, w153_0_2, w153_0_3, w153_0_4, w153_0_5, w153_0_6))) (wc := [(h1, vE ((w153_0_0, w153_0_1, w153_0_2, w153_0_3, w153_0_4, w153_0_5, w153_0_6)))]) (w1 := fun g154 => [(h1, vE g154)]) (wr := [(h2, .inr (0, [.long (w153_1_0), .long (w153_1_1), .long (w153_1_2), .long (w153_1_3), .long (w153_1_4), .long (w153_1_5), .int (bI w153_1_6)]))]) (ws' := fun g154 => [(h1, .inr (0, [.long (g154.1), .long (g154.2.1), .long (g154.2.2.1), .long (g154.2.2.2.1), .long (g154.2.2.2.2.1), .long (g154.2.2.2.2.2.1), .int (bI g154.2.2.2.2.2.2)])), (h2, .inr (0, [.long (w153_1_0), .long (w153_1_1), .long (w153_1_2), .long (w153_1_3), .long (w153_1_4), .long (w153_1_5), .int (bI w153_1_6)]))]) (va_runV (As := []) (rest := []) ⟨hx, hb, hml, hown, hts⟩ (c_V_tighten l dC dI h1 H.size ((w153_0_0, w153_0_1, w153_0_2, w153_0_3, w153_0_4, w153_0_5, w153_0_6))) (cwV 0 hts (gV gw346 gw113 gw114 gw1 gw115) rfl rfl rfl (by decide +kernel) ⟨(Nat.le_of_ble_eq_true rfl), (Nat.le_of_ble_eq_true rfl)⟩) ⟨blm, va_recv hK hP (ci := 0) (q0 := 0) rfl rfl, fun U hU hW => ⟨rfl, by rw [hU], by rw [hU]; exact hP.sub [0] rfl, va_K.moved hW.alike hK, (hD.sub [0] (by decide) rfl).weaken (fun _ _ _ _ => trivial)⟩⟩ rfl rfl hl.1 rfl (lv_room (Nat.le_of_ble_eq_true rfl)) d_C_refine_154 ⟨Nat.zero_le _, Nat.zero_le _⟩) hP hD hS hA [0] [1] [1, 0] rfl rfl (by decide) (by decide) (fun _ => rfl) (by decide) (fun g154 eg154 H locs hP hD hS => ?_)
    refine K154g w153_1_0 w153_1_1 w153_1_2 w153_1_3 w153_1_4 w153_1_5 w153_1_6 g154 (Eq.trans (hj.trans rfl) (congrArg (fun g154 => f_C_refine_154g p0 z1 z2 w153_1_0 w153_1_1 w153_1_2 w153_1_3 w153_1_4 w153_1_5 w153_1_6 g154) eg154)) H locs ?_ ?_ hS ls (lv_sub hl [1] rfl)
    · with_reducible exact hP
    · with_reducible exact hD
  have K150g : ∀ (g150 : VV × VV) (hj : f_C_refine p0 z1 z2 = f_C_refine_150g p0 z1 z2 g150) (H : Heap) (locs : List Loc) (hP : va_P (dC, dI) classes [(h1, .inr (0, [.long (g150.1.1), .long (g150.1.2.1), .long (g150.1.2.2.1), .long (g150.1.2.2.2.1), .long (g150.1.2.2.2.2.1), .long (g150.1.2.2.2.2.2.1), .int (bI g150.1.2.2.2.2.2.2)])), (h2, .inr (0, [.long (g150.2.1), .long (g150.2.2.1), .long (g150.2.2.2.1), .long (g150.2.2.2.2.1), .long (g150.2.2.2.2.2.1), .long (g150.2.2.2.2.2.2.1), .int (bI g150.2.2.2.2.2.2.2)]))] H) (hD : va_D A [(h1, .inr (0, [.long (g150.1.1), .long (g150.1.2.1), .long (g150.1.2.2.1), .long (g150.1.2.2.2.1), .long (g150.1.2.2.2.2.1), .long (g150.1.2.2.2.2.2.1), .int (bI g150.1.2.2.2.2.2.2)])), (h2, .inr (0, [.long (g150.2.1), .long (g150.2.2.1), .long (g150.2.2.2.1), .long (g150.2.2.2.2.1), .long (g150.2.2.2.2.2.1), .long (g150.2.2.2.2.2.2.1), .int (bI g150.2.2.2.2.2.2.2)]))]) (hS : va_S A s.heap H locs) (ls : Array Slot) (hl : lv_has ls 3 [(1, .ref h1), (2, .ref h2)]), W p l e (headSpec w_C_refine ({ frames := 4, cells := 0, slots := 0, locals := 118 } : Room)).room s m ([.int (p0), .ref h1, .ref h2] : List Value).toArray below meth c H locs 0 0 (MQ below (va_Qv (fun _ : Unit => True) (mB (dC, dI) A [(h1, vE (f_C_refine p0 z1 z2).1), (h2, vE (f_C_refine p0 z1 z2).2)]) A) ([.int (p0), .ref h1, .ref h2] : List Value).toArray s 0 0 A) (F0 m 153 ls []) := by
    intro g150 hj H locs hP hD hS ls hl
    refine K153 g150.1.1 g150.1.2.1 g150.1.2.2.1 g150.1.2.2.2.1 g150.1.2.2.2.2.1 g150.1.2.2.2.2.2.1 g150.1.2.2.2.2.2.2 g150.2.1 g150.2.2.1 g150.2.2.2.1 g150.2.2.2.2.1 g150.2.2.2.2.2.1 g150.2.2.2.2.2.2.1 g150.2.2.2.2.2.2.2 (hj.trans rfl) H locs ?_ ?_ hS ls (lv_sub hl [0, 1] rfl)
    · with_reducible exact hP
    · with_reducible exact hD
  have K142g : ∀ (g142 : VV × VV) (hj : f_C_refine p0 z1 z2 = f_C_refine_142g p0 z1 z2 g142) (H : Heap) (locs : List Loc) (hP : va_P (dC, dI) classes [(h1, .inr (0, [.long (g142.1.1), .long (g142.1.2.1), .long (g142.1.2.2.1), .long (g142.1.2.2.2.1), .long (g142.1.2.2.2.2.1), .long (g142.1.2.2.2.2.2.1), .int (bI g142.1.2.2.2.2.2.2)])), (h2, .inr (0, [.long (g142.2.1), .long (g142.2.2.1), .long (g142.2.2.2.1), .long (g142.2.2.2.2.1), .long (g142.2.2.2.2.2.1), .long (g142.2.2.2.2.2.2.1), .int (bI g142.2.2.2.2.2.2.2)]))] H) (hD : va_D A [(h1, .inr (0, [.long (g142.1.1), .long (g142.1.2.1), .long (g142.1.2.2.1), .long (g142.1.2.2.2.1), .long (g142.1.2.2.2.2.1), .long (g142.1.2.2.2.2.2.1), .int (bI g142.1.2.2.2.2.2.2)])), (h2, .inr (0, [.long (g142.2.1), .long (g142.2.2.1), .long (g142.2.2.2.1), .long (g142.2.2.2.2.1), .long (g142.2.2.2.2.2.1), .long (g142.2.2.2.2.2.2.1), .int (bI g142.2.2.2.2.2.2.2)]))]) (hS : va_S A s.heap H locs) (ls : Array Slot) (hl : lv_has ls 3 [(1, .ref h1), (2, .ref h2)]), W p l e (headSpec w_C_refine ({ frames := 4, cells := 0, slots := 0, locals := 118 } : Room)).room s m ([.int (p0), .ref h1, .ref h2] : List Value).toArray below meth c H locs 0 0 (MQ below (va_Qv (fun _ : Unit => True) (mB (dC, dI) A [(h1, vE (f_C_refine p0 z1 z2).1), (h2, vE (f_C_refine p0 z1 z2).2)]) A) ([.int (p0), .ref h1, .ref h2] : List Value).toArray s 0 0 A) (F0 m 145 ls []) := by
    intro g142 hj H locs hP hD hS ls hl
    refine lv_goto (tgt := 153) hx hb d_C_refine_145 (by decide) ?_
    refine K153 g142.1.1 g142.1.2.1 g142.1.2.2.1 g142.1.2.2.2.1 g142.1.2.2.2.2.1 g142.1.2.2.2.2.2.1 g142.1.2.2.2.2.2.2 g142.2.1 g142.2.2.1 g142.2.2.2.1 g142.2.2.2.2.1 g142.2.2.2.2.2.1 g142.2.2.2.2.2.2.1 g142.2.2.2.2.2.2.2 (hj.trans rfl) H locs ?_ ?_ hS ls (lv_sub hl [0, 1] rfl)
    · with_reducible exact hP
    · with_reducible exact hD
  have K134g : ∀ (g134 : VV × VV) (hj : f_C_refine p0 z1 z2 = f_C_refine_134g p0 z1 z2 g134) (H : Heap) (locs : List Loc) (hP : va_P (dC, dI) classes [(h1, .inr (0, [.long (g134.2.1), .long (g134.2.2.1), .long (g134.2.2.2.1), .long (g134.2.2.2.2.1), .long (g134.2.2.2.2.2.1), .long (g134.2.2.2.2.2.2.1), .int (bI g134.2.2.2.2.2.2.2)])), (h2, .inr (0, [.long (g134.1.1), .long (g134.1.2.1), .long (g134.1.2.2.1), .long (g134.1.2.2.2.1), .long (g134.1.2.2.2.2.1), .long (g134.1.2.2.2.2.2.1), .int (bI g134.1.2.2.2.2.2.2)]))] H) (hD : va_D A [(h1, .inr (0, [.long (g134.2.1), .long (g134.2.2.1), .long (g134.2.2.2.1), .long (g134.2.2.2.2.1), .long (g134.2.2.2.2.2.1), .long (g134.2.2.2.2.2.2.1), .int (bI g134.2.2.2.2.2.2.2)])), (h2, .inr (0, [.long (g134.1.1), .long (g134.1.2.1), .long (g134.1.2.2.1), .long (g134.1.2.2.2.1), .long (g134.1.2.2.2.2.1), .long (g134.1.2.2.2.2.2.1), .int (bI g134.1.2.2.2.2.2.2)]))]) (hS : va_S A s.heap H locs) (ls : Array Slot) (hl : lv_has ls 3 [(1, .ref h1), (2, .ref h2)]), W p l e (headSpec w_C_refine ({ frames := 4, cells := 0, slots := 0, locals := 118 } : Room)).room s m ([.int (p0), .ref h1, .ref h2] : List Value).toArray below meth c H locs 0 0 (MQ below (va_Qv (fun _ : Unit => True) (mB (dC, dI) A [(h1, vE (f_C_refine p0 z1 z2).1), (h2, vE (f_C_refine p0 z1 z2).2)]) A) ([.int (p0), .ref h1, .ref h2] : List Value).toArray s 0 0 A) (F0 m 137 ls []) := by
    intro g134 hj H locs hP hD hS ls hl
    refine lv_goto (tgt := 153) hx hb d_C_refine_137 (by decide) ?_
    refine K153 g134.2.1 g134.2.2.1 g134.2.2.2.1 g134.2.2.2.2.1 g134.2.2.2.2.2.1 g134.2.2.2.2.2.2.1 g134.2.2.2.2.2.2.2 g134.1.1 g134.1.2.1 g134.1.2.2.1 g134.1.2.2.2.1 g134.1.2.2.2.2.1 g134.1.2.2.2.2.2.1 g134.1.2.2.2.2.2.2 (hj.trans rfl) H locs ?_ ?_ hS ls (lv_sub hl [0, 1] rfl)
    · with_reducible exact hP
    · with_reducible exact hD
  have K126g : ∀ (g126 : VV × VV) (hj : f_C_refine p0 z1 z2 = f_C_refine_126g p0 z1 z2 g126) (H : Heap) (locs : List Loc) (hP : va_P (dC, dI) classes [(h1, .inr (0, [.long (g126.2.1), .long (g126.2.2.1), .long (g126.2.2.2.1), .long (g126.2.2.2.2.1), .long (g126.2.2.2.2.2.1), .long (g126.2.2.2.2.2.2.1), .int (bI g126.2.2.2.2.2.2.2)])), (h2, .inr (0, [.long (g126.1.1), .long (g126.1.2.1), .long (g126.1.2.2.1), .long (g126.1.2.2.2.1), .long (g126.1.2.2.2.2.1), .long (g126.1.2.2.2.2.2.1), .int (bI g126.1.2.2.2.2.2.2)]))] H) (hD : va_D A [(h1, .inr (0, [.long (g126.2.1), .long (g126.2.2.1), .long (g126.2.2.2.1), .long (g126.2.2.2.2.1), .long (g126.2.2.2.2.2.1), .long (g126.2.2.2.2.2.2.1), .int (bI g126.2.2.2.2.2.2.2)])), (h2, .inr (0, [.long (g126.1.1), .long (g126.1.2.1), .long (g126.1.2.2.1), .long (g126.1.2.2.2.1), .long (g126.1.2.2.2.2.1), .long (g126.1.2.2.2.2.2.1), .int (bI g126.1.2.2.2.2.2.2)]))]) (hS : va_S A s.heap H locs) (ls : Array Slot) (hl : lv_has ls 3 [(1, .ref h1), (2, .ref h2)]), W p l e (headSpec w_C_refine ({ frames := 4, cells := 0, slots := 0, locals := 118 } : Room)).room s m ([.int (p0), .ref h1, .ref h2] : List Value).toArray below meth c H locs 0 0 (MQ below (va_Qv (fun _ : Unit => True) (mB (dC, dI) A [(h1, vE (f_C_refine p0 z1 z2).1), (h2, vE (f_C_refine p0 z1 z2).2)]) A) ([.int (p0), .ref h1, .ref h2] : List Value).toArray s 0 0 A) (F0 m 129 ls []) := by
    intro g126 hj H locs hP hD hS ls hl
    refine lv_goto (tgt := 153) hx hb d_C_refine_129 (by decide) ?_
    refine K153 g126.2.1 g126.2.2.1 g126.2.2.2.1 g126.2.2.2.2.1 g126.2.2.2.2.2.1 g126.2.2.2.2.2.2.1 g126.2.2.2.2.2.2.2 g126.1.1 g126.1.2.1 g126.1.2.2.1 g126.1.2.2.2.1 g126.1.2.2.2.2.1 g126.1.2.2.2.2.2.1 g126.1.2.2.2.2.2.2 (hj.trans rfl) H locs ?_ ?_ hS ls (lv_sub hl [0, 1] rfl)
    · with_reducible exact hP
    · with_reducible exact hD
  have K118g : ∀ (g118 : VV × VV) (hj : f_C_refine p0 z1 z2 = f_C_refine_118g p0 z1 z2 g118) (H : Heap) (locs : List Loc) (hP : va_P (dC, dI) classes [(h1, .inr (0, [.long (g118.1.1), .long (g118.1.2.1), .long (g118.1.2.2.1), .long (g118.1.2.2.2.1), .long (g118.1.2.2.2.2.1), .long (g118.1.2.2.2.2.2.1), .int (bI g118.1.2.2.2.2.2.2)])), (h2, .inr (0, [.long (g118.2.1), .long (g118.2.2.1), .long (g118.2.2.2.1), .long (g118.2.2.2.2.1), .long (g118.2.2.2.2.2.1), .long (g118.2.2.2.2.2.2.1), .int (bI g118.2.2.2.2.2.2.2)]))] H) (hD : va_D A [(h1, .inr (0, [.long (g118.1.1), .long (g118.1.2.1), .long (g118.1.2.2.1), .long (g118.1.2.2.2.1), .long (g118.1.2.2.2.2.1), .long (g118.1.2.2.2.2.2.1), .int (bI g118.1.2.2.2.2.2.2)])), (h2, .inr (0, [.long (g118.2.1), .long (g118.2.2.1), .long (g118.2.2.2.1), .long (g118.2.2.2.2.1), .long (g118.2.2.2.2.2.1), .long (g118.2.2.2.2.2.2.1), .int (bI g118.2.2.2.2.2.2.2)]))]) (hS : va_S A s.heap H locs) (ls : Array Slot) (hl : lv_has ls 3 [(1, .ref h1), (2, .ref h2)]), W p l e (headSpec w_C_refine ({ frames := 4, cells := 0, slots := 0, locals := 118 } : Room)).room s m ([.int (p0), .ref h1, .ref h2] : List Value).toArray below meth c H locs 0 0 (MQ below (va_Qv (fun _ : Unit => True) (mB (dC, dI) A [(h1, vE (f_C_refine p0 z1 z2).1), (h2, vE (f_C_refine p0 z1 z2).2)]) A) ([.int (p0), .ref h1, .ref h2] : List Value).toArray s 0 0 A) (F0 m 121 ls []) := by
    intro g118 hj H locs hP hD hS ls hl
    refine lv_goto (tgt := 153) hx hb d_C_refine_121 (by decide) ?_
    refine K153 g118.1.1 g118.1.2.1 g118.1.2.2.1 g118.1.2.2.2.1 g118.1.2.2.2.2.1 g118.1.2.2.2.2.2.1 g118.1.2.2.2.2.2.2 g118.2.1 g118.2.2.1 g118.2.2.2.1 g118.2.2.2.2.1 g118.2.2.2.2.2.1 g118.2.2.2.2.2.2.1 g118.2.2.2.2.2.2.2 (hj.trans rfl) H locs ?_ ?_ hS ls (lv_sub hl [0, 1] rfl)
    · with_reducible exact hP
    · with_reducible exact hD
  have K110g : ∀ (g110 : VV × VV) (hj : f_C_refine p0 z1 z2 = f_C_refine_110g p0 z1 z2 g110) (H : Heap) (locs : List Loc) (hP : va_P (dC, dI) classes [(h1, .inr (0, [.long (g110.1.1), .long (g110.1.2.1), .long (g110.1.2.2.1), .long (g110.1.2.2.2.1), .long (g110.1.2.2.2.2.1), .long (g110.1.2.2.2.2.2.1), .int (bI g110.1.2.2.2.2.2.2)])), (h2, .inr (0, [.long (g110.2.1), .long (g110.2.2.1), .long (g110.2.2.2.1), .long (g110.2.2.2.2.1), .long (g110.2.2.2.2.2.1), .long (g110.2.2.2.2.2.2.1), .int (bI g110.2.2.2.2.2.2.2)]))] H) (hD : va_D A [(h1, .inr (0, [.long (g110.1.1), .long (g110.1.2.1), .long (g110.1.2.2.1), .long (g110.1.2.2.2.1), .long (g110.1.2.2.2.2.1), .long (g110.1.2.2.2.2.2.1), .int (bI g110.1.2.2.2.2.2.2)])), (h2, .inr (0, [.long (g110.2.1), .long (g110.2.2.1), .long (g110.2.2.2.1), .long (g110.2.2.2.2.1), .long (g110.2.2.2.2.2.1), .long (g110.2.2.2.2.2.2.1), .int (bI g110.2.2.2.2.2.2.2)]))]) (hS : va_S A s.heap H locs) (ls : Array Slot) (hl : lv_has ls 3 [(1, .ref h1), (2, .ref h2)]), W p l e (headSpec w_C_refine ({ frames := 4, cells := 0, slots := 0, locals := 118 } : Room)).room s m ([.int (p0), .ref h1, .ref h2] : List Value).toArray below meth c H locs 0 0 (MQ below (va_Qv (fun _ : Unit => True) (mB (dC, dI) A [(h1, vE (f_C_refine p0 z1 z2).1), (h2, vE (f_C_refine p0 z1 z2).2)]) A) ([.int (p0), .ref h1, .ref h2] : List Value).toArray s 0 0 A) (F0 m 113 ls []) := by
    intro g110 hj H locs hP hD hS ls hl
    refine lv_goto (tgt := 153) hx hb d_C_refine_113 (by decide) ?_
    refine K153 g110.1.1 g110.1.2.1 g110.1.2.2.1 g110.1.2.2.2.1 g110.1.2.2.2.2.1 g110.1.2.2.2.2.2.1 g110.1.2.2.2.2.2.2 g110.2.1 g110.2.2.1 g110.2.2.2.1 g110.2.2.2.2.1 g110.2.2.2.2.2.1 g110.2.2.2.2.2.2.1 g110.2.2.2.2.2.2.2 (hj.trans rfl) H locs ?_ ?_ hS ls (lv_sub hl [0, 1] rfl)
    · with_reducible exact hP
    · with_reducible exact hD
  have K102g : ∀ (g102 : VV × VV) (hj : f_C_refine p0 z1 z2 = f_C_refine_102g p0 z1 z2 g102) (H : Heap) (locs : List Loc) (hP : va_P (dC, dI) classes [(h1, .inr (0, [.long (g102.2.1), .long (g102.2.2.1), .long (g102.2.2.2.1), .long (g102.2.2.2.2.1), .long (g102.2.2.2.2.2.1), .long (g102.2.2.2.2.2.2.1), .int (bI g102.2.2.2.2.2.2.2)])), (h2, .inr (0, [.long (g102.1.1), .long (g102.1.2.1), .long (g102.1.2.2.1), .long (g102.1.2.2.2.1), .long (g102.1.2.2.2.2.1), .long (g102.1.2.2.2.2.2.1), .int (bI g102.1.2.2.2.2.2.2)]))] H) (hD : va_D A [(h1, .inr (0, [.long (g102.2.1), .long (g102.2.2.1), .long (g102.2.2.2.1), .long (g102.2.2.2.2.1), .long (g102.2.2.2.2.2.1), .long (g102.2.2.2.2.2.2.1), .int (bI g102.2.2.2.2.2.2.2)])), (h2, .inr (0, [.long (g102.1.1), .long (g102.1.2.1), .long (g102.1.2.2.1), .long (g102.1.2.2.2.1), .long (g102.1.2.2.2.2.1), .long (g102.1.2.2.2.2.2.1), .int (bI g102.1.2.2.2.2.2.2)]))]) (hS : va_S A s.heap H locs) (ls : Array Slot) (hl : lv_has ls 3 [(1, .ref h1), (2, .ref h2)]), W p l e (headSpec w_C_refine ({ frames := 4, cells := 0, slots := 0, locals := 118 } : Room)).room s m ([.int (p0), .ref h1, .ref h2] : List Value).toArray below meth c H locs 0 0 (MQ below (va_Qv (fun _ : Unit => True) (mB (dC, dI) A [(h1, vE (f_C_refine p0 z1 z2).1), (h2, vE (f_C_refine p0 z1 z2).2)]) A) ([.int (p0), .ref h1, .ref h2] : List Value).toArray s 0 0 A) (F0 m 105 ls []) := by
    intro g102 hj H locs hP hD hS ls hl
    refine lv_goto (tgt := 153) hx hb d_C_refine_105 (by decide) ?_
    refine K153 g102.2.1 g102.2.2.1 g102.2.2.2.1 g102.2.2.2.2.1 g102.2.2.2.2.2.1 g102.2.2.2.2.2.2.1 g102.2.2.2.2.2.2.2 g102.1.1 g102.1.2.1 g102.1.2.2.1 g102.1.2.2.2.1 g102.1.2.2.2.2.1 g102.1.2.2.2.2.2.1 g102.1.2.2.2.2.2.2 (hj.trans rfl) H locs ?_ ?_ hS ls (lv_sub hl [0, 1] rfl)
    · with_reducible exact hP
    · with_reducible exact hD
  have K94g : ∀ (g94 : VV × VV) (hj : f_C_refine p0 z1 z2 = f_C_refine_94g p0 z1 z2 g94) (H : Heap) (locs : List Loc) (hP : va_P (dC, dI) classes [(h1, .inr (0, [.long (g94.2.1), .long (g94.2.2.1), .long (g94.2.2.2.1), .long (g94.2.2.2.2.1), .long (g94.2.2.2.2.2.1), .long (g94.2.2.2.2.2.2.1), .int (bI g94.2.2.2.2.2.2.2)])), (h2, .inr (0, [.long (g94.1.1), .long (g94.1.2.1), .long (g94.1.2.2.1), .long (g94.1.2.2.2.1), .long (g94.1.2.2.2.2.1), .long (g94.1.2.2.2.2.2.1), .int (bI g94.1.2.2.2.2.2.2)]))] H) (hD : va_D A [(h1, .inr (0, [.long (g94.2.1), .long (g94.2.2.1), .long (g94.2.2.2.1), .long (g94.2.2.2.2.1), .long (g94.2.2.2.2.2.1), .long (g94.2.2.2.2.2.2.1), .int (bI g94.2.2.2.2.2.2.2)])), (h2, .inr (0, [.long (g94.1.1), .long (g94.1.2.1), .long (g94.1.2.2.1), .long (g94.1.2.2.2.1), .long (g94.1.2.2.2.2.1), .long (g94.1.2.2.2.2.2.1), .int (bI g94.1.2.2.2.2.2.2)]))]) (hS : va_S A s.heap H locs) (ls : Array Slot) (hl : lv_has ls 3 [(1, .ref h1), (2, .ref h2)]), W p l e (headSpec w_C_refine ({ frames := 4, cells := 0, slots := 0, locals := 118 } : Room)).room s m ([.int (p0), .ref h1, .ref h2] : List Value).toArray below meth c H locs 0 0 (MQ below (va_Qv (fun _ : Unit => True) (mB (dC, dI) A [(h1, vE (f_C_refine p0 z1 z2).1), (h2, vE (f_C_refine p0 z1 z2).2)]) A) ([.int (p0), .ref h1, .ref h2] : List Value).toArray s 0 0 A) (F0 m 97 ls []) := by
    intro g94 hj H locs hP hD hS ls hl
    refine lv_goto (tgt := 153) hx hb d_C_refine_97 (by decide) ?_
    refine K153 g94.2.1 g94.2.2.1 g94.2.2.2.1 g94.2.2.2.2.1 g94.2.2.2.2.2.1 g94.2.2.2.2.2.2.1 g94.2.2.2.2.2.2.2 g94.1.1 g94.1.2.1 g94.1.2.2.1 g94.1.2.2.2.1 g94.1.2.2.2.2.1 g94.1.2.2.2.2.2.1 g94.1.2.2.2.2.2.2 (hj.trans rfl) H locs ?_ ?_ hS ls (lv_sub hl [0, 1] rfl)
    · with_reducible exact hP
    · with_reducible exact hD
  have K86g : ∀ (g86 : VV × VV) (hj : f_C_refine p0 z1 z2 = f_C_refine_86g p0 z1 z2 g86) (H : Heap) (locs : List Loc) (hP : va_P (dC, dI) classes [(h1, .inr (0, [.long (g86.1.1), .long (g86.1.2.1), .long (g86.1.2.2.1), .long (g86.1.2.2.2.1), .long (g86.1.2.2.2.2.1), .long (g86.1.2.2.2.2.2.1), .int (bI g86.1.2.2.2.2.2.2)])), (h2, .inr (0, [.long (g86.2.1), .long (g86.2.2.1), .long (g86.2.2.2.1), .long (g86.2.2.2.2.1), .long (g86.2.2.2.2.2.1), .long (g86.2.2.2.2.2.2.1), .int (bI g86.2.2.2.2.2.2.2)]))] H) (hD : va_D A [(h1, .inr (0, [.long (g86.1.1), .long (g86.1.2.1), .long (g86.1.2.2.1), .long (g86.1.2.2.2.1), .long (g86.1.2.2.2.2.1), .long (g86.1.2.2.2.2.2.1), .int (bI g86.1.2.2.2.2.2.2)])), (h2, .inr (0, [.long (g86.2.1), .long (g86.2.2.1), .long (g86.2.2.2.1), .long (g86.2.2.2.2.1), .long (g86.2.2.2.2.2.1), .long (g86.2.2.2.2.2.2.1), .int (bI g86.2.2.2.2.2.2.2)]))]) (hS : va_S A s.heap H locs) (ls : Array Slot) (hl : lv_has ls 3 [(1, .ref h1), (2, .ref h2)]), W p l e (headSpec w_C_refine ({ frames := 4, cells := 0, slots := 0, locals := 118 } : Room)).room s m ([.int (p0), .ref h1, .ref h2] : List Value).toArray below meth c H locs 0 0 (MQ below (va_Qv (fun _ : Unit => True) (mB (dC, dI) A [(h1, vE (f_C_refine p0 z1 z2).1), (h2, vE (f_C_refine p0 z1 z2).2)]) A) ([.int (p0), .ref h1, .ref h2] : List Value).toArray s 0 0 A) (F0 m 89 ls []) := by
    intro g86 hj H locs hP hD hS ls hl
    refine lv_goto (tgt := 153) hx hb d_C_refine_89 (by decide) ?_
    refine K153 g86.1.1 g86.1.2.1 g86.1.2.2.1 g86.1.2.2.2.1 g86.1.2.2.2.2.1 g86.1.2.2.2.2.2.1 g86.1.2.2.2.2.2.2 g86.2.1 g86.2.2.1 g86.2.2.2.1 g86.2.2.2.2.1 g86.2.2.2.2.2.1 g86.2.2.2.2.2.2.1 g86.2.2.2.2.2.2.2 (hj.trans rfl) H locs ?_ ?_ hS ls (lv_sub hl [0, 1] rfl)
    · with_reducible exact hP
    · with_reducible exact hD
  have K78g : ∀ (g78 : VV × VV) (hj : f_C_refine p0 z1 z2 = f_C_refine_78g p0 z1 z2 g78) (H : Heap) (locs : List Loc) (hP : va_P (dC, dI) classes [(h1, .inr (0, [.long (g78.1.1), .long (g78.1.2.1), .long (g78.1.2.2.1), .long (g78.1.2.2.2.1), .long (g78.1.2.2.2.2.1), .long (g78.1.2.2.2.2.2.1), .int (bI g78.1.2.2.2.2.2.2)])), (h2, .inr (0, [.long (g78.2.1), .long (g78.2.2.1), .long (g78.2.2.2.1), .long (g78.2.2.2.2.1), .long (g78.2.2.2.2.2.1), .long (g78.2.2.2.2.2.2.1), .int (bI g78.2.2.2.2.2.2.2)]))] H) (hD : va_D A [(h1, .inr (0, [.long (g78.1.1), .long (g78.1.2.1), .long (g78.1.2.2.1), .long (g78.1.2.2.2.1), .long (g78.1.2.2.2.2.1), .long (g78.1.2.2.2.2.2.1), .int (bI g78.1.2.2.2.2.2.2)])), (h2, .inr (0, [.long (g78.2.1), .long (g78.2.2.1), .long (g78.2.2.2.1), .long (g78.2.2.2.2.1), .long (g78.2.2.2.2.2.1), .long (g78.2.2.2.2.2.2.1), .int (bI g78.2.2.2.2.2.2.2)]))]) (hS : va_S A s.heap H locs) (ls : Array Slot) (hl : lv_has ls 3 [(1, .ref h1), (2, .ref h2)]), W p l e (headSpec w_C_refine ({ frames := 4, cells := 0, slots := 0, locals := 118 } : Room)).room s m ([.int (p0), .ref h1, .ref h2] : List Value).toArray below meth c H locs 0 0 (MQ below (va_Qv (fun _ : Unit => True) (mB (dC, dI) A [(h1, vE (f_C_refine p0 z1 z2).1), (h2, vE (f_C_refine p0 z1 z2).2)]) A) ([.int (p0), .ref h1, .ref h2] : List Value).toArray s 0 0 A) (F0 m 81 ls []) := by
    intro g78 hj H locs hP hD hS ls hl
    refine lv_goto (tgt := 153) hx hb d_C_refine_81 (by decide) ?_
    refine K153 g78.1.1 g78.1.2.1 g78.1.2.2.1 g78.1.2.2.2.1 g78.1.2.2.2.2.1 g78.1.2.2.2.2.2.1 g78.1.2.2.2.2.2.2 g78.2.1 g78.2.2.1 g78.2.2.2.1 g78.2.2.2.2.1 g78.2.2.2.2.2.1 g78.2.2.2.2.2.2.1 g78.2.2.2.2.2.2.2 (hj.trans rfl) H locs ?_ ?_ hS ls (lv_sub hl [0, 1] rfl)
    · with_reducible exact hP
    · with_reducible exact hD
  have K70g : ∀ (g70 : VV × VV) (hj : f_C_refine p0 z1 z2 = f_C_refine_70g p0 z1 z2 g70) (H : Heap) (locs : List Loc) (hP : va_P (dC, dI) classes [(h1, .inr (0, [.long (g70.1.1), .long (g70.1.2.1), .long (g70.1.2.2.1), .long (g70.1.2.2.2.1), .long (g70.1.2.2.2.2.1), .long (g70.1.2.2.2.2.2.1), .int (bI g70.1.2.2.2.2.2.2)])), (h2, .inr (0, [.long (g70.2.1), .long (g70.2.2.1), .long (g70.2.2.2.1), .long (g70.2.2.2.2.1), .long (g70.2.2.2.2.2.1), .long (g70.2.2.2.2.2.2.1), .int (bI g70.2.2.2.2.2.2.2)]))] H) (hD : va_D A [(h1, .inr (0, [.long (g70.1.1), .long (g70.1.2.1), .long (g70.1.2.2.1), .long (g70.1.2.2.2.1), .long (g70.1.2.2.2.2.1), .long (g70.1.2.2.2.2.2.1), .int (bI g70.1.2.2.2.2.2.2)])), (h2, .inr (0, [.long (g70.2.1), .long (g70.2.2.1), .long (g70.2.2.2.1), .long (g70.2.2.2.2.1), .long (g70.2.2.2.2.2.1), .long (g70.2.2.2.2.2.2.1), .int (bI g70.2.2.2.2.2.2.2)]))]) (hS : va_S A s.heap H locs) (ls : Array Slot) (hl : lv_has ls 3 [(1, .ref h1), (2, .ref h2)]), W p l e (headSpec w_C_refine ({ frames := 4, cells := 0, slots := 0, locals := 118 } : Room)).room s m ([.int (p0), .ref h1, .ref h2] : List Value).toArray below meth c H locs 0 0 (MQ below (va_Qv (fun _ : Unit => True) (mB (dC, dI) A [(h1, vE (f_C_refine p0 z1 z2).1), (h2, vE (f_C_refine p0 z1 z2).2)]) A) ([.int (p0), .ref h1, .ref h2] : List Value).toArray s 0 0 A) (F0 m 73 ls []) := by
    intro g70 hj H locs hP hD hS ls hl
    refine lv_goto (tgt := 153) hx hb d_C_refine_73 (by decide) ?_
    refine K153 g70.1.1 g70.1.2.1 g70.1.2.2.1 g70.1.2.2.2.1 g70.1.2.2.2.2.1 g70.1.2.2.2.2.2.1 g70.1.2.2.2.2.2.2 g70.2.1 g70.2.2.1 g70.2.2.2.1 g70.2.2.2.2.1 g70.2.2.2.2.2.1 g70.2.2.2.2.2.2.1 g70.2.2.2.2.2.2.2 (hj.trans rfl) H locs ?_ ?_ hS ls (lv_sub hl [0, 1] rfl)
    · with_reducible exact hP
    · with_reducible exact hD
  have K62g : ∀ (g62 : VV × VV) (hj : f_C_refine p0 z1 z2 = f_C_refine_62g p0 z1 z2 g62) (H : Heap) (locs : List Loc) (hP : va_P (dC, dI) classes [(h1, .inr (0, [.long (g62.1.1), .long (g62.1.2.1), .long (g62.1.2.2.1), .long (g62.1.2.2.2.1), .long (g62.1.2.2.2.2.1), .long (g62.1.2.2.2.2.2.1), .int (bI g62.1.2.2.2.2.2.2)])), (h2, .inr (0, [.long (g62.2.1), .long (g62.2.2.1), .long (g62.2.2.2.1), .long (g62.2.2.2.2.1), .long (g62.2.2.2.2.2.1), .long (g62.2.2.2.2.2.2.1), .int (bI g62.2.2.2.2.2.2.2)]))] H) (hD : va_D A [(h1, .inr (0, [.long (g62.1.1), .long (g62.1.2.1), .long (g62.1.2.2.1), .long (g62.1.2.2.2.1), .long (g62.1.2.2.2.2.1), .long (g62.1.2.2.2.2.2.1), .int (bI g62.1.2.2.2.2.2.2)])), (h2, .inr (0, [.long (g62.2.1), .long (g62.2.2.1), .long (g62.2.2.2.1), .long (g62.2.2.2.2.1), .long (g62.2.2.2.2.2.1), .long (g62.2.2.2.2.2.2.1), .int (bI g62.2.2.2.2.2.2.2)]))]) (hS : va_S A s.heap H locs) (ls : Array Slot) (hl : lv_has ls 3 [(1, .ref h1), (2, .ref h2)]), W p l e (headSpec w_C_refine ({ frames := 4, cells := 0, slots := 0, locals := 118 } : Room)).room s m ([.int (p0), .ref h1, .ref h2] : List Value).toArray below meth c H locs 0 0 (MQ below (va_Qv (fun _ : Unit => True) (mB (dC, dI) A [(h1, vE (f_C_refine p0 z1 z2).1), (h2, vE (f_C_refine p0 z1 z2).2)]) A) ([.int (p0), .ref h1, .ref h2] : List Value).toArray s 0 0 A) (F0 m 65 ls []) := by
    intro g62 hj H locs hP hD hS ls hl
    refine lv_goto (tgt := 153) hx hb d_C_refine_65 (by decide) ?_
    refine K153 g62.1.1 g62.1.2.1 g62.1.2.2.1 g62.1.2.2.2.1 g62.1.2.2.2.2.1 g62.1.2.2.2.2.2.1 g62.1.2.2.2.2.2.2 g62.2.1 g62.2.2.1 g62.2.2.2.1 g62.2.2.2.2.1 g62.2.2.2.2.2.1 g62.2.2.2.2.2.2.1 g62.2.2.2.2.2.2.2 (hj.trans rfl) H locs ?_ ?_ hS ls (lv_sub hl [0, 1] rfl)
    · with_reducible exact hP
    · with_reducible exact hD
  refine lv_iload_n hx hb d_C_refine_0 rfl (lv_at hl 0 rfl) ?_
  by_cases e1_60 : p0 = 0
  · refine lv_tableIn (off := 59) (tgt := 60) hx hb d_C_refine_1 (by rw [e1_60]; decide) (by rw [e1_60]; decide) (by rw [e1_60]; rfl) (by decide) ?_
    refine lv_aload_n hx hb d_C_refine_60 rfl (lv_at hl 1 rfl) ?_
    refine lv_aload_n hx hb d_C_refine_61 rfl (lv_at hl 2 rfl) ?_
    refine mg_v (F := f_C_equate z1 z2) (wc := [(h1, vE z1), (h2, vE z2)]) (w1 := fun g62 => [(h1, vE g62.1), (h2, vE g62.2)]) (wr := []) (ws' := fun g62 => [(h1, .inr (0, [.long (g62.1.1), .long (g62.1.2.1), .long (g62.1.2.2.1), .long (g62.1.2.2.2.1), .long (g62.1.2.2.2.2.1), .long (g62.1.2.2.2.2.2.1), .int (bI g62.1.2.2.2.2.2.2)])), (h2, .inr (0, [.long (g62.2.1), .long (g62.2.2.1), .long (g62.2.2.2.1), .long (g62.2.2.2.2.1), .long (g62.2.2.2.2.2.1), .long (g62.2.2.2.2.2.2.1), .int (bI g62.2.2.2.2.2.2.2)]))]) (va_runS (As := [.ref h1, .ref h2]) (rest := []) ⟨hx, hb, hml, hown, hts⟩ (c_C_equate l dC dI h1 h2 s.heap.size z1 z2) (va_cwS 2 hts (gS gw306 gw307 gw6 gw308) rfl rfl rfl (by decide +kernel) ⟨(Nat.le_of_ble_eq_true rfl), (Nat.le_of_ble_eq_true rfl)⟩) ⟨blm, fun U hU hW => ⟨rfl, by rw [hU], by rw [hU]; exact hP.sub [0, 1] rfl, va_K.moved hW.alike hK, (hD.sub [0, 1] (by decide) rfl).weaken (fun _ _ _ _ => trivial)⟩⟩ rfl rfl hl.1 rfl (lv_room (Nat.le_of_ble_eq_true rfl)) d_C_refine_62 ⟨Nat.zero_le _, Nat.zero_le _⟩) hP hD hS hA [0, 1] [] [0, 1] rfl rfl (by decide) (by decide) (fun _ => rfl) (by decide) (fun g62 eg62 H locs hP hD hS => ?_)
    refine K62g g62 (Eq.trans (by unfold f_C_refine; first | with_reducible exact if_pos e1_60 | exact if_pos e1_60) (congrArg (fun g62 => f_C_refine_62g p0 z1 z2 g62) eg62)) H locs ?_ ?_ hS ls (lv_sub hl [1, 2] rfl)
    · with_reducible exact hP
    · with_reducible exact hD
  by_cases e2_68 : p0 = 1
  · refine lv_tableIn (off := 67) (tgt := 68) hx hb d_C_refine_1 (by rw [e2_68]; decide) (by rw [e2_68]; decide) (by rw [e2_68]; rfl) (by decide) ?_
    refine lv_aload_n hx hb d_C_refine_68 rfl (lv_at hl 1 rfl) ?_
    refine lv_aload_n hx hb d_C_refine_69 rfl (lv_at hl 2 rfl) ?_
    refine mg_v (F := f_C_part z1 z2) (wc := [(h1, vE z1), (h2, vE z2)]) (w1 := fun g70 => [(h1, vE g70.1), (h2, vE g70.2)]) (wr := []) (ws' := fun g70 => [(h1, .inr (0, [.long (g70.1.1), .long (g70.1.2.1), .long (g70.1.2.2.1), .long (g70.1.2.2.2.1), .long (g70.1.2.2.2.2.1), .long (g70.1.2.2.2.2.2.1), .int (bI g70.1.2.2.2.2.2.2)])), (h2, .inr (0, [.long (g70.2.1), .long (g70.2.2.1), .long (g70.2.2.2.1), .long (g70.2.2.2.2.1), .long (g70.2.2.2.2.2.1), .long (g70.2.2.2.2.2.2.1), .int (bI g70.2.2.2.2.2.2.2)]))]) (va_runS (As := [.ref h1, .ref h2]) (rest := []) ⟨hx, hb, hml, hown, hts⟩ (c_C_part l dC dI h1 h2 s.heap.size z1 z2) (va_cwS 2 hts (gS gw318 gw319 gw6 gw320) rfl rfl rfl (by decide +kernel) ⟨(Nat.le_of_ble_eq_true rfl), (Nat.le_of_ble_eq_true rfl)⟩) ⟨blm, fun U hU hW => ⟨rfl, by rw [hU], by rw [hU]; exact hP.sub [0, 1] rfl, va_K.moved hW.alike hK, (hD.sub [0, 1] (by decide) rfl).weaken (fun _ _ _ _ => trivial)⟩⟩ rfl rfl hl.1 rfl (lv_room (Nat.le_of_ble_eq_true rfl)) d_C_refine_70 ⟨Nat.zero_le _, Nat.zero_le _⟩) hP hD hS hA [0, 1] [] [0, 1] rfl rfl (by decide) (by decide) (fun _ => rfl) (by decide) (fun g70 eg70 H locs hP hD hS => ?_)
    refine K70g g70 (Eq.trans (by unfold f_C_refine; first | with_reducible exact (if_neg e1_60).trans (if_pos e2_68) | exact (if_neg e1_60).trans (if_pos e2_68)) (congrArg (fun g70 => f_C_refine_70g p0 z1 z2 g70) eg70)) H locs ?_ ?_ hS ls (lv_sub hl [1, 2] rfl)
    · with_reducible exact hP
    · with_reducible exact hD
  by_cases e3_76 : p0 = 2
  · refine lv_tableIn (off := 75) (tgt := 76) hx hb d_C_refine_1 (by rw [e3_76]; decide) (by rw [e3_76]; decide) (by rw [e3_76]; rfl) (by decide) ?_
    refine lv_aload_n hx hb d_C_refine_76 rfl (lv_at hl 1 rfl) ?_
    refine lv_aload_n hx hb d_C_refine_77 rfl (lv_at hl 2 rfl) ?_
    refine mg_v (F := f_C_orderStrictly z1 z2) (wc := [(h1, vE z1), (h2, vE z2)]) (w1 := fun g78 => [(h1, vE g78.1), (h2, vE g78.2)]) (wr := []) (ws' := fun g78 => [(h1, .inr (0, [.long (g78.1.1), .long (g78.1.2.1), .long (g78.1.2.2.1), .long (g78.1.2.2.2.1), .long (g78.1.2.2.2.2.1), .long (g78.1.2.2.2.2.2.1), .int (bI g78.1.2.2.2.2.2.2)])), (h2, .inr (0, [.long (g78.2.1), .long (g78.2.2.1), .long (g78.2.2.2.1), .long (g78.2.2.2.2.1), .long (g78.2.2.2.2.2.1), .long (g78.2.2.2.2.2.2.1), .int (bI g78.2.2.2.2.2.2.2)]))]) (va_runS (As := [.ref h1, .ref h2]) (rest := []) ⟨hx, hb, hml, hown, hts⟩ (c_C_orderStrictly l dC dI h1 h2 s.heap.size z1 z2) (va_cwS 2 hts (gS gw325 gw326 gw6 gw327) rfl rfl rfl (by decide +kernel) ⟨(Nat.le_of_ble_eq_true rfl), (Nat.le_of_ble_eq_true rfl)⟩) ⟨blm, fun U hU hW => ⟨rfl, by rw [hU], by rw [hU]; exact hP.sub [0, 1] rfl, va_K.moved hW.alike hK, (hD.sub [0, 1] (by decide) rfl).weaken (fun _ _ _ _ => trivial)⟩⟩ rfl rfl hl.1 rfl (lv_room (Nat.le_of_ble_eq_true rfl)) d_C_refine_78 ⟨Nat.zero_le _, Nat.zero_le _⟩) hP hD hS hA [0, 1] [] [0, 1] rfl rfl (by decide) (by decide) (fun _ => rfl) (by decide) (fun g78 eg78 H locs hP hD hS => ?_)
    refine K78g g78 (Eq.trans (by unfold f_C_refine; first | with_reducible exact (if_neg e1_60).trans ((if_neg e2_68).trans (if_pos e3_76)) | exact (if_neg e1_60).trans ((if_neg e2_68).trans (if_pos e3_76))) (congrArg (fun g78 => f_C_refine_78g p0 z1 z2 g78) eg78)) H locs ?_ ?_ hS ls (lv_sub hl [1, 2] rfl)
    · with_reducible exact hP
    · with_reducible exact hD
  by_cases e4_84 : p0 = 3
  · refine lv_tableIn (off := 83) (tgt := 84) hx hb d_C_refine_1 (by rw [e4_84]; decide) (by rw [e4_84]; decide) (by rw [e4_84]; rfl) (by decide) ?_
    refine lv_aload_n hx hb d_C_refine_84 rfl (lv_at hl 1 rfl) ?_
    refine lv_aload_n hx hb d_C_refine_85 rfl (lv_at hl 2 rfl) ?_
    refine mg_v (F := f_C_order z1 z2) (wc := [(h1, vE z1), (h2, vE z2)]) (w1 := fun g86 => [(h1, vE g86.1), (h2, vE g86.2)]) (wr := []) (ws' := fun g86 => [(h1, .inr (0, [.long (g86.1.1), .long (g86.1.2.1), .long (g86.1.2.2.1), .long (g86.1.2.2.2.1), .long (g86.1.2.2.2.2.1), .long (g86.1.2.2.2.2.2.1), .int (bI g86.1.2.2.2.2.2.2)])), (h2, .inr (0, [.long (g86.2.1), .long (g86.2.2.1), .long (g86.2.2.2.1), .long (g86.2.2.2.2.1), .long (g86.2.2.2.2.2.1), .long (g86.2.2.2.2.2.2.1), .int (bI g86.2.2.2.2.2.2.2)]))]) (va_runS (As := [.ref h1, .ref h2]) (rest := []) ⟨hx, hb, hml, hown, hts⟩ (c_C_order l dC dI h1 h2 s.heap.size z1 z2) (va_cwS 2 hts (gS gw328 gw329 gw6 gw330) rfl rfl rfl (by decide +kernel) ⟨(Nat.le_of_ble_eq_true rfl), (Nat.le_of_ble_eq_true rfl)⟩) ⟨blm, fun U hU hW => ⟨rfl, by rw [hU], by rw [hU]; exact hP.sub [0, 1] rfl, va_K.moved hW.alike hK, (hD.sub [0, 1] (by decide) rfl).weaken (fun _ _ _ _ => trivial)⟩⟩ rfl rfl hl.1 rfl (lv_room (Nat.le_of_ble_eq_true rfl)) d_C_refine_86 ⟨Nat.zero_le _, Nat.zero_le _⟩) hP hD hS hA [0, 1] [] [0, 1] rfl rfl (by decide) (by decide) (fun _ => rfl) (by decide) (fun g86 eg86 H locs hP hD hS => ?_)
    refine K86g g86 (Eq.trans (by unfold f_C_refine; first | with_reducible exact (if_neg e1_60).trans ((if_neg e2_68).trans ((if_neg e3_76).trans (if_pos e4_84))) | exact (if_neg e1_60).trans ((if_neg e2_68).trans ((if_neg e3_76).trans (if_pos e4_84)))) (congrArg (fun g86 => f_C_refine_86g p0 z1 z2 g86) eg86)) H locs ?_ ?_ hS ls (lv_sub hl [1, 2] rfl)
    · with_reducible exact hP
    · with_reducible exact hD
  by_cases e5_92 : p0 = 4
  · refine lv_tableIn (off := 91) (tgt := 92) hx hb d_C_refine_1 (by rw [e5_92]; decide) (by rw [e5_92]; decide) (by rw [e5_92]; rfl) (by decide) ?_
    refine lv_aload_n hx hb d_C_refine_92 rfl (lv_at hl 2 rfl) ?_
    refine lv_aload_n hx hb d_C_refine_93 rfl (lv_at hl 1 rfl) ?_
    refine mg_v (F := f_C_orderStrictly z2 z1) (wc := [(h2, vE z2), (h1, vE z1)]) (w1 := fun g94 => [(h2, vE g94.1), (h1, vE g94.2)]) (wr := []) (ws' := fun g94 => [(h1, .inr (0, [.long (g94.2.1), .long (g94.2.2.1), .long (g94.2.2.2.1), .long (g94.2.2.2.2.1), .long (g94.2.2.2.2.2.1), .long (g94.2.2.2.2.2.2.1), .int (bI g94.2.2.2.2.2.2.2)])), (h2, .inr (0, [.long (g94.1.1), .long (g94.1.2.1), .long (g94.1.2.2.1), .long (g94.1.2.2.2.1), .long (g94.1.2.2.2.2.1), .long (g94.1.2.2.2.2.2.1), .int (bI g94.1.2.2.2.2.2.2)]))]) (va_runS (As := [.ref h2, .ref h1]) (rest := []) ⟨hx, hb, hml, hown, hts⟩ (c_C_orderStrictly l dC dI h2 h1 s.heap.size z2 z1) (va_cwS 2 hts (gS gw325 gw326 gw6 gw327) rfl rfl rfl (by decide +kernel) ⟨(Nat.le_of_ble_eq_true rfl), (Nat.le_of_ble_eq_true rfl)⟩) ⟨blm, fun U hU hW => ⟨rfl, by rw [hU], by rw [hU]; exact hP.sub [1, 0] rfl, va_K.moved hW.alike hK, (hD.sub [1, 0] (by decide) rfl).weaken (fun _ _ _ _ => trivial)⟩⟩ rfl rfl hl.1 rfl (lv_room (Nat.le_of_ble_eq_true rfl)) d_C_refine_94 ⟨Nat.zero_le _, Nat.zero_le _⟩) hP hD hS hA [1, 0] [] [1, 0] rfl rfl (by decide) (by decide) (fun _ => rfl) (by decide) (fun g94 eg94 H locs hP hD hS => ?_)
    refine K94g g94 (Eq.trans (by unfold f_C_refine; first | with_reducible exact (if_neg e1_60).trans ((if_neg e2_68).trans ((if_neg e3_76).trans ((if_neg e4_84).trans (if_pos e5_92)))) | exact (if_neg e1_60).trans ((if_neg e2_68).trans ((if_neg e3_76).trans ((if_neg e4_84).trans (if_pos e5_92))))) (congrArg (fun g94 => f_C_refine_94g p0 z1 z2 g94) eg94)) H locs ?_ ?_ hS ls (lv_sub hl [1, 2] rfl)
    · with_reducible exact hP
    · with_reducible exact hD
  by_cases e6_100 : p0 = 5
  · refine lv_tableIn (off := 99) (tgt := 100) hx hb d_C_refine_1 (by rw [e6_100]; decide) (by rw [e6_100]; decide) (by rw [e6_100]; rfl) (by decide) ?_
    refine lv_aload_n hx hb d_C_refine_100 rfl (lv_at hl 2 rfl) ?_
    refine lv_aload_n hx hb d_C_refine_101 rfl (lv_at hl 1 rfl) ?_
    refine mg_v (F := f_C_order z2 z1) (wc := [(h2, vE z2), (h1, vE z1)]) (w1 := fun g102 => [(h2, vE g102.1), (h1, vE g102.2)]) (wr := []) (ws' := fun g102 => [(h1, .inr (0, [.long (g102.2.1), .long (g102.2.2.1), .long (g102.2.2.2.1), .long (g102.2.2.2.2.1), .long (g102.2.2.2.2.2.1), .long (g102.2.2.2.2.2.2.1), .int (bI g102.2.2.2.2.2.2.2)])), (h2, .inr (0, [.long (g102.1.1), .long (g102.1.2.1), .long (g102.1.2.2.1), .long (g102.1.2.2.2.1), .long (g102.1.2.2.2.2.1), .long (g102.1.2.2.2.2.2.1), .int (bI g102.1.2.2.2.2.2.2)]))]) (va_runS (As := [.ref h2, .ref h1]) (rest := []) ⟨hx, hb, hml, hown, hts⟩ (c_C_order l dC dI h2 h1 s.heap.size z2 z1) (va_cwS 2 hts (gS gw328 gw329 gw6 gw330) rfl rfl rfl (by decide +kernel) ⟨(Nat.le_of_ble_eq_true rfl), (Nat.le_of_ble_eq_true rfl)⟩) ⟨blm, fun U hU hW => ⟨rfl, by rw [hU], by rw [hU]; exact hP.sub [1, 0] rfl, va_K.moved hW.alike hK, (hD.sub [1, 0] (by decide) rfl).weaken (fun _ _ _ _ => trivial)⟩⟩ rfl rfl hl.1 rfl (lv_room (Nat.le_of_ble_eq_true rfl)) d_C_refine_102 ⟨Nat.zero_le _, Nat.zero_le _⟩) hP hD hS hA [1, 0] [] [1, 0] rfl rfl (by decide) (by decide) (fun _ => rfl) (by decide) (fun g102 eg102 H locs hP hD hS => ?_)
    refine K102g g102 (Eq.trans (by unfold f_C_refine; first | with_reducible exact (if_neg e1_60).trans ((if_neg e2_68).trans ((if_neg e3_76).trans ((if_neg e4_84).trans ((if_neg e5_92).trans (if_pos e6_100))))) | exact (if_neg e1_60).trans ((if_neg e2_68).trans ((if_neg e3_76).trans ((if_neg e4_84).trans ((if_neg e5_92).trans (if_pos e6_100)))))) (congrArg (fun g102 => f_C_refine_102g p0 z1 z2 g102) eg102)) H locs ?_ ?_ hS ls (lv_sub hl [1, 2] rfl)
    · with_reducible exact hP
    · with_reducible exact hD
  by_cases e7_108 : p0 = 6
  · refine lv_tableIn (off := 107) (tgt := 108) hx hb d_C_refine_1 (by rw [e7_108]; decide) (by rw [e7_108]; decide) (by rw [e7_108]; rfl) (by decide) ?_
    refine lv_aload_n hx hb d_C_refine_108 rfl (lv_at hl 1 rfl) ?_
    refine lv_aload_n hx hb d_C_refine_109 rfl (lv_at hl 2 rfl) ?_
    refine mg_v (F := f_C_orderSignedStrictly z1 z2) (wc := [(h1, vE z1), (h2, vE z2)]) (w1 := fun g110 => [(h1, vE g110.1), (h2, vE g110.2)]) (wr := []) (ws' := fun g110 => [(h1, .inr (0, [.long (g110.1.1), .long (g110.1.2.1), .long (g110.1.2.2.1), .long (g110.1.2.2.2.1), .long (g110.1.2.2.2.2.1), .long (g110.1.2.2.2.2.2.1), .int (bI g110.1.2.2.2.2.2.2)])), (h2, .inr (0, [.long (g110.2.1), .long (g110.2.2.1), .long (g110.2.2.2.1), .long (g110.2.2.2.2.1), .long (g110.2.2.2.2.2.1), .long (g110.2.2.2.2.2.2.1), .int (bI g110.2.2.2.2.2.2.2)]))]) (va_runS (As := [.ref h1, .ref h2]) (rest := []) ⟨hx, hb, hml, hown, hts⟩ (c_C_orderSignedStrictly l dC dI h1 h2 s.heap.size z1 z2) (va_cwS 2 hts (gS gw331 gw332 gw6 gw333) rfl rfl rfl (by decide +kernel) ⟨(Nat.le_of_ble_eq_true rfl), (Nat.le_of_ble_eq_true rfl)⟩) ⟨blm, fun U hU hW => ⟨rfl, by rw [hU], by rw [hU]; exact hP.sub [0, 1] rfl, va_K.moved hW.alike hK, (hD.sub [0, 1] (by decide) rfl).weaken (fun _ _ _ _ => trivial)⟩⟩ rfl rfl hl.1 rfl (lv_room (Nat.le_of_ble_eq_true rfl)) d_C_refine_110 ⟨Nat.zero_le _, Nat.zero_le _⟩) hP hD hS hA [0, 1] [] [0, 1] rfl rfl (by decide) (by decide) (fun _ => rfl) (by decide) (fun g110 eg110 H locs hP hD hS => ?_)
    refine K110g g110 (Eq.trans (by unfold f_C_refine; first | with_reducible exact (if_neg e1_60).trans ((if_neg e2_68).trans ((if_neg e3_76).trans ((if_neg e4_84).trans ((if_neg e5_92).trans ((if_neg e6_100).trans (if_pos e7_108)))))) | exact (if_neg e1_60).trans ((if_neg e2_68).trans ((if_neg e3_76).trans ((if_neg e4_84).trans ((if_neg e5_92).trans ((if_neg e6_100).trans (if_pos e7_108))))))) (congrArg (fun g110 => f_C_refine_110g p0 z1 z2 g110) eg110)) H locs ?_ ?_ hS ls (lv_sub hl [1, 2] rfl)
    · with_reducible exact hP
    · with_reducible exact hD
  by_cases e8_116 : p0 = 7
  · refine lv_tableIn (off := 115) (tgt := 116) hx hb d_C_refine_1 (by rw [e8_116]; decide) (by rw [e8_116]; decide) (by rw [e8_116]; rfl) (by decide) ?_
    refine lv_aload_n hx hb d_C_refine_116 rfl (lv_at hl 1 rfl) ?_
    refine lv_aload_n hx hb d_C_refine_117 rfl (lv_at hl 2 rfl) ?_
    refine mg_v (F := f_C_orderSigned z1 z2) (wc := [(h1, vE z1), (h2, vE z2)]) (w1 := fun g118 => [(h1, vE g118.1), (h2, vE g118.2)]) (wr := []) (ws' := fun g118 => [(h1, .inr (0, [.long (g118.1.1), .long (g118.1.2.1), .long (g118.1.2.2.1), .long (g118.1.2.2.2.1), .long (g118.1.2.2.2.2.1), .long (g118.1.2.2.2.2.2.1), .int (bI g118.1.2.2.2.2.2.2)])), (h2, .inr (0, [.long (g118.2.1), .long (g118.2.2.1), .long (g118.2.2.2.1), .long (g118.2.2.2.2.1), .long (g118.2.2.2.2.2.1), .long (g118.2.2.2.2.2.2.1), .int (bI g118.2.2.2.2.2.2.2)]))]) (va_runS (As := [.ref h1, .ref h2]) (rest := []) ⟨hx, hb, hml, hown, hts⟩ (c_C_orderSigned l dC dI h1 h2 s.heap.size z1 z2) (va_cwS 2 hts (gS gw336 gw337 gw6 gw338) rfl rfl rfl (by decide +kernel) ⟨(Nat.le_of_ble_eq_true rfl), (Nat.le_of_ble_eq_true rfl)⟩) ⟨blm, fun U hU hW => ⟨rfl, by rw [hU], by rw [hU]; exact hP.sub [0, 1] rfl, va_K.moved hW.alike hK, (hD.sub [0, 1] (by decide) rfl).weaken (fun _ _ _ _ => trivial)⟩⟩ rfl rfl hl.1 rfl (lv_room (Nat.le_of_ble_eq_true rfl)) d_C_refine_118 ⟨Nat.zero_le _, Nat.zero_le _⟩) hP hD hS hA [0, 1] [] [0, 1] rfl rfl (by decide) (by decide) (fun _ => rfl) (by decide) (fun g118 eg118 H locs hP hD hS => ?_)
    refine K118g g118 (Eq.trans (by unfold f_C_refine; first | with_reducible exact (if_neg e1_60).trans ((if_neg e2_68).trans ((if_neg e3_76).trans ((if_neg e4_84).trans ((if_neg e5_92).trans ((if_neg e6_100).trans ((if_neg e7_108).trans (if_pos e8_116))))))) | exact (if_neg e1_60).trans ((if_neg e2_68).trans ((if_neg e3_76).trans ((if_neg e4_84).trans ((if_neg e5_92).trans ((if_neg e6_100).trans ((if_neg e7_108).trans (if_pos e8_116)))))))) (congrArg (fun g118 => f_C_refine_118g p0 z1 z2 g118) eg118)) H locs ?_ ?_ hS ls (lv_sub hl [1, 2] rfl)
    · with_reducible exact hP
    · with_reducible exact hD
  by_cases e9_124 : p0 = 8
  · refine lv_tableIn (off := 123) (tgt := 124) hx hb d_C_refine_1 (by rw [e9_124]; decide) (by rw [e9_124]; decide) (by rw [e9_124]; rfl) (by decide) ?_
    refine lv_aload_n hx hb d_C_refine_124 rfl (lv_at hl 2 rfl) ?_
    refine lv_aload_n hx hb d_C_refine_125 rfl (lv_at hl 1 rfl) ?_
    refine mg_v (F := f_C_orderSignedStrictly z2 z1) (wc := [(h2, vE z2), (h1, vE z1)]) (w1 := fun g126 => [(h2, vE g126.1), (h1, vE g126.2)]) (wr := []) (ws' := fun g126 => [(h1, .inr (0, [.long (g126.2.1), .long (g126.2.2.1), .long (g126.2.2.2.1), .long (g126.2.2.2.2.1), .long (g126.2.2.2.2.2.1), .long (g126.2.2.2.2.2.2.1), .int (bI g126.2.2.2.2.2.2.2)])), (h2, .inr (0, [.long (g126.1.1), .long (g126.1.2.1), .long (g126.1.2.2.1), .long (g126.1.2.2.2.1), .long (g126.1.2.2.2.2.1), .long (g126.1.2.2.2.2.2.1), .int (bI g126.1.2.2.2.2.2.2)]))]) (va_runS (As := [.ref h2, .ref h1]) (rest := []) ⟨hx, hb, hml, hown, hts⟩ (c_C_orderSignedStrictly l dC dI h2 h1 s.heap.size z2 z1) (va_cwS 2 hts (gS gw331 gw332 gw6 gw333) rfl rfl rfl (by decide +kernel) ⟨(Nat.le_of_ble_eq_true rfl), (Nat.le_of_ble_eq_true rfl)⟩) ⟨blm, fun U hU hW => ⟨rfl, by rw [hU], by rw [hU]; exact hP.sub [1, 0] rfl, va_K.moved hW.alike hK, (hD.sub [1, 0] (by decide) rfl).weaken (fun _ _ _ _ => trivial)⟩⟩ rfl rfl hl.1 rfl (lv_room (Nat.le_of_ble_eq_true rfl)) d_C_refine_126 ⟨Nat.zero_le _, Nat.zero_le _⟩) hP hD hS hA [1, 0] [] [1, 0] rfl rfl (by decide) (by decide) (fun _ => rfl) (by decide) (fun g126 eg126 H locs hP hD hS => ?_)
    refine K126g g126 (Eq.trans (by unfold f_C_refine; first | with_reducible exact (if_neg e1_60).trans ((if_neg e2_68).trans ((if_neg e3_76).trans ((if_neg e4_84).trans ((if_neg e5_92).trans ((if_neg e6_100).trans ((if_neg e7_108).trans ((if_neg e8_116).trans (if_pos e9_124)))))))) | exact (if_neg e1_60).trans ((if_neg e2_68).trans ((if_neg e3_76).trans ((if_neg e4_84).trans ((if_neg e5_92).trans ((if_neg e6_100).trans ((if_neg e7_108).trans ((if_neg e8_116).trans (if_pos e9_124))))))))) (congrArg (fun g126 => f_C_refine_126g p0 z1 z2 g126) eg126)) H locs ?_ ?_ hS ls (lv_sub hl [1, 2] rfl)
    · with_reducible exact hP
    · with_reducible exact hD
  by_cases e10_132 : p0 = 9
  · refine lv_tableIn (off := 131) (tgt := 132) hx hb d_C_refine_1 (by rw [e10_132]; decide) (by rw [e10_132]; decide) (by rw [e10_132]; rfl) (by decide) ?_
    refine lv_aload_n hx hb d_C_refine_132 rfl (lv_at hl 2 rfl) ?_
    refine lv_aload_n hx hb d_C_refine_133 rfl (lv_at hl 1 rfl) ?_
    refine mg_v (F := f_C_orderSigned z2 z1) (wc := [(h2, vE z2), (h1, vE z1)]) (w1 := fun g134 => [(h2, vE g134.1), (h1, vE g134.2)]) (wr := []) (ws' := fun g134 => [(h1, .inr (0, [.long (g134.2.1), .long (g134.2.2.1), .long (g134.2.2.2.1), .long (g134.2.2.2.2.1), .long (g134.2.2.2.2.2.1), .long (g134.2.2.2.2.2.2.1), .int (bI g134.2.2.2.2.2.2.2)])), (h2, .inr (0, [.long (g134.1.1), .long (g134.1.2.1), .long (g134.1.2.2.1), .long (g134.1.2.2.2.1), .long (g134.1.2.2.2.2.1), .long (g134.1.2.2.2.2.2.1), .int (bI g134.1.2.2.2.2.2.2)]))]) (va_runS (As := [.ref h2, .ref h1]) (rest := []) ⟨hx, hb, hml, hown, hts⟩ (c_C_orderSigned l dC dI h2 h1 s.heap.size z2 z1) (va_cwS 2 hts (gS gw336 gw337 gw6 gw338) rfl rfl rfl (by decide +kernel) ⟨(Nat.le_of_ble_eq_true rfl), (Nat.le_of_ble_eq_true rfl)⟩) ⟨blm, fun U hU hW => ⟨rfl, by rw [hU], by rw [hU]; exact hP.sub [1, 0] rfl, va_K.moved hW.alike hK, (hD.sub [1, 0] (by decide) rfl).weaken (fun _ _ _ _ => trivial)⟩⟩ rfl rfl hl.1 rfl (lv_room (Nat.le_of_ble_eq_true rfl)) d_C_refine_134 ⟨Nat.zero_le _, Nat.zero_le _⟩) hP hD hS hA [1, 0] [] [1, 0] rfl rfl (by decide) (by decide) (fun _ => rfl) (by decide) (fun g134 eg134 H locs hP hD hS => ?_)
    refine K134g g134 (Eq.trans (by unfold f_C_refine; first | with_reducible exact (if_neg e1_60).trans ((if_neg e2_68).trans ((if_neg e3_76).trans ((if_neg e4_84).trans ((if_neg e5_92).trans ((if_neg e6_100).trans ((if_neg e7_108).trans ((if_neg e8_116).trans ((if_neg e9_124).trans (if_pos e10_132))))))))) | exact (if_neg e1_60).trans ((if_neg e2_68).trans ((if_neg e3_76).trans ((if_neg e4_84).trans ((if_neg e5_92).trans ((if_neg e6_100).trans ((if_neg e7_108).trans ((if_neg e8_116).trans ((if_neg e9_124).trans (if_pos e10_132)))))))))) (congrArg (fun g134 => f_C_refine_134g p0 z1 z2 g134) eg134)) H locs ?_ ?_ hS ls (lv_sub hl [1, 2] rfl)
    · with_reducible exact hP
    · with_reducible exact hD
  by_cases e11_140 : p0 = 10
  · refine lv_tableIn (off := 139) (tgt := 140) hx hb d_C_refine_1 (by rw [e11_140]; decide) (by rw [e11_140]; decide) (by rw [e11_140]; rfl) (by decide) ?_
    refine lv_aload_n hx hb d_C_refine_140 rfl (lv_at hl 1 rfl) ?_
    refine lv_aload_n hx hb d_C_refine_141 rfl (lv_at hl 2 rfl) ?_
    refine mg_v (F := f_C_shareBit z1 z2) (wc := [(h1, vE z1), (h2, vE z2)]) (w1 := fun g142 => [(h1, vE g142.1), (h2, vE g142.2)]) (wr := []) (ws' := fun g142 => [(h1, .inr (0, [.long (g142.1.1), .long (g142.1.2.1), .long (g142.1.2.2.1), .long (g142.1.2.2.2.1), .long (g142.1.2.2.2.2.1), .long (g142.1.2.2.2.2.2.1), .int (bI g142.1.2.2.2.2.2.2)])), (h2, .inr (0, [.long (g142.2.1), .long (g142.2.2.1), .long (g142.2.2.2.1), .long (g142.2.2.2.2.1), .long (g142.2.2.2.2.2.1), .long (g142.2.2.2.2.2.2.1), .int (bI g142.2.2.2.2.2.2.2)]))]) (va_runS (As := [.ref h1, .ref h2]) (rest := []) ⟨hx, hb, hml, hown, hts⟩ (c_C_shareBit l dC dI h1 h2 s.heap.size z1 z2) (va_cwS 2 hts (gS gw339 gw340 gw6 gw341) rfl rfl rfl (by decide +kernel) ⟨(Nat.le_of_ble_eq_true rfl), (Nat.le_of_ble_eq_true rfl)⟩) ⟨blm, fun U hU hW => ⟨rfl, by rw [hU], by rw [hU]; exact hP.sub [0, 1] rfl, va_K.moved hW.alike hK, (hD.sub [0, 1] (by decide) rfl).weaken (fun _ _ _ _ => trivial)⟩⟩ rfl rfl hl.1 rfl (lv_room (Nat.le_of_ble_eq_true rfl)) d_C_refine_142 ⟨Nat.zero_le _, Nat.zero_le _⟩) hP hD hS hA [0, 1] [] [0, 1] rfl rfl (by decide) (by decide) (fun _ => rfl) (by decide) (fun g142 eg142 H locs hP hD hS => ?_)
    refine K142g g142 (Eq.trans (by unfold f_C_refine; first | with_reducible exact (if_neg e1_60).trans ((if_neg e2_68).trans ((if_neg e3_76).trans ((if_neg e4_84).trans ((if_neg e5_92).trans ((if_neg e6_100).trans ((if_neg e7_108).trans ((if_neg e8_116).trans ((if_neg e9_124).trans ((if_neg e10_132).trans (if_pos e11_140)))))))))) | exact (if_neg e1_60).trans ((if_neg e2_68).trans ((if_neg e3_76).trans ((if_neg e4_84).trans ((if_neg e5_92).trans ((if_neg e6_100).trans ((if_neg e7_108).trans ((if_neg e8_116).trans ((if_neg e9_124).trans ((if_neg e10_132).trans (if_pos e11_140))))))))))) (congrArg (fun g142 => f_C_refine_142g p0 z1 z2 g142) eg142)) H locs ?_ ?_ hS ls (lv_sub hl [1, 2] rfl)
    · with_reducible exact hP
    · with_reducible exact hD
  refine lv_tableOut (tgt := 148) hx hb d_C_refine_1 (by have n0 := lv_neT (a := 0) e1_60 (by decide); have n1 := lv_neT (a := 1) e2_68 (by decide); have n2 := lv_neT (a := 2) e3_76 (by decide); have n3 := lv_neT (a := 3) e4_84 (by decide); have n4 := lv_neT (a := 4) e5_92 (by decide); have n5 := lv_neT (a := 5) e6_100 (by decide); have n6 := lv_neT (a := 6) e7_108 (by decide); have n7 := lv_neT (a := 7) e8_116 (by decide); have n8 := lv_neT (a := 8) e9_124 (by decide); have n9 := lv_neT (a := 9) e10_132 (by decide); have n10 := lv_neT (a := 10) e11_140 (by decide); omega) (by decide) ?_
  refine lv_aload_n hx hb d_C_refine_148 rfl (lv_at hl 1 rfl) ?_
  refine lv_aload_n hx hb d_C_refine_149 rfl (lv_at hl 2 rfl) ?_
  refine mg_v (F := f_C_shareNoBit z1 z2) (wc := [(h1, vE z1), (h2, vE z2)]) (w1 := fun g150 => [(h1, vE g150.1), (h2, vE g150.2)]) (wr := []) (ws' := fun g150 => [(h1, .inr (0, [.long (g150.1.1), .long (g150.1.2.1), .long (g150.1.2.2.1), .long (g150.1.2.2.2.1), .long (g150.1.2.2.2.2.1), .long (g150.1.2.2.2.2.2.1), .int (bI g150.1.2.2.2.2.2.2)])), (h2, .inr (0, [.long (g150.2.1), .long (g150.2.2.1), .long (g150.2.2.2.1), .long (g150.2.2.2.2.1), .long (g150.2.2.2.2.2.1), .long (g150.2.2.2.2.2.2.1), .int (bI g150.2.2.2.2.2.2.2)]))]) (va_runS (As := [.ref h1, .ref h2]) (rest := []) ⟨hx, hb, hml, hown, hts⟩ (c_C_shareNoBit l dC dI h1 h2 s.heap.size z1 z2) (va_cwS 2 hts (gS gw343 gw344 gw6 gw345) rfl rfl rfl (by decide +kernel) ⟨(Nat.le_of_ble_eq_true rfl), (Nat.le_of_ble_eq_true rfl)⟩) ⟨blm, fun U hU hW => ⟨rfl, by rw [hU], by rw [hU]; exact hP.sub [0, 1] rfl, va_K.moved hW.alike hK, (hD.sub [0, 1] (by decide) rfl).weaken (fun _ _ _ _ => trivial)⟩⟩ rfl rfl hl.1 rfl (lv_room (Nat.le_of_ble_eq_true rfl)) d_C_refine_150 ⟨Nat.zero_le _, Nat.zero_le _⟩) hP hD hS hA [0, 1] [] [0, 1] rfl rfl (by decide) (by decide) (fun _ => rfl) (by decide) (fun g150 eg150 H locs hP hD hS => ?_)
  refine K150g g150 (Eq.trans (by unfold f_C_refine; first | with_reducible exact (if_neg e1_60).trans ((if_neg e2_68).trans ((if_neg e3_76).trans ((if_neg e4_84).trans ((if_neg e5_92).trans ((if_neg e6_100).trans ((if_neg e7_108).trans ((if_neg e8_116).trans ((if_neg e9_124).trans ((if_neg e10_132).trans (if_neg e11_140)))))))))) | exact (if_neg e1_60).trans ((if_neg e2_68).trans ((if_neg e3_76).trans ((if_neg e4_84).trans ((if_neg e5_92).trans ((if_neg e6_100).trans ((if_neg e7_108).trans ((if_neg e8_116).trans ((if_neg e9_124).trans ((if_neg e10_132).trans (if_neg e11_140))))))))))) (congrArg (fun g150 => f_C_refine_150g p0 z1 z2 g150) eg150)) H locs ?_ ?_ hS ls (lv_sub hl [1, 2] rfl)
  · with_reducible exact hP
  · with_reducible exact hD
