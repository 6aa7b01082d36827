/-! the law: join -/
theorem dl_930 : decode code 930 = .ok (.aload_n 1, 1) := by decide +kernel
theorem dl_931 : decode code 931 = .ok (.aload_n 0, 1) := by decide +kernel
theorem dl_932 : decode code 932 = .ok (.iload 4, 2) := by decide +kernel
theorem dl_934 : decode code 934 = .ok (.iconst 1, 1) := by decide +kernel
theorem dl_935 : decode code 935 = .ok (.iadd, 1) := by decide +kernel
theorem dl_936 : decode code 936 = .ok (.iaload, 1) := by decide +kernel
theorem dl_937 : decode code 937 = .ok (.aload_n 0, 1) := by decide +kernel
theorem dl_938 : decode code 938 = .ok (.iload 4, 2) := by decide +kernel
theorem dl_940 : decode code 940 = .ok (.iconst 2, 1) := by decide +kernel
theorem dl_941 : decode code 941 = .ok (.iadd, 1) := by decide +kernel
theorem dl_942 : decode code 942 = .ok (.iaload, 1) := by decide +kernel
theorem dl_943 : decode code 943 = .ok (.aload_n 0, 1) := by decide +kernel
theorem dl_944 : decode code 944 = .ok (.iload 4, 2) := by decide +kernel
theorem dl_946 : decode code 946 = .ok (.iconst 3, 1) := by decide +kernel
theorem dl_947 : decode code 947 = .ok (.iadd, 1) := by decide +kernel
theorem dl_948 : decode code 948 = .ok (.iaload, 1) := by decide +kernel
theorem dl_949 : decode code 949 = .ok (.aload_n 0, 1) := by decide +kernel
theorem dl_950 : decode code 950 = .ok (.iload 4, 2) := by decide +kernel
theorem dl_952 : decode code 952 = .ok (.iconst 4, 1) := by decide +kernel
theorem dl_953 : decode code 953 = .ok (.iadd, 1) := by decide +kernel
theorem dl_954 : decode code 954 = .ok (.iaload, 1) := by decide +kernel
theorem dl_955 : decode code 955 = .ok (.ifCond .eq 7, 3) := by decide +kernel
theorem dl_958 : decode code 958 = .ok (.iconst 1, 1) := by decide +kernel
theorem dl_959 : decode code 959 = .ok (.goto 4, 3) := by decide +kernel
theorem dl_962 : decode code 962 = .ok (.iconst 0, 1) := by decide +kernel
theorem dl_963 : decode code 963 = .ok (.invokestatic 120, 3) := by decide +kernel
theorem dl_966 : decode code 966 = .ok (.istore 5, 2) := by decide +kernel
theorem dl_968 : decode code 968 = .ok (.aload_n 2, 1) := by decide +kernel
theorem dl_969 : decode code 969 = .ok (.aload_n 0, 1) := by decide +kernel
theorem dl_970 : decode code 970 = .ok (.iload 4, 2) := by decide +kernel
theorem dl_972 : decode code 972 = .ok (.iconst 1, 1) := by decide +kernel
theorem dl_973 : decode code 973 = .ok (.iadd, 1) := by decide +kernel
theorem dl_974 : decode code 974 = .ok (.iaload, 1) := by decide +kernel
theorem dl_975 : decode code 975 = .ok (.aload_n 0, 1) := by decide +kernel
theorem dl_976 : decode code 976 = .ok (.iload 4, 2) := by decide +kernel
theorem dl_978 : decode code 978 = .ok (.iconst 2, 1) := by decide +kernel
theorem dl_979 : decode code 979 = .ok (.iadd, 1) := by decide +kernel
theorem dl_980 : decode code 980 = .ok (.iaload, 1) := by decide +kernel
theorem dl_981 : decode code 981 = .ok (.aload_n 0, 1) := by decide +kernel
theorem dl_982 : decode code 982 = .ok (.iload 4, 2) := by decide +kernel
theorem dl_984 : decode code 984 = .ok (.iconst 3, 1) := by decide +kernel
theorem dl_985 : decode code 985 = .ok (.iadd, 1) := by decide +kernel
theorem dl_986 : decode code 986 = .ok (.iaload, 1) := by decide +kernel
theorem dl_987 : decode code 987 = .ok (.aload_n 0, 1) := by decide +kernel
theorem dl_988 : decode code 988 = .ok (.iload 4, 2) := by decide +kernel
theorem dl_990 : decode code 990 = .ok (.iconst 4, 1) := by decide +kernel
theorem dl_991 : decode code 991 = .ok (.iadd, 1) := by decide +kernel
theorem dl_992 : decode code 992 = .ok (.iaload, 1) := by decide +kernel
theorem dl_993 : decode code 993 = .ok (.ifCond .eq 7, 3) := by decide +kernel
theorem dl_996 : decode code 996 = .ok (.iconst 1, 1) := by decide +kernel
theorem dl_997 : decode code 997 = .ok (.goto 4, 3) := by decide +kernel
theorem dl_1000 : decode code 1000 = .ok (.iconst 0, 1) := by decide +kernel
theorem dl_1001 : decode code 1001 = .ok (.invokevirtual 123, 3) := by decide +kernel
theorem dl_1004 : decode code 1004 = .ok (.aload_n 2, 1) := by decide +kernel
theorem dl_1005 : decode code 1005 = .ok (.invokevirtual 91, 3) := by decide +kernel
theorem dl_1008 : decode code 1008 = .ok (.iload 5, 2) := by decide +kernel
theorem dl_1010 : decode code 1010 = .ok (.if_icmp .eq 5, 3) := by decide +kernel
theorem dl_1013 : decode code 1013 = .ok (.iconst 0, 1) := by decide +kernel
theorem dl_1014 : decode code 1014 = .ok (.ireturn, 1) := by decide +kernel
theorem dl_1015 : decode code 1015 = .ok (.goto 701, 3) := by decide +kernel
set_option maxRecDepth 100000 in
theorem tw8_0 : Cond.methodLink R_L 120 y_L_join ∈ lw_tbl := List.mem_of_getElem? (i := 481) rfl
set_option maxRecDepth 100000 in
theorem tw8_1 : Cond.static y_L_join ∈ lw_tbl := List.mem_of_getElem? (i := 482) rfl
set_option maxRecDepth 100000 in
theorem tw8_2 : Cond.codeWith y_L_join b_L_join 6 (some .int) [(0, 9, 12, 13)] ∈ lw_tbl := List.mem_of_getElem? (i := 483) rfl
set_option maxRecDepth 100000 in
theorem tw8_3 : Cond.methodLink R_L 123 y_M_join ∈ lw_tbl := List.mem_of_getElem? (i := 865) rfl
set_option maxRecDepth 100000 in
theorem tw8_4 : Cond.methodLink R_L 91 y_M_thrown ∈ lw_tbl := List.mem_of_getElem? (i := 657) rfl
set_option maxRecDepth 100000 in
set_option maxHeartbeats 4000000 in
theorem law_join {p : Program} {l : Launch} {e : Env} {s : State} {m : MethodId} {below : List Frame} {meth : Method} {c : Code} {b L : Nat} {xs : Nat → Int32} {dC : Nat → ClassId} {dI : Nat → Nat → Nat} {cQ cJ cZ : ClassId} {ad am : Nat → Nat} {oa i cells slots : Nat} {Q : State → Prop} {v : Nat → VV} {w : Nat → Int64} {t : Int32} {x y z : VV} {o : Nat → Int64} {c0 : Int32} {r : Nat → VV} {H : Heap} {locs : List Loc} {ls : Array Slot} (E : LE l p s m c b L xs dC dI cQ cJ cZ) (hi : i + 9 ≤ L) (hc1 : cells + 4 ≤ 601024) (hc2 : slots + 24 ≤ 7293034) (I : LI s dC dI cQ cJ cZ ad am oa v w t x y z o c0 r H locs) (hl : LL ls b ad am oa i) (kk : LK p l e s m below meth c b dC dI cQ cJ cZ ad am oa i cells slots Q) : W p l e room_1 s m #[Value.ref b] below meth c H locs cells slots Q (F0 m 930 ls []) := by
  obtain ⟨hx, hb, hml, hown, hts, hX, hbl, hL, hlt, hQ, hNc, hKs, hKm⟩ := E
  obtain ⟨hI, hP, hD, hS⟩ := I
  have hA : ∀ q : Nat, s.heap.size ≤ q → (fun q : Nat => s.heap.size ≤ q) q := fun _ h => h
  have hbA : ¬ (fun q : Nat => s.heap.size ≤ q) b := Nat.not_le.mpr hbl
  have hl : lv_has ls 8 [(0, .ref b), (1, .ref (ad 0)), (2, .ref (am 0)), (3, .ref oa), (4, .int (nI i))] := hl
  refine lv_aload_n hx hb dl_930 rfl (lv_at hl 1 rfl) ?_
  refine ls_rd (j := 1) hx hb hX hbl hbA hS hL (lv_at hl 0 rfl) (lv_at hl 4 rfl) (by omega) (by decide) dl_931 dl_932 dl_934 dl_935 dl_936 ?_
  refine ls_rd (j := 2) hx hb hX hbl hbA hS hL (lv_at hl 0 rfl) (lv_at hl 4 rfl) (by omega) (by decide) dl_937 dl_938 dl_940 dl_941 dl_942 ?_
  refine ls_rd (j := 3) hx hb hX hbl hbA hS hL (lv_at hl 0 rfl) (lv_at hl 4 rfl) (by omega) (by decide) dl_943 dl_944 dl_946 dl_947 dl_948 ?_
  refine ls_rd (j := 4) hx hb hX hbl hbA hS hL (lv_at hl 0 rfl) (lv_at hl 4 rfl) (by omega) (by decide) dl_949 dl_950 dl_952 dl_953 dl_954 ?_
  refine ls_z hx hb dl_955 dl_958 dl_959 dl_962 ?_
  have hP : va_P (dC, dI) classes (sW ad cQ cJ v w t x y z ++ ([(oa, .inl (cJ, 1, .inr (.inl o)))] ++ mW am cJ cZ c0 r w t)) H := by rw [← List.append_assoc]; exact hP
  have hD : va_D (fun q : Nat => s.heap.size ≤ q) (sW ad cQ cJ v w t x y z ++ ([(oa, .inl (cJ, 1, .inr (.inl o)))] ++ mW am cJ cZ c0 r w t)) := by rw [← List.append_assoc]; exact hD
  refine lc_S (vx_runSW (As := [.ref (ad 0), .int (xs (i + 1)), .int (xs (i + 2)), .int (xs (i + 3)), .int (bI (bX (xs (i + 4))))]) (rest := []) ⟨hx, hb, hml, hown, hts⟩ (c_L_join l hlt dC dI ad cQ cJ H.size v w t x y z (xs (i + 1)) (xs (i + 2)) (xs (i + 3)) (bI (bX (xs (i + 4))))) (vx_cwSW 5 hts (gLS rfl tw8_0 tw8_1 tw8_2) rfl rfl rfl (by decide +kernel) ⟨(Nat.le_of_ble_eq_true rfl), (Nat.le_of_ble_eq_true rfl)⟩) (lc_pS (va_P.left hP) (va_D.left hD) hS hA hKs hQ hNc) rfl rfl hl.1 rfl (lv_room (Nat.le_of_ble_eq_true rfl)) dl_963 ⟨(show cells + 3 ≤ 601024 by omega), (show slots + 18 ≤ 7293034 by omega)⟩) hP hD hS hA (fun H locs hP hD hS => ?_)
  rw [← List.append_assoc] at hP hD
  refine lv_istore (lv' := [(5, .int (f_S_join v w t x y z (xs (i + 1)) (xs (i + 2)) (xs (i + 3)) (bI (bX (xs (i + 4))))).1), (0, .ref b), (1, .ref (ad 0)), (2, .ref (am 0)), (3, .ref oa), (4, .int (nI i))]) hx hb dl_966 hl (by decide) rfl (fun ls hl => ?_)
  refine lv_aload_n hx hb dl_968 rfl (lv_at hl 3 rfl) ?_
  refine ls_rd (j := 1) hx hb hX hbl hbA hS hL (lv_at hl 1 rfl) (lv_at hl 5 rfl) (by omega) (by decide) dl_969 dl_970 dl_972 dl_973 dl_974 ?_
  refine ls_rd (j := 2) hx hb hX hbl hbA hS hL (lv_at hl 1 rfl) (lv_at hl 5 rfl) (by omega) (by decide) dl_975 dl_976 dl_978 dl_979 dl_980 ?_
  refine ls_rd (j := 3) hx hb hX hbl hbA hS hL (lv_at hl 1 rfl) (lv_at hl 5 rfl) (by omega) (by decide) dl_981 dl_982 dl_984 dl_985 dl_986 ?_
  refine ls_rd (j := 4) hx hb hX hbl hbA hS hL (lv_at hl 1 rfl) (lv_at hl 5 rfl) (by omega) (by decide) dl_987 dl_988 dl_990 dl_991 dl_992 ?_
  refine ls_z hx hb dl_993 dl_996 dl_997 dl_1000 ?_
  refine lc_Mv (va_runV (As := [.int (xs (i + 1)), .int (xs (i + 2)), .int (xs (i + 3)), .int (bI (bX (xs (i + 4))))]) (rest := []) ⟨hx, hb, hml, hown, hts⟩ (c_M_join l dC dI am cJ cZ H.size c0 r w t (xs (i + 1)) (xs (i + 2)) (xs (i + 3)) (bX (xs (i + 4)))) (cwV 4 hts (gLM tw8_3 gx198 gx199 gx200) rfl rfl rfl (by decide +kernel) ⟨(Nat.le_of_ble_eq_true rfl), (Nat.le_of_ble_eq_true rfl)⟩) (lc_pM (va_P.right hP) (va_D.right hD) hKm) rfl rfl hl.1 rfl (lv_room (Nat.le_of_ble_eq_true rfl)) dl_1001 ⟨(show cells + 3 + 0 ≤ 601024 by omega), (show slots + 18 + 0 ≤ 7293034 by omega)⟩) hP hD hS hA (fun H locs hP hD hS => ?_)
  refine lv_aload_n hx hb dl_1004 rfl (lv_at hl 3 rfl) ?_
  refine rc_i (W.runV (As := []) (rest := []) ⟨hx, hb, hml, hown, hts⟩ (c_M_thrown l dC dI am cJ cZ (f_M_join r w t (xs (i + 1)) (xs (i + 2)) (xs (i + 3)) (bX (xs (i + 4)))).1 (f_M_join r w t (xs (i + 1)) (xs (i + 2)) (xs (i + 3)) (bX (xs (i + 4)))).2.1 (f_M_join r w t (xs (i + 1)) (xs (i + 2)) (xs (i + 3)) (bX (xs (i + 4)))).2.2.1 (f_M_join r w t (xs (i + 1)) (xs (i + 2)) (xs (i + 3)) (bX (xs (i + 4)))).2.2.2) (cwV 0 hts (gLM tw8_4 gx30 gx31 gx32) rfl rfl rfl (by decide +kernel) ⟨(Nat.le_of_ble_eq_true rfl), (Nat.le_of_ble_eq_true rfl)⟩) (lc_pR (va_P.right hP) hKm) rfl rfl hl.1 rfl (lv_room (Nat.le_of_ble_eq_true rfl)) dl_1005 ⟨(show cells + 3 + 0 + 0 ≤ 601024 by omega), (show slots + 18 + 0 + 0 ≤ 7293034 by omega)⟩) ?_
  obtain ⟨h1, h2, h3, h4⟩ := link_join hI t x y z (xs (i + 1)) (xs (i + 2)) (xs (i + 3)) (bX (xs (i + 4)))
  refine lv_iload hx hb dl_1008 (lv_at hl 0 rfl) ?_
  refine lv_icmp_eq (tgt := 1015) hx hb dl_1010 (by decide) (fun _ => ?_) (fun hz => absurd (show f_M_thrown ((f_M_join r w t (xs (i + 1)) (xs (i + 2)) (xs (i + 3)) (bX (xs (i + 4)))).1) = (f_S_join v w t x y z (xs (i + 1)) (xs (i + 2)) (xs (i + 3)) (bI (bX (xs (i + 4))))).1 from h1) hz)
  refine lv_goto (tgt := 1716) hx hb dl_1015 (by decide) ?_
  rw [h3, h4] at hP hD
  refine W.widen (k := cells + 4) (n := slots + 24) (by omega) (by omega) ?_
  exact kk _ _ _ _ _ _ _ _ _ _ _ ls ⟨h2, hP, hD, hS⟩ (lv_sub hl [1, 2, 3, 4, 5] rfl)
