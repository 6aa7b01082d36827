/-! the law: what the start gives -/
set_option maxRecDepth 100000 in
theorem ts_164 : Cond.stringRef R_S 164 "there is no such place" ∈ lw_tbl := List.mem_of_getElem? (i := 192) rfl
set_option maxRecDepth 100000 in
theorem ts_64 : Cond.stringRef R_S 64 "the witness is not between the two numbers" ∈ lw_tbl := List.mem_of_getElem? (i := 323) rfl
set_option maxRecDepth 100000 in
theorem ts_69 : Cond.stringRef R_S 69 "the witness does not have the known bits" ∈ lw_tbl := List.mem_of_getElem? (i := 337) rfl
set_option maxRecDepth 100000 in
theorem ts_73 : Cond.stringRef R_S 73 "there is no such operation" ∈ lw_tbl := List.mem_of_getElem? (i := 345) rfl
set_option maxRecDepth 100000 in
theorem ts_75 : Cond.stringRef R_S 75 "an operation is of 64 or 32 bits" ∈ lw_tbl := List.mem_of_getElem? (i := 346) rfl
set_option maxRecDepth 100000 in
theorem ts_104 : Cond.stringRef R_S 104 "a value is cut to 8, 16, 32 or 64 bits" ∈ lw_tbl := List.mem_of_getElem? (i := 455) rfl
set_option maxRecDepth 100000 in
theorem ts_106 : Cond.stringRef R_S 106 "a value is extended from 8, 16 or 32 bits" ∈ lw_tbl := List.mem_of_getElem? (i := 463) rfl
set_option maxRecDepth 100000 in
theorem ts_108 : Cond.stringRef R_S 108 "a value is swapped by 16, 32 or 64 bits" ∈ lw_tbl := List.mem_of_getElem? (i := 471) rfl
set_option maxRecDepth 100000 in
theorem ts_167 : Cond.stringRef R_S 167 "there is no such comparison" ∈ lw_tbl := List.mem_of_getElem? (i := 509) rfl
set_option maxRecDepth 100000 in
theorem ts_169 : Cond.stringRef R_S 169 "a comparison is of two places" ∈ lw_tbl := List.mem_of_getElem? (i := 510) rfl
set_option maxRecDepth 100000 in
theorem tq_lay1 : Cond.laysStatic Bundle.tN "UNASSIGNED_STACK" Bundle.steD ∈ lw_tbl := List.mem_of_getElem? (i := 179) rfl
set_option maxRecDepth 100000 in
theorem tq_lay2 : Cond.laysStatic Bundle.tN "SUPPRESSED_SENTINEL" Bundle.listD ∈ lw_tbl := List.mem_of_getElem? (i := 181) rfl
set_option maxRecDepth 100000 in
theorem tq_ini : Cond.initialized Bundle.tN ∈ lw_tbl := List.mem_of_getElem? (i := 51) rfl
set_option maxRecDepth 100000 in
theorem td_Runtime : Cond.declares ⟨"java/lang/RuntimeException", "<init>", "(Ljava/lang/String;)V"⟩ ∈ lw_tbl := List.mem_of_getElem? (i := 156) rfl
set_option maxRecDepth 100000 in
theorem td_E : Cond.declares ⟨"java/lang/Exception", "<init>", "(Ljava/lang/String;)V"⟩ ∈ lw_tbl := List.mem_of_getElem? (i := 158) rfl
set_option maxRecDepth 100000 in
theorem td_T : Cond.declares ⟨"java/lang/Throwable", "<init>", "(Ljava/lang/String;)V"⟩ ∈ lw_tbl := List.mem_of_getElem? (i := 160) rfl
set_option maxRecDepth 100000 in
theorem tc_I : Cond.castable eI eI ∈ lw_tbl := List.mem_of_getElem? (i := 154) rfl
set_option maxRecDepth 100000 in
theorem tc_A : Cond.castable eA eA ∈ lw_tbl := List.mem_of_getElem? (i := 316) rfl
set_option maxRecDepth 100000 in
theorem tn_V : Cond.methodLinkNest R_S 19 y_V_init R_S ∈ lw_tbl := List.mem_of_getElem? (i := 72) rfl
set_option maxRecDepth 100000 in
theorem tn_O : Cond.arrayOver (.object R_V) ∈ lw_tbl := List.mem_of_getElem? (i := 70) rfl
set_option maxRecDepth 100000 in
theorem tk_S : Cond.classLink R_L 8 R_S ∈ lw_tbl := List.mem_of_getElem? (i := 61) rfl
set_option maxRecDepth 100000 in
theorem tk_M : Cond.classLink R_L 80 R_M ∈ lw_tbl := List.mem_of_getElem? (i := 619) rfl
set_option maxRecDepth 100000 in
theorem tk_iS : Cond.methodLink R_L 79 y_S_init ∈ lw_tbl := List.mem_of_getElem? (i := 63) rfl
set_option maxRecDepth 100000 in
theorem tk_iM : Cond.methodLink R_L 82 y_M_init ∈ lw_tbl := List.mem_of_getElem? (i := 621) rfl
def nwL : List Cond := flatC (Jvm.Cond.and given_1 narrow_1)
set_option maxRecDepth 100000 in
theorem ne_164 : Cond.exactly (.string R_S 164) "java/lang/String" ∈ nwL := by decide +kernel
set_option maxRecDepth 100000 in
theorem ne_64 : Cond.exactly (.string R_S 64) "java/lang/String" ∈ nwL := by decide +kernel
set_option maxRecDepth 100000 in
theorem ne_69 : Cond.exactly (.string R_S 69) "java/lang/String" ∈ nwL := by decide +kernel
set_option maxRecDepth 100000 in
theorem ne_73 : Cond.exactly (.string R_S 73) "java/lang/String" ∈ nwL := by decide +kernel
set_option maxRecDepth 100000 in
theorem ne_75 : Cond.exactly (.string R_S 75) "java/lang/String" ∈ nwL := by decide +kernel
set_option maxRecDepth 100000 in
theorem ne_104 : Cond.exactly (.string R_S 104) "java/lang/String" ∈ nwL := by decide +kernel
set_option maxRecDepth 100000 in
theorem ne_106 : Cond.exactly (.string R_S 106) "java/lang/String" ∈ nwL := by decide +kernel
set_option maxRecDepth 100000 in
theorem ne_108 : Cond.exactly (.string R_S 108) "java/lang/String" ∈ nwL := by decide +kernel
set_option maxRecDepth 100000 in
theorem ne_167 : Cond.exactly (.string R_S 167) "java/lang/String" ∈ nwL := by decide +kernel
set_option maxRecDepth 100000 in
theorem ne_169 : Cond.exactly (.string R_S 169) "java/lang/String" ∈ nwL := by decide +kernel
set_option maxRecDepth 100000 in
theorem nq_1 : Cond.isRef (.static Bundle.tN "UNASSIGNED_STACK" Bundle.steD) ∈ nwL := by decide +kernel
set_option maxRecDepth 100000 in
theorem nq_2 : Cond.isRef (.static Bundle.tN "SUPPRESSED_SENTINEL" Bundle.listD) ∈ nwL := by decide +kernel
set_option maxRecDepth 100000 in
theorem nq_3 : Cond.not (.castable eA eI) ∈ nwL := by decide +kernel
theorem strq {k : Nat} {tx : String} {args : Array Value} {s : State} (h1 : (Cond.stringRef R_S k tx).before args s = true) (h2 : (Cond.exactly (.string R_S k) "java/lang/String").before args s = true) : ∃ sa, vk_R R_S k tx sa s := by
  obtain ⟨a, c, cA, kA, q1, -⟩ := Cond.exactly_spec (args := args) (first := s) (o := none) (s := s) (idx := []) (t := .string R_S k) (cls := "java/lang/String") h2
  exact ⟨a, vk_R.of h1 q1⟩
theorem all_c {α : Type} {P : α → Prop} {a : α} {l : List α} (h1 : P a) (h2 : ∀ q ∈ l, P q) : ∀ q ∈ a :: l, P q := fun q h => (List.mem_cons.mp h).elim (fun e => e ▸ h1) (h2 q)
theorem all_n {α : Type} {P : α → Prop} : ∀ q ∈ ([] : List α), P q := fun _ h => absurd h List.not_mem_nil
theorem law_xQ {args : Array Value} {s : State} (hts : ∀ w ∈ lw_tbl, w.before args s = true) (hs : ∀ w ∈ nwL, w.before args s = true) : xQ (fun q : Nat => s.heap.size ≤ q) s s.heap :=
  ⟨vx_Zqof (hts _ tq_lay1) (hts _ tq_ini) (hs _ nq_1) (fun _ h => Nat.not_le.mpr h), vx_Zqof (hts _ tq_lay2) (hts _ tq_ini) (hs _ nq_2) (fun _ h => Nat.not_le.mpr h),
   (all_c (strq (hts _ ts_164) (hs _ ne_164)) (all_c (strq (hts _ ts_64) (hs _ ne_64)) (all_c (strq (hts _ ts_69) (hs _ ne_69)) (all_c (strq (hts _ ts_73) (hs _ ne_73)) (all_c (strq (hts _ ts_75) (hs _ ne_75)) (all_c (strq (hts _ ts_104) (hs _ ne_104)) (all_c (strq (hts _ ts_106) (hs _ ne_106)) (all_c (strq (hts _ ts_108) (hs _ ne_108)) (all_c (strq (hts _ ts_167) (hs _ ne_167)) (all_c (strq (hts _ ts_169) (hs _ ne_169)) (all_n))))))))))),
   all_c (va_Nw.of rfl (hts _ td_Runtime)) (all_c (va_Nw.of rfl (hts _ td_E)) (all_c (va_Nw.of rfl (hts _ td_T)) all_n)), va_Nw.of rfl (hts _ tc_I), va_Nw.of rfl (hts _ tc_A)⟩
theorem law_Nc {args : Array Value} {s : State} (hs : ∀ w ∈ nwL, w.before args s = true) : va_Nc eA eI s := va_Nc.of (hs _ nq_3)
theorem gIL {y : MethodName} {b : ByteArray} {k : Nat} {r : Option FieldType} (h : Cond.code y b k r ∈ gG) : GoodIn lw_tbl (Cond.code y b k r :: gG) := fun w hw => by
  have hm : w ∈ gG := (List.mem_cons.mp hw).elim (fun e => e ▸ h) id
  exact ⟨tG w hm, (gGood w hm).2⟩
theorem gIM {y : MethodName} {b : ByteArray} {k : Nat} {r : Option FieldType} (h : Cond.code y b k r ∈ gM) : GoodIn lw_tbl (Cond.code y b k r :: gM) := fun w hw => by
  have hm : w ∈ gM := (List.mem_cons.mp hw).elim (fun e => e ▸ h) id
  exact ⟨tM w hm, (gMood w hm).2⟩
theorem INV_0 : INV (fun _ => zeV) (fun _ => 0) (fun _ => zeV) := fun j _ => ⟨rfl, good_one 0, (kn_one 0 0).mpr rfl⟩
