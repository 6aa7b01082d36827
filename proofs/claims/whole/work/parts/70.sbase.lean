/-! the class ValueSieve itself: throws -/
def eI : String := "java/lang/IndexOutOfBoundsException"
def eA : String := "java/lang/IllegalArgumentException"
def eN : List String := ["java/lang/RuntimeException", "java/lang/Exception"]
def gT : List Cond := [.classLink R_S 162 eI, .initialized eI, .classLink R_S 62 eA, .initialized eA] ++ ((vx_atS R_S 166 eI eN).filter goodWord ++ (vx_atS R_S 66 eA eN).filter goodWord)
def gP : List Cond := gG ++ gT
set_option maxRecDepth 20000 in
theorem gTood : gT.all goodWord = true := by decide +kernel
theorem gGP {w : Cond} (h : w ∈ gG) : w ∈ gP := List.mem_append_left _ h
theorem gPood : ∀ w ∈ gP, (w.onTables && w.keeps) = true ∨ ∃ ty, w = .arrayClass ty := fun w h => (List.mem_append.mp h).elim (fun h => (gGood w h).2) (fun h => good_of_word (List.all_eq_true.mp gTood w h))
def xD : List MethodName := [⟨"java/lang/RuntimeException", "<init>", "(Ljava/lang/String;)V"⟩, ⟨"java/lang/Exception", "<init>", "(Ljava/lang/String;)V"⟩, ⟨"java/lang/Throwable", "<init>", "(Ljava/lang/String;)V"⟩]
def xS : List (Nat × String) := [(164, "there is no such place"), (64, "the witness is not between the two numbers"), (69, "the witness does not have the known bits"), (73, "there is no such operation"), (75, "an operation is of 64 or 32 bits"), (104, "a value is cut to 8, 16, 32 or 64 bits"), (106, "a value is extended from 8, 16 or 32 bits"), (108, "a value is swapped by 16, 32 or 64 bits"), (167, "there is no such comparison"), (169, "a comparison is of two places")]
/-- what a throw wants of the machine -/
def xQ (A : Nat → Prop) (U : State) (H : Heap) : Prop :=
  vx_Zq Bundle.tN "UNASSIGNED_STACK" Bundle.steD A U H ∧ vx_Zq Bundle.tN "SUPPRESSED_SENTINEL" Bundle.listD A U H ∧ (∀ q ∈ xS, ∃ sa, vk_R R_S q.1 q.2 sa U) ∧ (∀ x ∈ xD, va_Nw (.declares x) U) ∧ va_Nw (.castable eI eI) U ∧ va_Nw (.castable eA eA) U
theorem xQ.moved {A : Nat → Prop} {s U : State} {H : Heap} (hW : s.WarmedH U.vm) (h : xQ A s H) : xQ A U H := by
  obtain ⟨h1, h2, h3, h4, h5, h6⟩ := h
  exact ⟨vx_Zq.moved hW.alike h1, vx_Zq.moved hW.alike h2, fun q hq => (h3 q hq).elim (fun sa z => ⟨sa, vk_R.warm hW z⟩), fun x hx => va_Nw.warmD hW (h4 x hx), va_Nw.warmC hW h5, va_Nw.warmC hW h6⟩
theorem xQ.same {A : Nat → Prop} {s U : State} {H : Heap} (hv : s.vm = U.vm) (h : xQ A s H) : xQ A U H := by
  obtain ⟨h1, h2, h3, h4, h5, h6⟩ := h
  have ha : s.vm.Alike U.vm := by rw [hv]; exact Vm.Alike.refl _
  exact ⟨vx_Zq.moved ha h1, vx_Zq.moved ha h2, fun q hq => (h3 q hq).elim (fun sa z => ⟨sa, vk_R.same hv.symm z⟩), fun x hx => va_Nw.same rfl hv (h4 x hx), va_Nw.same rfl hv h5, va_Nw.same rfl hv h6⟩
theorem xQ.kept {A : Nat → Prop} {U : State} {H H1 : Heap} (h : xQ A U H) (hq : ∀ a : Nat, a < H.size → ¬ A a → H1[a]? = H[a]?) : xQ A U H1 := ⟨h.1.kept hq, h.2.1.kept hq, h.2.2⟩
theorem xQ.narrow {A B : Nat → Prop} {U : State} {H : Heap} (h : xQ A U H) (hAB : ∀ q, B q → A q) : xQ B U H := ⟨h.1.narrow hAB, h.2.1.narrow hAB, h.2.2⟩
/-- the words of both throws -/
theorem hat_I {args : Array Value} {s : State} {A : Nat → Prop} (hG : ∀ w ∈ gP, w.before args s = true) (hX : xQ A s s.heap) : ∀ w ∈ vx_atS R_S 166 eI eN, w.before args s = true := by
  obtain ⟨-, -, -, h4, h5, -⟩ := hX
  refine vx_hat (B := [.declares ⟨"java/lang/RuntimeException", "<init>", "(Ljava/lang/String;)V"⟩, .declares ⟨"java/lang/Exception", "<init>", "(Ljava/lang/String;)V"⟩, .declares ⟨"java/lang/Throwable", "<init>", "(Ljava/lang/String;)V"⟩, .castable eI eI]) (fun w hw => hG w (List.mem_append_right _ (List.mem_append_right _ (List.mem_append_left _ hw)))) (by decide +kernel) ?_
  exact vx_c (va_Nw.use rfl (h4 _ (by decide))) (vx_c (va_Nw.use rfl (h4 _ (by decide))) (vx_c (va_Nw.use rfl (h4 _ (by decide))) (vx_c (va_Nw.use rfl h5) vx_n)))
theorem hat_A {args : Array Value} {s : State} {A : Nat → Prop} (hG : ∀ w ∈ gP, w.before args s = true) (hX : xQ A s s.heap) : ∀ w ∈ vx_atS R_S 66 eA eN, w.before args s = true := by
  obtain ⟨-, -, -, h4, -, h6⟩ := hX
  refine vx_hat (B := [.declares ⟨"java/lang/RuntimeException", "<init>", "(Ljava/lang/String;)V"⟩, .declares ⟨"java/lang/Exception", "<init>", "(Ljava/lang/String;)V"⟩, .declares ⟨"java/lang/Throwable", "<init>", "(Ljava/lang/String;)V"⟩, .castable eA eA]) (fun w hw => hG w (List.mem_append_right _ (List.mem_append_right _ (List.mem_append_right _ hw)))) (by decide +kernel) ?_
  exact vx_c (va_Nw.use rfl (h4 _ (by decide))) (vx_c (va_Nw.use rfl (h4 _ (by decide))) (vx_c (va_Nw.use rfl (h4 _ (by decide))) (vx_c (va_Nw.use rfl h6) vx_n)))
theorem ot_I : ∀ w ∈ Cond.classLink R_S 162 eI :: Cond.initialized eI :: vx_atS R_S 166 eI eN, vx_ot w = true := by decide +kernel
theorem ot_A : ∀ w ∈ Cond.classLink R_S 62 eA :: Cond.initialized eA :: vx_atS R_S 66 eA eN, vx_ot w = true := by decide +kernel
def xP (sz : Nat) : State → Prop := fun U => U.heap.size = sz ∧ xQ (fun q => sz ≤ q) U U.heap
theorem blx {sz : Nat} {av : List Value} : FrameBlind (va_Pc av (xP sz)) := fun a U g mk q => by
  obtain ⟨q0, q1, qX⟩ := q
  exact ⟨q0, q1, xQ.same (s := U) (U := U.calling g mk a) rfl qX⟩
/-- whether a place is one -/
def okp (p : Int32) : Prop := ¬ p < 0 ∧ p < 16
def k_S_requirePlace : List Cond := Cond.code y_S_requirePlace b_S_requirePlace 1 none :: gP
