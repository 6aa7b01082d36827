/-! the law's helpers -/
def gL0 : List Cond := [.classLink R_L 13 eI, .classLink R_L 22 eA, .methodLink R_L 7 y_S_any, .methodLink R_L 15 y_S_constant, .methodLink R_L 18 y_S_between, .methodLink R_L 24 y_S_pattern, .methodLink R_L 28 y_S_operate, .methodLink R_L 32 y_S_cut, .methodLink R_L 36 y_S_extend, .methodLink R_L 39 y_S_swap, .methodLink R_L 42 y_S_join, .methodLink R_L 46 y_S_widen, .methodLink R_L 49 y_S_branch, .methodLink R_L 53 y_S_decided, .methodLink R_L 57 y_S_within, .methodLink R_L 61 y_S_has, .methodLink R_L 65 y_S_least, .methodLink R_L 69 y_S_greatest, .methodLink R_L 72 y_S_unknown, .methodLink R_L 76 y_S_witness]
def gL : List Cond := gP ++ gL0
theorem gL0ood : gL0.all goodWord = true := by decide +kernel
theorem gLood : ∀ w ∈ gL, (w.onTables && w.keeps) = true ∨ ∃ ty, w = .arrayClass ty := fun w h => (List.mem_append.mp h).elim (fun h => gPood w h) (fun h => good_of_word (List.all_eq_true.mp gL0ood w h))
theorem gVL {c0 : Cond} {own C : String} {idx : Nat} {y : MethodName} {b : ByteArray} {n : Nat} {r : Option FieldType} (h1 : Cond.methodLink own idx y ∈ gL0) (h2 : Cond.instanceMethod y ∈ gG) (h3 : Cond.selects C y y ∈ gG) (h4 : Cond.initialized C ∈ gG) (h5 : Cond.code y b n r ∈ gG) : GoodIn (c0 :: gL) (wsV own idx C y (Cond.code y b n r :: gP)) := by
  have all : ∀ w ∈ wsV own idx C y (Cond.code y b n r :: gP), w ∈ gL := by
    intro w hw
    rcases List.mem_append.mp hw with h | h
    · rcases List.mem_cons.mp h with rfl | h
      · exact List.mem_append_right _ h1
      · rcases List.mem_cons.mp h with rfl | h
        · exact List.mem_append_left _ (gGP h2)
        · rcases List.mem_cons.mp h with rfl | h
          · exact List.mem_append_left _ (gGP h3)
          · rcases List.mem_cons.mp h with rfl | h
            · exact List.mem_append_left _ (gGP h4)
            · cases h
    · rcases List.mem_cons.mp h with rfl | h
      · exact List.mem_append_left _ (gGP h5)
      · exact List.mem_append_left _ h
  exact fun w hw => ⟨List.mem_cons_of_mem _ (all w hw), gLood w (all w hw)⟩
def hP9 (D : va_G) (tys : List (ClassId × FieldType)) (ws : va_W) (sz : Nat) : State → Prop := fun U => U.heap.size = sz ∧ va_P D classes ws U.heap ∧ va_K D classes tys U ∧ va_D (fun _ => True) ws ∧ xQ (va_A ws sz) U U.heap ∧ va_Nc eA eI U
theorem blh {D : va_G} {tys : List (ClassId × FieldType)} {ws : va_W} {sz : Nat} {av : List Value} : FrameBlind (va_Pc av (hP9 D tys ws sz)) := fun a U g mk q => by
  obtain ⟨q0, q1, qP, qK, qD, qX, qN⟩ := q
  exact ⟨q0, q1, qP, va_K.moved (u := U) (U := U.calling g mk a) (Vm.Alike.refl U.vm) qK, qD, xQ.same (s := U) (U := U.calling g mk a) rfl qX, va_Nc.moved (u := U) (U := U.calling g mk a) (Vm.Alike.refl U.vm) qN⟩
theorem met_WH {l : Launch} {y : MethodName} {ws ws' : List Cond} {rm : Room} {Pc : Array Value → State → Prop} {Qc : Array Value → State → Outcome → State → Prop} {mc ms : Nat} {free : Addr → Prop} {cc : ByteArray} {maxL : Nat} {ret : Option FieldType} {hh : List (Nat × Nat × Nat × Nat)}
    (hy : plainName y.cls = true) (hw : ws = Cond.codeWith y cc maxL ret hh :: ws')
    (body : ∀ p e s m args below meth c s₁, BodyLoose p l y (headSpec ws rm) cc maxL ret e s m args below meth c s₁ → c.maxLocals = maxL → Pc args s →
      W p l e (headSpec ws rm).room s m args below meth c s.heap [] 0 0 (MQ below Qc args s mc ms free) (entryFrame m args maxL)) : Met l y ws rm Pc Qc mc ms free := by
  refine MetFree.of_bodyS (code := cc) (maxLocals := maxL) (ret := ret) hy ?_ ?_
  · intro args s m h hn
    obtain ⟨m9, meth, c, hn9, h1, h2, h3, h4, -, h5, h6, -⟩ := Cond.codeWith_spec (atoms_spec (ws := ws) h _ (by rw [hw]; exact List.mem_cons_self))
    cases hn.symm.trans hn9
    exact ⟨meth, c, h1, h2, h3, h4, h5, h6⟩
  · intro p e s m args below meth c s₁ B hml hP _
    have hh0 : s₁.heap = s.heap := by rw [B.state]; rfl
    obtain ⟨t, a1, o, b1, b2, b3⟩ := body p e s m args below meth c s₁ B hml hP s₁ hh0 (Stand.of_body B)
    exact ⟨t, o, a1, b1, b2, ⟨b3.1, b3.2⟩⟩
theorem va_P.left {D : va_G} {cl : List vw_C} {w1 w2 : va_W} {H : Heap} (h : va_P D cl (w1 ++ w2) H) : va_P D cl w1 H := fun k q hk => h k q (by rw [List.getElem?_append_left (List.getElem?_eq_some_iff.mp hk).1]; exact hk)
theorem va_D.left {A : Nat → Prop} {w1 w2 : va_W} (h : va_D A (w1 ++ w2)) : va_D A w1 := ⟨fun i j p q hp hq e => h.1 i j p q (by rw [List.getElem?_append_left (List.getElem?_eq_some_iff.mp hp).1]; exact hp) (by rw [List.getElem?_append_left (List.getElem?_eq_some_iff.mp hq).1]; exact hq) e, fun k q hk => h.2 k q (by rw [List.getElem?_append_left (List.getElem?_eq_some_iff.mp hk).1]; exact hk)⟩
theorem va_A.left {w1 w2 : va_W} {sz q : Nat} (h : va_A w1 sz q) : va_A (w1 ++ w2) sz q := by
  rcases h with ⟨k, e, h⟩ | h
  · exact Or.inl ⟨k, e, by rw [List.getElem?_append_left (List.getElem?_eq_some_iff.mp h).1]; exact h⟩
  · exact Or.inr h
/-- a callee has changed the first of two worlds -/
theorem va_two {A0 : Nat → Prop} {D : va_G} {cl : List vw_C} {w1 w2 w1' : va_W} {H H1 : Heap} (hP : va_P D cl (w1 ++ w2) H) (hD : va_D A0 (w1 ++ w2)) (hk : ∀ q : Nat, q < H.size → ¬ va_A w1 H.size q → H1[q]? = H[q]?) (hP1 : va_P D cl w1' H1) (hD1 : va_D (va_A w1 H.size) w1') (hF : ∀ q, va_A w1 H.size q → A0 q) : va_P D cl (w1' ++ w2) H1 ∧ va_D A0 (w1' ++ w2) := by
  have r : ∀ (k : Nat) (q : Nat × va_E), w2[k]? = some q → (w1 ++ w2)[w1.length + k]? = some q := fun k q h => by rw [List.getElem?_append_right (Nat.le_add_right _ _), Nat.add_sub_cancel_left]; exact h
  have apt : ∀ (k : Nat) (q : Nat × va_E), w2[k]? = some q → q.1 < H.size ∧ ¬ va_A w1 H.size q.1 := fun k q hq => by
    have hl := (hP _ q (r k q hq)).lt
    refine ⟨hl, fun h => ?_⟩
    rcases h with ⟨k2, e, h⟩ | h
    · have h1 := (List.getElem?_eq_some_iff.mp h).1
      have := hD.1 (w1.length + k) k2 q (q.1, e) (r k q hq) (by rw [List.getElem?_append_left h1]; exact h) rfl
      omega
    · omega
  refine ⟨va_P.app hP1 (fun k q hq => ?_), va_D.app (hD1.weaken (fun k q _ h => hF q.1 h)) ?_ (fun i j x y hx hy hxy => ?_)⟩
  · obtain ⟨g1, g2⟩ := apt k q hq
    exact (hP _ q (r k q hq)).kept (hk q.1 g1 g2)
  · exact ⟨fun i j p q hp hq e => by have := hD.1 _ _ p q (r i p hp) (r j q hq) e; omega, fun k q hq => hD.2 _ q (r k q hq)⟩
  · obtain ⟨g1, g2⟩ := apt j y hy
    exact g2 (by rw [← hxy]; exact hD1.2 i x hx)
theorem rp_ne2 (p : Int32) : ¬ f_S_requirePlace p = 2 := by
  unfold f_S_requirePlace
  split
  · decide
  · split <;> decide
