/-! THE CLAIM OUT OF ONE WALK OF THE LAW'S BODY. Your part is whole_start (and what it stands on); all else here is the same for every law, but numbers. -/
def R_law : String := "ValueSieveLaw"
def lw_P (b : Addr) (xs : List Int32) (args : Array Value) (s : State) : Prop := args = #[.ref b] ∧ s.IntsAt b xs ∧ xs.length ≤ 4608 ∧ (Jvm.Cond.and given_1 narrow_1).before args s = true
def lw_Q (_ : Array Value) (s : State) (o : Outcome) (t : State) : Prop := o = .returned (some (.int 1)) ∧ Framed s o t [] 601024 7293034
def lw_Z (below : List Frame) (a : Array Value) (s : State) : State → Prop := fun t => ∃ o, t.status = .running ∧ Ended t below o ∧ lw_Q a s o t
/-- the law's own end, with 1 on the stack, nothing written that was there before, its room as the claim has it -/
theorem lw_ret {p : Program} {l : Launch} {e : Env} {s : State} {m : MethodId} {below : List Frame} {meth : Method} {c : Code} {b : Nat} (hx : p.tables.exec = Jvm.exec) (hb : c.code = code) (hr : meth.sig.returnType = ret) (hlocks : meth.locks = false) {pc : Nat} {H : Heap} {ls : Array Slot} (hdg : decode code pc = .ok (.ireturn, 1)) : W p l e room_1 s m #[Value.ref b] below meth c H [] 601024 7293034 (lw_Z below #[Value.ref b] s) (F0 m pc ls [.int 1]) := by
  intro T hT X
  obtain ⟨fs, hret, hrun, hended, hW, hframe⟩ := X.leave (v := some (.int 1)) (hlocks := hlocks) (fun h => by rw [hr] at h; cases h)
  have hmeth' : T.vm.method? m = some meth := X.method'
  refine ⟨T.setFrames fs, ?_, .returned (some (.int 1)), hrun, hended, rfl, ⟨_, rfl⟩, hW, hframe⟩
  jvm_step X.here [X.here.top, hx, hb, hdg, hmeth', hr, ret, narrow_b1]
  (try refine ⟨rfl, ?_⟩); (try refine ⟨rfl, ?_⟩)
  first | (intro acts; rw [hret _ acts rfl rfl rfl]) | rw [hret _ _ rfl rfl rfl]
  exact Steps.refl _
/-- what holds at the law's entry: the machine, the code, the tables' words (any of lw_tbl by 'hts w (by decide +kernel)'), the script of L ints xs at the cell b, what the Statement gives of the start (any of its parts by flat_of_before) -/
def lw_At (p : Program) (s : State) (m : MethodId) (meth : Method) (c : Code) (b L : Nat) (xs : Nat → Int32) : Prop :=
  p.tables.exec = Jvm.exec ∧ c.code = code ∧ meth.sig.returnType = ret ∧ c.maxLocals = 8 ∧ s.vm.findClass R_law = some m.cls ∧ (∀ w ∈ lw_tbl, w.before #[Value.ref b] s = true) ∧ va_X b L xs s s.heap ∧ b < s.heap.size ∧ meth.locks = false ∧ (Jvm.Cond.and given_1 narrow_1).before #[Value.ref b] s = true

/-! rows of the law's body -/
theorem va_P.right {D : va_G} {cl : List vw_C} {w1 w2 : va_W} {H : Heap} (h : va_P D cl (w1 ++ w2) H) : va_P D cl w2 H := fun k q hk => h (w1.length + k) q (by rw [List.getElem?_append_right (Nat.le_add_right _ _), Nat.add_sub_cancel_left]; exact hk)
theorem va_D.right {A : Nat → Prop} {w1 w2 : va_W} (h : va_D A (w1 ++ w2)) : va_D A w2 := by
  have r : ∀ (k : Nat) (q : Nat × va_E), w2[k]? = some q → (w1 ++ w2)[w1.length + k]? = some q := fun k q h => by rw [List.getElem?_append_right (Nat.le_add_right _ _), Nat.add_sub_cancel_left]; exact h
  exact ⟨fun i j p q hp hq e => by have := h.1 _ _ p q (r i p hp) (r j q hq) e; omega, fun k q hq => h.2 _ q (r k q hq)⟩
/-- a callee has changed the second of two worlds -/
theorem va_two2 {A0 : Nat → Prop} {D : va_G} {cl : List vw_C} {w1 w2 w2' : va_W} {H H1 : Heap} (hP : va_P D cl (w1 ++ w2) H) (hD : va_D A0 (w1 ++ w2)) (hk : ∀ q : Nat, q < H.size → ¬ va_A w2 H.size q → H1[q]? = H[q]?) (hP1 : va_P D cl w2' H1) (hD1 : va_D (va_A w2 H.size) w2') (hF : ∀ q, va_A w2 H.size q → A0 q) : va_P D cl (w1 ++ w2') H1 ∧ va_D A0 (w1 ++ w2') := by
  have r : ∀ (k : Nat) (q : Nat × va_E), w2[k]? = some q → (w1 ++ w2)[w1.length + k]? = some q := fun k q h => by rw [List.getElem?_append_right (Nat.le_add_right _ _), Nat.add_sub_cancel_left]; exact h
  have apt : ∀ (k : Nat) (q : Nat × va_E), w1[k]? = some q → q.1 < H.size ∧ ¬ va_A w2 H.size q.1 := fun k q hq => by
    have hk1 := (List.getElem?_eq_some_iff.mp hq).1
    have hq' : (w1 ++ w2)[k]? = some q := by rw [List.getElem?_append_left hk1]; exact hq
    have hl := (hP _ q hq').lt
    refine ⟨hl, fun h => ?_⟩
    rcases h with ⟨k2, e, h⟩ | h
    · have := hD.1 k (w1.length + k2) q (q.1, e) hq' (r k2 (q.1, e) h) rfl
      omega
    · omega
  refine ⟨va_P.app (fun k q hq => ?_) hP1, va_D.app (va_D.left hD) (hD1.weaken (fun k q _ h => hF q.1 h)) (fun i j x y hx hy hxy => ?_)⟩
  · obtain ⟨g1, g2⟩ := apt k q hq
    exact (va_P.left hP k q hq).kept (hk q.1 g1 g2)
  · obtain ⟨g1, g2⟩ := apt i x hx
    exact g2 (by rw [hxy]; exact hD1.2 j y hy)
theorem va_fr {A0 : Nat → Prop} {w : va_W} {H0 H : Heap} {locs : List Loc} (hD : va_D A0 w) (hS : va_S A0 H0 H locs) (hA : ∀ q, H0.size ≤ q → A0 q) : ∀ q, va_A w H.size q → A0 q := fun q h => by
  rcases h with ⟨k, e, h⟩ | h
  · exact hD.2 k (q, e) h
  · exact hA q (Nat.le_trans hS.1 h)
def hiX (a : Int32) : Int64 := a.toInt64 <<< ((32 : Int32).toInt64 &&& 63)
def lgX (a b : Int32) : Int64 := hiX a ||| (b.toInt64 &&& 4294967295)
def bX (a : Int32) : Bool := decide (¬ a = 0)
theorem bX_0 {a : Int32} (h : a = 0) : (0 : Int32) = bI (bX a) := by subst h; rfl
theorem bX_1 {a : Int32} (h : ¬ a = 0) : (1 : Int32) = bI (bX a) := by
  have : bX a = true := decide_eq_true h
  rw [this]; rfl
theorem upd0 (o : Nat → Int64) (x : Int64) : vp_updL o 0 x (0 : Int32).toNatClampNeg = x := if_pos (by decide)
section LC
variable {p : Program} {l : Launch} {e : Env} {R : Room} {s : State} {m : MethodId} {args : Array Value} {below : List Frame} {meth : Method} {c : Code} {H : Heap} {locs : List Loc} {cells slots : Nat} {Q : State → Prop}
variable {pc : Nat} {ls : Array Slot} {rest st0 : List Value} {a : Array Value} {A0 : Nat → Prop} {H0 : Heap} {D : va_G} {w1 w2 w1' w2' : va_W} {F : Int32} {F9 : Int64} {mc ms : Nat} {cc : ByteArray} {tys : List (ClassId × FieldType)}
/-- an int of the script, at i + j -/
theorem ls_at {b L i j : Nat} {xs : Nat → Int32} (hx : p.tables.exec = Jvm.exec) (hb : c.code = cc) (hX : va_X b L xs s H0) (hbl : b < H0.size) (hbA : ¬ A0 b) (hS : va_S A0 H0 H locs) (hL : L ≤ 4608) (hij : i + j < L) {v : Int32} (hv : v = nI j) (d3 : decode cc pc = .ok (.iadd, 1)) (d4 : decode cc (pc + 1) = .ok (.iaload, 1))
    (k : W p l e R s m args below meth c H locs cells slots Q (F0 m (pc + 1 + 1) ls (.int (xs (i + j)) :: rest))) : W p l e R s m args below meth c H locs cells slots Q (F0 m pc ls (.int v :: .int (nI i) :: .ref b :: rest)) := by
  have e1 : nI i + v = nI (i + j) := by rw [hv]; exact nI_add i j
  refine lv_iadd hx hb d3 ?_
  rw [e1]
  refine va_sld hx hb hX hbl hbA hS (vp_in_nI hij (by omega)) d4 ?_
  rw [nI_clamp (by omega)]
  exact k
theorem ls_rd {b L i j : Nat} {xs : Nat → Int32} (hx : p.tables.exec = Jvm.exec) (hb : c.code = cc) (hX : va_X b L xs s H0) (hbl : b < H0.size) (hbA : ¬ A0 b) (hS : va_S A0 H0 H locs) (hL : L ≤ 4608) (h0 : ls[0]? = some (.val (.ref b))) (h4 : ls[4]? = some (.val (.int (nI i)))) (hij : i + j < L) {z : Int} (hz : Int32.ofInt z = nI j)
    (d0 : decode cc pc = .ok (.aload_n 0, 1)) (d1 : decode cc (pc + 1) = .ok (.iload 4, 2)) (d2 : decode cc (pc + 1 + 2) = .ok (.iconst z, 1)) (d3 : decode cc (pc + 1 + 2 + 1) = .ok (.iadd, 1)) (d4 : decode cc (pc + 1 + 2 + 1 + 1) = .ok (.iaload, 1))
    (k : W p l e R s m args below meth c H locs cells slots Q (F0 m (pc + 1 + 2 + 1 + 1 + 1) ls (.int (xs (i + j)) :: rest))) : W p l e R s m args below meth c H locs cells slots Q (F0 m pc ls rest) := by
  refine lv_aload_n hx hb d0 rfl h0 ?_
  refine lv_iload hx hb d1 h4 ?_
  refine lv_iconst hx hb d2 hz ?_
  exact ls_at hx hb hX hbl hbA hS hL hij rfl d3 d4 k
theorem ls_rb {b L i j : Nat} {xs : Nat → Int32} (hx : p.tables.exec = Jvm.exec) (hb : c.code = cc) (hX : va_X b L xs s H0) (hbl : b < H0.size) (hbA : ¬ A0 b) (hS : va_S A0 H0 H locs) (hL : L ≤ 4608) (h0 : ls[0]? = some (.val (.ref b))) (h4 : ls[4]? = some (.val (.int (nI i)))) (hij : i + j < L) {z : Int} (hz : (Int8.ofInt z).toInt32 = nI j)
    (d0 : decode cc pc = .ok (.aload_n 0, 1)) (d1 : decode cc (pc + 1) = .ok (.iload 4, 2)) (d2 : decode cc (pc + 1 + 2) = .ok (.bipush z, 2)) (d3 : decode cc (pc + 1 + 2 + 2) = .ok (.iadd, 1)) (d4 : decode cc (pc + 1 + 2 + 2 + 1) = .ok (.iaload, 1))
    (k : W p l e R s m args below meth c H locs cells slots Q (F0 m (pc + 1 + 2 + 2 + 1 + 1) ls (.int (xs (i + j)) :: rest))) : W p l e R s m args below meth c H locs cells slots Q (F0 m pc ls rest) := by
  refine lv_aload_n hx hb d0 rfl h0 ?_
  refine lv_iload hx hb d1 h4 ?_
  refine lv_bipush hx hb d2 hz ?_
  exact ls_at hx hb hX hbl hbA hS hL hij rfl d3 d4 k
/-- the upper half of a long -/
theorem ls_hi (hx : p.tables.exec = Jvm.exec) (hb : c.code = cc) {x : Int32} (d0 : decode cc pc = .ok (.i2l, 1)) (d1 : decode cc (pc + 1) = .ok (.bipush 32, 2)) (d2 : decode cc (pc + 1 + 2) = .ok (.lshl, 1))
    (k : W p l e R s m args below meth c H locs cells slots Q (F0 m (pc + 1 + 2 + 1) ls (.long (hiX x) :: rest))) : W p l e R s m args below meth c H locs cells slots Q (F0 m pc ls (.int x :: rest)) := by
  refine lv_i2l (v := x.toInt64) hx hb d0 rfl ?_
  refine lv_bipush (v := 32) hx hb d1 (by decide) ?_
  exact lv_lshl (v := hiX x) hx hb d2 rfl k
/-- its lower half -/
theorem ls_lo (hx : p.tables.exec = Jvm.exec) (hb : c.code = cc) (hown : s.vm.findClass R_L = some m.cls) (hc : (Cond.constantLong R_L 83 4294967295).before args s = true) {x y : Int32} (d0 : decode cc pc = .ok (.i2l, 1)) (d1 : decode cc (pc + 1) = .ok (.ldc2_w 83, 3)) (d2 : decode cc (pc + 1 + 3) = .ok (.land, 1)) (d3 : decode cc (pc + 1 + 3 + 1) = .ok (.lor, 1))
    (k : W p l e R s m args below meth c H locs cells slots Q (F0 m (pc + 1 + 3 + 1 + 1) ls (.long (lgX x y) :: rest))) : W p l e R s m args below meth c H locs cells slots Q (F0 m pc ls (.int y :: .long (hiX x) :: rest)) := by
  refine lv_i2l (v := y.toInt64) hx hb d0 rfl ?_
  refine lv_ldc2 hx hb hown hc d1 ?_
  refine lv_land hx hb d2 ?_
  exact lv_lor hx hb d3 k
/-- a boolean out of an int -/
theorem ls_z (hx : p.tables.exec = Jvm.exec) (hb : c.code = cc) {x : Int32} (d0 : decode cc pc = .ok (.ifCond .eq 7, 3)) (d1 : decode cc (pc + 3) = .ok (.iconst 1, 1)) (d2 : decode cc (pc + 3 + 1) = .ok (.goto 4, 3)) (d3 : decode cc (pc + 7) = .ok (.iconst 0, 1))
    (k : W p l e R s m args below meth c H locs cells slots Q (F0 m (pc + 7 + 1) ls (.int (bI (bX x)) :: rest))) : W p l e R s m args below meth c H locs cells slots Q (F0 m pc ls (.int x :: rest)) := by
  refine lv_if_eq (tgt := pc + 7) hx hb d0 (by omega) (fun h => ?_) (fun h => ?_)
  · refine lv_iconst (v := 0) hx hb d3 (by decide) ?_
    rw [bX_0 h]
    exact k
  · refine lv_iconst (v := 1) hx hb d1 (by decide) ?_
    refine lv_goto (tgt := pc + 7 + 1) hx hb d2 (by omega) ?_
    rw [bX_1 h]
    exact k
/-- 0 or 1 as a long -/
theorem ls_bit (hx : p.tables.exec = Jvm.exec) (hb : c.code = cc) {x : Int32} (d0 : decode cc pc = .ok (.ifCond .eq 7, 3)) (d1 : decode cc (pc + 3) = .ok (.lconst 1, 1)) (d2 : decode cc (pc + 3 + 1) = .ok (.goto 4, 3)) (d3 : decode cc (pc + 7) = .ok (.lconst 0, 1))
    (k : W p l e R s m args below meth c H locs cells slots Q (F0 m (pc + 7 + 1) ls (.long (if x = 0 then 0 else 1) :: rest))) : W p l e R s m args below meth c H locs cells slots Q (F0 m pc ls (.int x :: rest)) := by
  refine lv_if_eq (tgt := pc + 7) hx hb d0 (by omega) (fun h => ?_) (fun h => ?_)
  · refine lv_lconst (v := 0) hx hb d3 (by decide) ?_
    rw [if_pos h] at k
    exact k
  · refine lv_lconst (v := 1) hx hb d1 (by decide) ?_
    refine lv_goto (tgt := pc + 7 + 1) hx hb d2 (by omega) ?_
    rw [if_neg h] at k
    exact k
/-- a helper has changed the first world -/
theorem lc_S (hr : va_Run p l e R s m args below meth c H locs cells slots mc ms (F0 m pc ls st0) rest (va_Qi (fun r (_ : Unit) => r = F) (mB D (va_A w1 H.size) w1') (va_A w1 H.size) a) (va_A w1 H.size)) (hP : va_P D classes (w1 ++ w2) H) (hD : va_D A0 (w1 ++ w2)) (hS : va_S A0 H0 H locs) (hA : ∀ q, H0.size ≤ q → A0 q)
    (kk : ∀ (H1 : Heap) (locs1 : List Loc), va_P D classes (w1' ++ w2) H1 → va_D A0 (w1' ++ w2) → va_S A0 H0 H1 locs1 → W p l e R s m args below meth c H1 locs1 (cells + mc) (slots + ms) Q (F0 m (pc + 3) ls (.int F :: rest))) : W p l e R s m args below meth c H locs cells slots Q (F0 m pc ls st0) := by
  have hF := va_fr (va_D.left hD) hS hA
  refine va_calli hr hS (fun q _ h => hF q h) hF (fun r u t H1 locs1 ht hvm hw hBB hz1 hk1 hS1 => ?_)
  obtain ⟨hP1, hD1⟩ := hBB
  rw [ht] at hP1
  subst hw
  obtain ⟨hPn, hDn⟩ := va_two hP hD hk1 hP1 hD1 hF
  exact kk H1 locs1 hPn hDn hS1
/-- the reference has changed the second -/
theorem lc_Mv (hr : va_Run p l e R s m args below meth c H locs cells slots mc ms (F0 m pc ls st0) rest (va_Qv (fun _ : Unit => True) (mB D (va_A w2 H.size) w2') (va_A w2 H.size) a) (va_A w2 H.size)) (hP : va_P D classes (w1 ++ w2) H) (hD : va_D A0 (w1 ++ w2)) (hS : va_S A0 H0 H locs) (hA : ∀ q, H0.size ≤ q → A0 q)
    (kk : ∀ (H1 : Heap) (locs1 : List Loc), va_P D classes (w1 ++ w2') H1 → va_D A0 (w1 ++ w2') → va_S A0 H0 H1 locs1 → W p l e R s m args below meth c H1 locs1 (cells + mc) (slots + ms) Q (F0 m (pc + 3) ls rest)) : W p l e R s m args below meth c H locs cells slots Q (F0 m pc ls st0) := by
  have hF := va_fr (va_D.right hD) hS hA
  refine va_callv hr hS (fun q _ h => hF q h) hF (fun u t H1 locs1 ht hvm hw hBB hz1 hk1 hS1 => ?_)
  obtain ⟨hP1, hD1⟩ := hBB
  rw [ht] at hP1
  obtain ⟨hPn, hDn⟩ := va_two2 hP hD hk1 hP1 hD1 hF
  exact kk H1 locs1 hPn hDn hS1
theorem lc_Mi (hr : va_Run p l e R s m args below meth c H locs cells slots mc ms (F0 m pc ls st0) rest (va_Qi (fun r (_ : Unit) => r = F) (mB D (va_A w2 H.size) w2') (va_A w2 H.size) a) (va_A w2 H.size)) (hP : va_P D classes (w1 ++ w2) H) (hD : va_D A0 (w1 ++ w2)) (hS : va_S A0 H0 H locs) (hA : ∀ q, H0.size ≤ q → A0 q)
    (kk : ∀ (H1 : Heap) (locs1 : List Loc), va_P D classes (w1 ++ w2') H1 → va_D A0 (w1 ++ w2') → va_S A0 H0 H1 locs1 → W p l e R s m args below meth c H1 locs1 (cells + mc) (slots + ms) Q (F0 m (pc + 3) ls (.int F :: rest))) : W p l e R s m args below meth c H locs cells slots Q (F0 m pc ls st0) := by
  have hF := va_fr (va_D.right hD) hS hA
  refine va_calli hr hS (fun q _ h => hF q h) hF (fun r u t H1 locs1 ht hvm hw hBB hz1 hk1 hS1 => ?_)
  obtain ⟨hP1, hD1⟩ := hBB
  rw [ht] at hP1
  subst hw
  obtain ⟨hPn, hDn⟩ := va_two2 hP hD hk1 hP1 hD1 hF
  exact kk H1 locs1 hPn hDn hS1
theorem lc_Ml (hr : va_Run p l e R s m args below meth c H locs cells slots mc ms (F0 m pc ls st0) rest (va_Ql (fun r (_ : Unit) => r = F9) (mB D (va_A w2 H.size) w2') (va_A w2 H.size) a) (va_A w2 H.size)) (hP : va_P D classes (w1 ++ w2) H) (hD : va_D A0 (w1 ++ w2)) (hS : va_S A0 H0 H locs) (hA : ∀ q, H0.size ≤ q → A0 q)
    (kk : ∀ (H1 : Heap) (locs1 : List Loc), va_P D classes (w1 ++ w2') H1 → va_D A0 (w1 ++ w2') → va_S A0 H0 H1 locs1 → W p l e R s m args below meth c H1 locs1 (cells + mc) (slots + ms) Q (F0 m (pc + 3) ls (.long F9 :: rest))) : W p l e R s m args below meth c H locs cells slots Q (F0 m pc ls st0) := by
  have hF := va_fr (va_D.right hD) hS hA
  refine va_calll hr hS (fun q _ h => hF q h) hF (fun r u t H1 locs1 ht hvm hw hBB hz1 hk1 hS1 => ?_)
  obtain ⟨hP1, hD1⟩ := hBB
  rw [ht] at hP1
  subst hw
  obtain ⟨hPn, hDn⟩ := va_two2 hP hD hk1 hP1 hD1 hF
  exact kk H1 locs1 hPn hDn hS1
/-- what a helper begins with -/
theorem lc_pS {As : List Value} (hP : va_P D classes w1 H) (hD : va_D A0 w1) (hS : va_S A0 s.heap H locs) (hA : ∀ q, s.heap.size ≤ q → A0 q) (hK : va_K D classes tys s) (hQ : xQ A0 s s.heap) (hN : va_Nc eA eI s) : PreS s H (va_Pc As (hP9 D tys w1 H.size)) As :=
  ⟨blh, fun U hU hW => ⟨rfl, by rw [hU], by rw [hU]; exact hP, va_K.moved hW.alike hK, hD.weaken (fun _ _ _ _ => trivial), by rw [hU]; exact ((hQ.kept hS.2.1).narrow (va_fr hD hS hA)).moved hW, va_Nc.moved hW.alike hN⟩⟩
/-- what a method of the reference begins with -/
theorem lc_pM {As : List Value} {ad : Nat → Nat} {cJ cZ : ClassId} {c0 : Int32} {r : Nat → VV} {w : Nat → Int64} {t : Int32} (hP : va_P D classes (mW ad cJ cZ c0 r w t) H) (hD : va_D A0 (mW ad cJ cZ c0 r w t)) (hK : va_K D classes tys s) : PreV s H R_M (ad 0) (va_Pc (.ref (ad 0) :: As) (nP D tys (mW ad cJ cZ c0 r w t) H.size)) As :=
  ⟨blp, va_recv hK hP (ci := 2) (q0 := 0) rfl rfl, fun U hU hW => ⟨rfl, by rw [hU], by rw [hU]; exact hP, va_K.moved hW.alike hK, hD.weaken (fun _ _ _ _ => trivial)⟩⟩
theorem lc_pR {As : List Value} {ad : Nat → Nat} {cJ cZ : ClassId} {c0 : Int32} {r : Nat → VV} {w : Nat → Int64} {t : Int32} (hP : va_P D classes (mW ad cJ cZ c0 r w t) H) (hK : va_K D classes tys s) : PreV s H R_M (ad 0) (va_Pc (.ref (ad 0) :: As) (nR D tys (mW ad cJ cZ c0 r w t))) As :=
  ⟨bln, va_recv hK hP (ci := 2) (q0 := 0) rfl rfl, fun U hU hW => ⟨rfl, by rw [hU]; exact hP, va_K.moved hW.alike hK⟩⟩
end LC
theorem tLg : GoodIn lw_tbl gL := fun w h => ⟨tL w h, gLood w h⟩
theorem tMg : GoodIn lw_tbl gM := fun w h => ⟨tM w h, (gMood w h).2⟩
theorem tPg : GoodIn lw_tbl gP := fun w h => ⟨tL w (List.mem_append_left _ h), gPood w h⟩
set_option maxRecDepth 100000 in
theorem tIni : Cond.initialized R_L ∈ lw_tbl := List.mem_of_getElem? (i := 47) rfl
set_option maxRecDepth 100000 in
theorem tCon : Cond.constantLong R_L 83 4294967295 ∈ lw_tbl := List.mem_of_getElem? (i := 954) rfl
theorem gLS {idx k : Nat} {y : MethodName} {b : ByteArray} {r : Option FieldType} {hh : List (Nat × Nat × Nat × Nat)} (hy : y.cls = R_L) (h1 : Cond.methodLink R_L idx y ∈ lw_tbl) (h2 : Cond.static y ∈ lw_tbl) (h3 : Cond.codeWith y b k r hh ∈ lw_tbl) : GoodIn lw_tbl (va_wsS R_L idx y (Cond.codeWith y b k r hh :: gL)) := by
  have hi : Cond.initialized y.cls ∈ lw_tbl := by rw [hy]; exact tIni
  intro w hw
  rcases List.mem_append.mp hw with h | h
  · rcases List.mem_cons.mp h with rfl | h
    · exact ⟨h1, good_of_word rfl⟩
    · rcases List.mem_cons.mp h with rfl | h
      · exact ⟨h2, good_of_word rfl⟩
      · rcases List.mem_cons.mp h with rfl | h
        · exact ⟨hi, good_of_word rfl⟩
        · cases h
  · rcases List.mem_cons.mp h with rfl | h
    · exact ⟨h3, good_of_word rfl⟩
    · exact tLg w h
theorem gLM {idx k : Nat} {y : MethodName} {b : ByteArray} {r : Option FieldType} (h1 : Cond.methodLink R_L idx y ∈ lw_tbl) (h2 : Cond.instanceMethod y ∈ gM) (h3 : Cond.selects R_M y y ∈ gM) (h5 : Cond.code y b k r ∈ gM) : GoodIn lw_tbl (wsV R_L idx R_M y (Cond.code y b k r :: gM)) := by
  intro w hw
  rcases List.mem_append.mp hw with h | h
  · rcases List.mem_cons.mp h with rfl | h
    · exact ⟨h1, good_of_word rfl⟩
    · rcases List.mem_cons.mp h with rfl | h
      · exact tMg _ h2
      · rcases List.mem_cons.mp h with rfl | h
        · exact tMg _ h3
        · rcases List.mem_cons.mp h with rfl | h
          · exact tMg _ gx0
          · cases h
  · rcases List.mem_cons.mp h with rfl | h
    · exact tMg _ h5
    · exact tMg w h
theorem gLC {idx k : Nat} {y : MethodName} {b : ByteArray} {r : Option FieldType} (h1 : Cond.methodLink R_L idx y ∈ lw_tbl) (h2 : Cond.instanceMethod y ∈ gG) (h3 : Cond.selects R_S y y ∈ gG) (h5 : Cond.code y b k r ∈ gG) : GoodIn lw_tbl (wsV R_L idx R_S y (Cond.code y b k r :: gP)) := by
  intro w hw
  rcases List.mem_append.mp hw with h | h
  · rcases List.mem_cons.mp h with rfl | h
    · exact ⟨h1, good_of_word rfl⟩
    · rcases List.mem_cons.mp h with rfl | h
      · exact tPg _ (gGP h2)
      · rcases List.mem_cons.mp h with rfl | h
        · exact tPg _ (gGP h3)
        · rcases List.mem_cons.mp h with rfl | h
          · exact tPg _ (gGP gw0)
          · cases h
  · rcases List.mem_cons.mp h with rfl | h
    · exact tPg _ (gGP h5)
    · exact tPg w h
abbrev LW (ad : Nat → Nat) (cQ cJ : ClassId) (v : Nat → VV) (w : Nat → Int64) (t : Int32) (x y z : VV) (oa : Nat) (o : Nat → Int64) (am : Nat → Nat) (cZ : ClassId) (c0 : Int32) (r : Nat → VV) (w2 : Nat → Int64) (t2 : Int32) : va_W := (sW ad cQ cJ v w t x y z ++ [(oa, .inl (cJ, 1, .inr (.inl o)))]) ++ mW am cJ cZ c0 r w2 t2
/-- what stays over the law's loop -/
def LE (l : Launch) (p : Program) (s : State) (m : MethodId) (c : Code) (b L : Nat) (xs : Nat → Int32) (dC : Nat → ClassId) (dI : Nat → Nat → Nat) (cQ cJ cZ : ClassId) : Prop :=
  p.tables.exec = Jvm.exec ∧ c.code = code ∧ c.maxLocals = 8 ∧ s.vm.findClass R_L = some m.cls ∧ (∀ w ∈ lw_tbl, w.before #[Value.ref b] s = true) ∧ va_X b L xs s s.heap ∧ b < s.heap.size ∧ L ≤ 4608 ∧ l.stackTraces = false ∧ xQ (fun q : Nat => s.heap.size ≤ q) s s.heap ∧ va_Nc eA eI s ∧ va_K (dC, dI) classes (sT cQ cJ) s ∧ va_K (dC, dI) classes (mT cJ cZ) s
/-- what holds at its head -/
def LI (s : State) (dC : Nat → ClassId) (dI : Nat → Nat → Nat) (cQ cJ cZ : ClassId) (ad am : Nat → Nat) (oa : Nat) (v : Nat → VV) (w : Nat → Int64) (t : Int32) (x y z : VV) (o : Nat → Int64) (c0 : Int32) (r : Nat → VV) (H : Heap) (locs : List Loc) : Prop :=
  INV v w r ∧ va_P (dC, dI) classes (LW ad cQ cJ v w t x y z oa o am cZ c0 r w t) H ∧ va_D (fun q : Nat => s.heap.size ≤ q) (LW ad cQ cJ v w t x y z oa o am cZ c0 r w t) ∧ va_S (fun q : Nat => s.heap.size ≤ q) s.heap H locs
def LL (ls : Array Slot) (b : Nat) (ad am : Nat → Nat) (oa i : Nat) : Prop := lv_has ls 8 [(0, .ref b), (1, .ref (ad 0)), (2, .ref (am 0)), (3, .ref oa), (4, .int (nI i))]
/-- the road on, behind a case -/
def LK (p : Program) (l : Launch) (e : Env) (s : State) (m : MethodId) (below : List Frame) (meth : Method) (c : Code) (b : Nat) (dC : Nat → ClassId) (dI : Nat → Nat → Nat) (cQ cJ cZ : ClassId) (ad am : Nat → Nat) (oa i cells slots : Nat) (Q : State → Prop) : Prop :=
  ∀ (v : Nat → VV) (w : Nat → Int64) (t : Int32) (x y z : VV) (o : Nat → Int64) (c0 : Int32) (r : Nat → VV) (H : Heap) (locs : List Loc) (ls : Array Slot), LI s dC dI cQ cJ cZ ad am oa v w t x y z o c0 r H locs → LL ls b ad am oa i → W p l e room_1 s m #[Value.ref b] below meth c H locs (cells + 4) (slots + 24) Q (F0 m 1716 ls [])
