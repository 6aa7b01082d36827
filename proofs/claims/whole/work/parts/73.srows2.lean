/-! small rows for the walks of ValueSieve -/
theorem fl1 {ws : va_W} {i : Nat} {q : Nat × va_E} (h : ws[i]? = some q) : [i].filterMap (fun i => ws[i]?) = [q] := fm_of (l := [q]) (by rw [List.map_cons, h]; rfl)
theorem mp1 {ws : va_W} {i : Nat} {q : Nat × va_E} (h : ws[i]? = some q) : [i].map (fun i => ws[i]?) = [q].map some := by rw [List.map_cons, h]; rfl
theorem mp2 {ws : va_W} {i j : Nat} {q r : Nat × va_E} (h : ws[i]? = some q) (h2 : ws[j]? = some r) : [i, j].map (fun i => ws[i]?) = [q, r].map some := by rw [List.map_cons, List.map_cons, h, h2]; rfl
theorem mp3 {ws : va_W} {i j k : Nat} {q r u : Nat × va_E} (h : ws[i]? = some q) (h2 : ws[j]? = some r) (h3 : ws[k]? = some u) : [i, j, k].map (fun i => ws[i]?) = [q, r, u].map some := by rw [List.map_cons, List.map_cons, List.map_cons, h, h2, h3]; rfl
theorem fl2 {ws : va_W} {i j : Nat} {q r : Nat × va_E} (h : ws[i]? = some q) (h2 : ws[j]? = some r) : [i, j].filterMap (fun i => ws[i]?) = [q, r] := fm_of (mp2 h h2)
theorem fl3 {ws : va_W} {i j k : Nat} {q r u : Nat × va_E} (h : ws[i]? = some q) (h2 : ws[j]? = some r) (h3 : ws[k]? = some u) : [i, j, k].filterMap (fun i => ws[i]?) = [q, r, u] := fm_of (mp3 h h2 h3)
theorem nd1 (a : Nat) : va_nd [a] = true := by simp [va_nd]
theorem nd2 {a b : Nat} (h : ¬ a = b) : va_nd [a, b] = true := by simp [va_nd, h]
theorem nd3 {a b c : Nat} (h : ¬ a = b) (h2 : ¬ a = c) (h3 : ¬ b = c) : va_nd [a, b, c] = true := by simp [va_nd, h, h2, h3]
theorem in1 {Pr : Nat → Prop} {a : Nat} (h : Pr a) : ∀ i ∈ [a], Pr i := fun i hi => by
  rcases List.mem_cons.mp hi with rfl | hi
  · exact h
  · cases hi
theorem in2 {Pr : Nat → Prop} {a b : Nat} (h : Pr a) (h2 : Pr b) : ∀ i ∈ [a, b], Pr i := fun i hi => by
  rcases List.mem_cons.mp hi with rfl | hi
  · exact h
  · exact in1 h2 i hi
theorem in3 {Pr : Nat → Prop} {a b c : Nat} (h : Pr a) (h2 : Pr b) (h3 : Pr c) : ∀ i ∈ [a, b, c], Pr i := fun i hi => by
  rcases List.mem_cons.mp hi with rfl | hi
  · exact h
  · exact in2 h2 h3 i hi
theorem m0 {α : Type} {a : α} {l : List α} : a ∈ a :: l := List.mem_cons_self
theorem m1 {α : Type} {a b : α} {l : List α} : a ∈ b :: a :: l := List.mem_cons_of_mem _ List.mem_cons_self
theorem m2 {α : Type} {a b c : α} {l : List α} : a ∈ b :: c :: a :: l := List.mem_cons_of_mem _ m1
theorem gS9 {c0 : Cond} {own : String} {idx : Nat} {y : MethodName} {b : ByteArray} {n : Nat} {r : Option FieldType} (h1 : Cond.methodLink own idx y ∈ gG) (h2 : Cond.static y ∈ gG) (h3 : Cond.initialized y.cls ∈ gG) (h4 : Cond.code y b n r ∈ gG) : GoodIn (c0 :: gP) (va_wsS own idx y (Cond.code y b n r :: gG)) := fun w hw => ⟨List.mem_cons_of_mem _ (gGP ((List.mem_cons.mp (gS (c0 := .initialized R_S) h1 h2 h3 h4 w hw).1).elim (fun e => e ▸ gw0) id)), (gS (c0 := .initialized R_S) h1 h2 h3 h4 w hw).2⟩
theorem gV9 {c0 : Cond} {own C : String} {idx : Nat} {y : MethodName} {b : ByteArray} {n : Nat} {r : Option FieldType} (h1 : Cond.methodLink own idx y ∈ gG) (h2 : Cond.instanceMethod y ∈ gG) (h3 : Cond.selects C y y ∈ gG) (h4 : Cond.initialized C ∈ gG) (h5 : Cond.code y b n r ∈ gG) : GoodIn (c0 :: gP) (wsV own idx C y (Cond.code y b n r :: gG)) := fun w hw => ⟨List.mem_cons_of_mem _ (gGP ((List.mem_cons.mp (gV (c0 := .initialized R_S) h1 h2 h3 h4 h5 w hw).1).elim (fun e => e ▸ gw0) id)), (gV (c0 := .initialized R_S) h1 h2 h3 h4 h5 w hw).2⟩
theorem gSS {c0 : Cond} {own : String} {idx : Nat} {y : MethodName} {b : ByteArray} {n : Nat} {r : Option FieldType} (h1 : Cond.methodLink own idx y ∈ gG) (h2 : Cond.static y ∈ gG) (h3 : Cond.initialized y.cls ∈ gG) (h4 : Cond.code y b n r ∈ gG) : GoodIn (c0 :: gP) (va_wsS own idx y (Cond.code y b n r :: gP)) := by
  have all : ∀ w ∈ va_wsS own idx y (Cond.code y b n r :: gP), w ∈ gP := by
    intro w hw
    rcases List.mem_append.mp hw with h | h
    · rcases List.mem_cons.mp h with rfl | h
      · exact gGP h1
      · rcases List.mem_cons.mp h with rfl | h
        · exact gGP h2
        · rcases List.mem_cons.mp h with rfl | h
          · exact gGP h3
          · cases h
    · rcases List.mem_cons.mp h with rfl | h
      · exact gGP h4
      · exact h
  exact fun w hw => ⟨List.mem_cons_of_mem _ (all w hw), gPood w (all w hw)⟩
theorem gVS {c0 : Cond} {own C : String} {idx : Nat} {y : MethodName} {b : ByteArray} {n : Nat} {r : Option FieldType} (h1 : Cond.methodLink own idx y ∈ gG) (h2 : Cond.instanceMethod y ∈ gG) (h3 : Cond.selects C y y ∈ gG) (h4 : Cond.initialized C ∈ gG) (h5 : Cond.code y b n r ∈ gG) : GoodIn (c0 :: gP) (wsV own idx C y (Cond.code y b n r :: gP)) := by
  have all : ∀ w ∈ wsV own idx C y (Cond.code y b n r :: gP), w ∈ gP := by
    intro w hw
    rcases List.mem_append.mp hw with h | h
    · rcases List.mem_cons.mp h with rfl | h
      · exact gGP h1
      · rcases List.mem_cons.mp h with rfl | h
        · exact gGP h2
        · rcases List.mem_cons.mp h with rfl | h
          · exact gGP h3
          · rcases List.mem_cons.mp h with rfl | h
            · exact gGP h4
            · cases h
    · rcases List.mem_cons.mp h with rfl | h
      · exact gGP h5
      · exact h
  exact fun w hw => ⟨List.mem_cons_of_mem _ (all w hw), gPood w (all w hw)⟩
theorem uw_S : ∀ w ∈ u_ws R_S F_S 6, w ∈ gG := by decide +kernel
/-- what a method that may throw begins with -/
def sP (D : va_G) (tys : List (ClassId × FieldType)) (ws : va_W) (sz : Nat) : State → Prop := fun U => U.heap.size = sz ∧ va_P D classes ws U.heap ∧ va_K D classes tys U ∧ va_D (fun _ => True) ws ∧ xQ (va_A ws sz) U U.heap
theorem bls {D : va_G} {tys : List (ClassId × FieldType)} {ws : va_W} {sz : Nat} {av : List Value} : FrameBlind (va_Pc av (sP D tys ws sz)) := fun a U g mk q => by
  obtain ⟨q0, q1, qP, qK, qD, qX⟩ := q
  exact ⟨q0, q1, qP, va_K.moved (u := U) (U := U.calling g mk a) (Vm.Alike.refl U.vm) qK, qD, xQ.same (s := U) (U := U.calling g mk a) rfl qX⟩
/-- which exception goes with which code -/
def xE (k : Int32) (E : String) : Prop := (k = 1 ∧ E = eI) ∨ (k = 2 ∧ E = eA)
theorem xE.ne {k : Int32} {E : String} (h : xE k E) : ¬ k = 0 := by
  rcases h with ⟨h, -⟩ | ⟨h, -⟩ <;> rw [h] <;> decide
theorem xq_at {A : Nat → Prop} {s U : State} {H : Heap} {locs : List Loc} (hX : xQ A s s.heap) (hS : va_S A s.heap H locs) (hA : ∀ q : Nat, s.heap.size ≤ q → A q) (hU : U.heap = H) (hW : s.WarmedH U.vm) : xQ (fun q => H.size ≤ q) U U.heap := by
  rw [hU]
  exact ((hX.kept hS.2.1).narrow (fun q h => hA q (Nat.le_trans hS.1 h))).moved hW
section SXV
variable {p : Program} {l : Launch} {e : Env} {R : Room} {s : State} {m : MethodId} {args : Array Value} {below : List Frame} {meth : Method} {c : Code} {H : Heap} {locs : List Loc} {cells slots : Nat} {Q : State → Prop}
variable {pc : Nat} {ls : Array Slot} {rest st0 : List Value} {a : Array Value} {A0 : Nat → Prop} {H0 : Heap} {D : va_G} {ws : va_W} {F : Int32} {mc ms : Nat}
/-- a call of a static method that only tests, and may throw -/
theorem sx_v (hr : vx_Run p l e R s m args below meth c H locs cells slots mc ms (F0 m pc ls st0) rest (va_Qv (fun _ : Unit => F = 0) (fun _ _ => True) (fun q => H.size ≤ q) a) (vx_X (fun _ : Unit => True) (fun E _ _ => xE F E) (fun q => H.size ≤ q)) (fun q => H.size ≤ q)) (hP : va_P D classes ws H) (hS : va_S A0 H0 H locs) (hA : ∀ q, H0.size ≤ q → A0 q)
    (kx : ∀ (E : String) (ce : Cell) (q9 : Addr) (H1 : Heap) (locs1 : List Loc), xE F E → va_P D classes ws H1 → va_S A0 H0 H1 locs1 → H1[q9]? = some ce → ce.vm = .none → s.vm.findClass E = some ce.cls → vx_W p l e R s m args below meth c H1 locs1 (cells + mc) (slots + ms) Q (F0 m pc ls rest) q9)
    (kk : F = 0 → ∀ (H1 : Heap) (locs1 : List Loc), va_P D classes ws H1 → va_S A0 H0 H1 locs1 → W p l e R s m args below meth c H1 locs1 (cells + mc) (slots + ms) Q (F0 m (pc + 3) ls rest)) : W p l e R s m args below meth c H locs cells slots Q (F0 m pc ls st0) := by
  refine vx_callv hr hS (fun q h1 h => absurd h (Nat.not_le.mpr h1)) (fun q h => hA q (Nat.le_trans hS.1 h)) (fun q h1 h => absurd h (Nat.not_le.mpr h1)) (fun E ce q9 u t H1 locs1 ht hal hpx hB hz hk hS1 hce hcv hcl => ?_) (fun u t H1 locs1 ht hal hp hB hz hk hS1 => ?_)
  · exact kx E ce q9 H1 locs1 hB (hP.kept (fun k q hq => hk q.1 (hP k q hq).lt (Nat.not_le.mpr (hP k q hq).lt))) hS1 hce hcv hcl
  · exact kk hp H1 locs1 (hP.kept (fun k q hq => hk q.1 (hP k q hq).lt (Nat.not_le.mpr (hP k q hq).lt))) hS1
end SXV
