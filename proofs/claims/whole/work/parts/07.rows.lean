/-! The walk's own rows: one hypothesis B for the world, one E for the method; indices by natural numbers. -/
abbrev xG : Type := va_G × ClassId × ClassId × Nat × Nat × Nat
abbrev x_ty (G : xG) : List (ClassId × FieldType) := [(G.2.1, .int), (G.2.2.1, .object "PoolDice$Pool")]
abbrev x_I (G : xG) (n : Nat) (f : Nat → Int32) : va_E := .inl (G.2.1, n, .inl f)
/-- an array of bytes, by natural numbers -/
abbrev nA (g : Nat → Nat) : Nat → Int32 := fun j => nI (g j)
abbrev x_N (G : xG) (n : Nat) (g : Nat → Nat) : va_E := .inl (G.2.1, n, .inl (nA g))
/-- an array that is only read: its cell, outside of A -/
abbrev x_R (A : Nat → Prop) (U : State) (H : Heap) (r n : Nat) (f : Nat → Int32) : Prop := va_T .int r n (fun j => .int (f j)) A U H
def xS (G : xG) (A : Nat → Prop) (U : State) (H : Heap) : Prop :=
  (va_Z "PoolDice$Digest" "K" "[I" (.ref G.2.2.2.1) A U H ∧ x_R A U H G.2.2.2.1 64 k_K) ∧
  (va_Z "PoolDice$Digest" "START" "[I" (.ref G.2.2.2.2.1) A U H ∧ x_R A U H G.2.2.2.2.1 8 k_H) ∧
  (va_Z "PoolDice$Cipher" "S" "[I" (.ref G.2.2.2.2.2) A U H ∧ x_R A U H G.2.2.2.2.2 256 (nA k_S)) ∧ va_AO "PoolDice$Pool" U
theorem xS.go {G : xG} {A B : Nat → Prop} {u U : State} {H H1 : Heap} (h : xS G A u H) (hvm : u.vm.Alike U.vm) (hAB : ∀ q, B q → A q) (hq : ∀ a : Nat, a < H.size → ¬ A a → H1[a]? = H[a]?) : xS G B U H1 := by
  obtain ⟨⟨h1, h2⟩, ⟨h3, h4⟩, ⟨h5, h6⟩, h7⟩ := h
  exact ⟨⟨((h1.kept hq).narrow hAB).moved hvm, ((h2.kept hq).narrow hAB).moved hvm⟩, ⟨((h3.kept hq).narrow hAB).moved hvm, ((h4.kept hq).narrow hAB).moved hvm⟩, ⟨((h5.kept hq).narrow hAB).moved hvm, ((h6.kept hq).narrow hAB).moved hvm⟩, h7.moved hvm⟩
/-- the world of a walk -/
def xB (G : xG) (A : Nat → Prop) (s : State) (H : Heap) (locs : List Loc) (ws : va_W) : Prop :=
  va_K G.1 cl_s (x_ty G) s ∧ va_P G.1 cl_s ws H ∧ va_D A ws ∧ va_S A s.heap H locs ∧ xS G A s s.heap ∧ ∀ q : Nat, s.heap.size ≤ q → A q
theorem xB.sub {G : xG} {A : Nat → Prop} {s : State} {H : Heap} {locs : List Loc} {ws ws' : va_W} (B : xB G A s H locs ws) (is : List Nat) (hn : va_nd is = true) (hs : is.map (fun i => ws[i]?) = ws'.map some) : xB G A s H locs ws' := by
  refine ⟨B.1, B.2.1.sub is ?_, B.2.2.1.sub is hn hs, B.2.2.2⟩
  have h2 := congrArg (List.filterMap id) hs
  simpa [List.filterMap_map, Function.comp_def] using h2
/-- what a class's rows say -/
def x_C (ci : Nat) (C : String) (T : u_T) (N : Nat) (ty : Nat → FieldType) : Prop :=
  cl_s[ci]? = some (C, T, N) ∧ (∀ w ∈ u_ws C T N, w ∈ gg_L) ∧ (∀ k, k < N → parseFieldDescriptor (T k).2.2.1 = some (ty k)) ∧ (∀ a, a < N → ∀ b, b < N → a ≠ b → (T a).2.1 ≠ (T b).2.1)
theorem k_Ci : x_C 0 r_Ci f_Ci 3 t_Ci := ⟨rfl, i_Ci, t_Ci_ok, n_Ci⟩
theorem k_Dg : x_C 1 r_Dg f_Dg 3 t_Dg := ⟨rfl, i_Dg, t_Dg_ok, n_Dg⟩
theorem k_Dk : x_C 2 r_Dk f_Dk 3 t_Dk := ⟨rfl, i_Dk, t_Dk_ok, n_Dk⟩
theorem k_Ge : x_C 3 r_Ge f_Ge 10 t_Ge := ⟨rfl, i_Ge, t_Ge_ok, n_Ge⟩
theorem k_Po : x_C 4 r_Po f_Po 2 t_Po := ⟨rfl, i_Po, t_Po_ok, n_Po⟩
theorem k_Pd : x_C 5 r_Pd f_Pd 5 t_Pd := ⟨rfl, i_Pd, t_Pd_ok, n_Pd⟩
theorem k_Mo : x_C 6 r_Mo f_Mo 25 t_Mo := ⟨rfl, i_Mo, t_Mo_ok, n_Mo⟩
/-- a cell may be told by another function that agrees on its places -/
theorem x_cell {cA : ClassId} {n : Nat} {f g : Nat → Int32} (h : ∀ j, j < n → f j = g j) : vp_cell cA (n, .inl f) = vp_cell cA (n, .inl g) := by
  show arrV cA n (fun j => .int (f j)) = arrV cA n (fun j => .int (g j))
  unfold arrV
  congr 1
  apply Array.ext_getElem?
  intro i
  simp only [Array.getElem?_ofFn]
  split
  · rename_i hi
    rw [h _ hi]
  · rfl
theorem xB.fn {G : xG} {A : Nat → Prop} {s : State} {H : Heap} {locs : List Loc} {ws : va_W} (B : xB G A s H locs ws) (q0 : Nat) {a : Nat} {cA : ClassId} {n : Nat} {f : Nat → Int32} (he : ws[q0]? = some (a, .inl (cA, n, .inl f))) (g : Nat → Int32) (h : ∀ j, j < n → f j = g j) : xB G A s H locs (ws.set q0 (a, .inl (cA, n, .inl g))) := by
  refine ⟨B.1, B.2.1.set B.2.2.1 he ?_ (fun _ _ => rfl), B.2.2.1.set he, B.2.2.2⟩
  show H[a]? = some (vp_cell cA (n, .inl g))
  rw [← x_cell h]
  exact B.2.1 q0 _ he
theorem x_upN (g : Nat → Nat) (k v : Nat) : upd (nA g) k (nI v) = nA (va_up g k v) := by
  funext j
  show (if j = k then nI v else nI (g j)) = nI (if j = k then v else g j)
  by_cases h : j = k
  · rw [if_pos h, if_pos h]
  · rw [if_neg h, if_neg h]
theorem x_cpN (f g : Nat → Nat) (a b n : Nat) : va_cpy (nA f) (nA g) a b n = nA (va_cpy f g a b n) := by
  funext j
  show (if b ≤ j ∧ j < b + n then nI (f (a + (j - b))) else nI (g j)) = nI (if b ≤ j ∧ j < b + n then f (a + (j - b)) else g j)
  by_cases h : b ≤ j ∧ j < b + n
  · rw [if_pos h, if_pos h]
  · rw [if_neg h, if_neg h]
theorem gg_good {w : Cond} (h : w ∈ gg_L) : (w.onTables && w.keeps) = true ∨ ∃ ty, w = .arrayClass ty := good_of_word (List.mem_filter.mp h).2
theorem gg_of {ws : List Cond} (h : ∀ w ∈ ws, w ∈ gg_L) : GoodIn gg_L ws := fun w hw => ⟨h w hw, gg_good (h w hw)⟩
theorem gg_cons {w : Cond} {ws : List Cond} (h1 : w ∈ gg_L) (h2 : ∀ w ∈ ws, w ∈ gg_L) : ∀ v ∈ w :: ws, v ∈ gg_L := fun v hv => by
  rcases List.mem_cons.mp hv with rfl | h
  · exact h1
  · exact h2 v h
theorem gg_V {own C : String} {index maxL : Nat} {y : MethodName} {cc : ByteArray} {r : Option FieldType} (h1 : Cond.methodLink own index y ∈ gg_L) (h2 : Cond.instanceMethod y ∈ gg_L) (h3 : Cond.selects C y y ∈ gg_L) (h4 : Cond.initialized C ∈ gg_L) (h5 : Cond.code y cc maxL r ∈ gg_L) : GoodIn gg_L (wsV own index C y (Cond.code y cc maxL r :: gg_L)) :=
  gg_of (gg_cons h1 (gg_cons h2 (gg_cons h3 (gg_cons h4 (gg_cons h5 (fun _ h => h))))))
theorem gg_S {own : String} {index maxL : Nat} {y : MethodName} {cc : ByteArray} {r : Option FieldType} (h1 : Cond.methodLink own index y ∈ gg_L) (h2 : Cond.static y ∈ gg_L) (h4 : Cond.initialized y.cls ∈ gg_L) (h5 : Cond.code y cc maxL r ∈ gg_L) : GoodIn gg_L (va_wsS own index y (Cond.code y cc maxL r :: gg_L)) :=
  gg_of (gg_cons h1 (gg_cons h2 (gg_cons h4 (gg_cons h5 (fun _ h => h)))))
theorem gg_I {maxL : Nat} {y : MethodName} {cc : ByteArray} {r : Option FieldType} (h5 : Cond.code y cc maxL r ∈ gg_L) : GoodIn gg_L (Cond.code y cc maxL r :: gg_L) := gg_of (gg_cons h5 (fun _ h => h))
/-- what a method that is called may rest on -/
def xPre (G : xG) (ro : List (Nat × Nat × (Nat → Int32))) (w0 : va_W) (sz : Nat) (U : State) : Prop :=
  U.heap.size = sz ∧ va_P G.1 cl_s w0 U.heap ∧ va_K G.1 cl_s (x_ty G) U ∧ va_D (fun _ => True) w0 ∧ xS G (va_A w0 sz) U U.heap ∧ ∀ r ∈ ro, x_R (va_A w0 sz) U U.heap r.1 r.2.1 r.2.2
def xPost (G : xG) (A : Nat → Prop) (w : va_W) (t : State) : Prop := va_P G.1 cl_s w t.heap ∧ va_K G.1 cl_s (x_ty G) t ∧ va_D A w
theorem xPre.blind {G : xG} {ro : List (Nat × Nat × (Nat → Int32))} {w0 : va_W} {sz : Nat} {av : List Value} : FrameBlind (va_Pc av (xPre G ro w0 sz)) := by
  intro a U g mk q
  obtain ⟨q0, q1, q2, q3, q4, q5, q6⟩ := q
  refine ⟨q0, q1, q2, va_K.moved (u := U) (U := U.calling g mk a) (Vm.Alike.refl U.vm) q3, q4, q5.go (U := U.calling g mk a) (Vm.Alike.refl U.vm) (fun _ h => h) (fun _ _ _ => rfl), fun r hr => ?_⟩
  exact (q6 r hr).moved (U := U.calling g mk a) (Vm.Alike.refl U.vm)
/-- the contracts -/
abbrev xMv (G : xG) (l : Launch) (y : MethodName) (cc : ByteArray) (nL : Nat) (rm : Room) (av : List Value) (ro : List (Nat × Nat × (Nat → Int32))) (w0 : va_W) (S : Type) (post : S → Prop) (w1 : S → va_W) (mc ms : Nat) : Prop :=
  ∀ sz : Nat, Met l y (Cond.code y cc nL none :: gg_L) rm (va_Pc av (xPre G ro w0 sz)) (va_Qv post (fun u t => xPost G (va_A w0 sz) (w1 u) t) (va_A w0 sz)) mc ms (va_A w0 sz)
abbrev xMi (G : xG) (l : Launch) (y : MethodName) (cc : ByteArray) (nL : Nat) (ret : FieldType) (rm : Room) (av : List Value) (ro : List (Nat × Nat × (Nat → Int32))) (w0 : va_W) (S : Type) (post : Int32 → S → Prop) (w1 : S → va_W) (mc ms : Nat) : Prop :=
  ∀ sz : Nat, Met l y (Cond.code y cc nL (some ret) :: gg_L) rm (va_Pc av (xPre G ro w0 sz)) (va_Qi post (fun u t => xPost G (va_A w0 sz) (w1 u) t) (va_A w0 sz)) mc ms (va_A w0 sz)
/-- reads the heap, changes nothing -/
abbrev xMr (G : xG) (l : Launch) (y : MethodName) (cc : ByteArray) (nL : Nat) (ret : FieldType) (rm : Room) (av : List Value) (ro : List (Nat × Nat × (Nat → Int32))) (w0 : va_W) (r : Int32) : Prop :=
  ∀ sz : Nat, Met l y (Cond.code y cc nL (some ret) :: gg_L) rm (va_Pc av (xPre G ro w0 sz)) (k2_QcV (.int r)) 0 0 (fun _ => False)
/-- a function of its arguments -/
abbrev xMf (l : Launch) (y : MethodName) (cc : ByteArray) (nL : Nat) (ret : FieldType) (rm : Room) (av : List Value) (r : Int32) : Prop :=
  Met l y (Cond.code y cc nL (some ret) :: gg_L) rm (va_Pc av (fun _ => True)) (k2_QcV (.int r)) 0 0 (fun _ => False)
theorem x_args {av : List Value} {n : Nat} (m : MethodId) (h : (lg_sl av).length ≤ n) : ∃ ls : Array Slot, lv_has ls n (lv_args 0 av) ∧ entryFrame m av.toArray n = F0 m 0 ls [] := ⟨_, lv_entry av h, lg_entry_eq m av n⟩
section XO
variable {G : xG} {l : Launch} {y : MethodName} {cc : ByteArray} {nL : Nat} {ret : FieldType} {rm : Room} {av : List Value} {ro : List (Nat × Nat × (Nat → Int32))} {w0 : va_W} {S : Type} {mc ms : Nat} {own : String}
theorem x_pro {U : State} {sz : Nat} (hp : xPre G ro w0 sz U) : xB G (va_A w0 sz) U U.heap [] w0 ∧ ∀ r ∈ ro, x_R (va_A w0 sz) U U.heap r.1 r.2.1 r.2.2 := by
  obtain ⟨rfl, h1, h2, h3, h4, h5⟩ := hp
  exact ⟨⟨h2, h1, h3.self, va_S.rf, h4, fun q h => Or.inr h⟩, h5⟩
theorem xMv.of {post : S → Prop} {w1 : S → va_W} (hy : plainName y.cls = true) (hs : (lg_sl av).length ≤ nL) (ho : y.cls = own)
    (body : ∀ (p : Program) (e : Env) (s : State) (m : MethodId) (below : List Frame) (meth : Method) (c : Code) (A : Nat → Prop) (ls : Array Slot), CallFix p m c cc nL s av.toArray gg_L own → meth.sig.returnType = none → meth.locks = false → meth.name = y.name → xB G A s s.heap [] w0 → (∀ r ∈ ro, x_R A s s.heap r.1 r.2.1 r.2.2) → lv_has ls nL (lv_args 0 av) →
      W p l e rm s m av.toArray below meth c s.heap [] 0 0 (MQ below (va_Qv post (fun u t => xPost G A (w1 u) t) A) av.toArray s mc ms A) (F0 m 0 ls [])) : xMv G l y cc nL rm av ro w0 S post w1 mc ms := by
  intro sz
  refine Met.ofW (cc := cc) (maxL := nL) (ret := none) hy rfl ?_
  intro p e s m args below meth c s₁ B hml hv
  obtain ⟨rfl, hp⟩ := hv
  obtain ⟨hB, hro⟩ := x_pro hp
  have hts := atoms_spec (ws := Cond.code y cc nL none :: gg_L) B.pre
  obtain ⟨ls, hl, hf⟩ := x_args m hs
  rw [hf]
  exact body p e s m below meth c _ ls ⟨B.exec, B.bytes, hml, ho ▸ findClass_of_methodNamed B.named, fun w h => hts w (List.mem_cons_of_mem _ h)⟩ B.returns B.notSynchronized (name_of_methodNamed B.named B.method).1 hB hro hl
theorem xMi.of {post : Int32 → S → Prop} {w1 : S → va_W} (hy : plainName y.cls = true) (hs : (lg_sl av).length ≤ nL) (ho : y.cls = own)
    (body : ∀ (p : Program) (e : Env) (s : State) (m : MethodId) (below : List Frame) (meth : Method) (c : Code) (A : Nat → Prop) (ls : Array Slot), CallFix p m c cc nL s av.toArray gg_L own → meth.sig.returnType = some ret → meth.locks = false → meth.name = y.name → xB G A s s.heap [] w0 → (∀ r ∈ ro, x_R A s s.heap r.1 r.2.1 r.2.2) → lv_has ls nL (lv_args 0 av) →
      W p l e rm s m av.toArray below meth c s.heap [] 0 0 (MQ below (va_Qi post (fun u t => xPost G A (w1 u) t) A) av.toArray s mc ms A) (F0 m 0 ls [])) : xMi G l y cc nL ret rm av ro w0 S post w1 mc ms := by
  intro sz
  refine Met.ofW (cc := cc) (maxL := nL) (ret := some ret) hy rfl ?_
  intro p e s m args below meth c s₁ B hml hv
  obtain ⟨rfl, hp⟩ := hv
  obtain ⟨hB, hro⟩ := x_pro hp
  have hts := atoms_spec (ws := Cond.code y cc nL (some ret) :: gg_L) B.pre
  obtain ⟨ls, hl, hf⟩ := x_args m hs
  rw [hf]
  exact body p e s m below meth c _ ls ⟨B.exec, B.bytes, hml, ho ▸ findClass_of_methodNamed B.named, fun w h => hts w (List.mem_cons_of_mem _ h)⟩ B.returns B.notSynchronized (name_of_methodNamed B.named B.method).1 hB hro hl
theorem xMr.of {r : Int32} (hy : plainName y.cls = true) (hs : (lg_sl av).length ≤ nL) (ho : y.cls = own)
    (body : ∀ (p : Program) (e : Env) (s : State) (m : MethodId) (below : List Frame) (meth : Method) (c : Code) (A : Nat → Prop) (ls : Array Slot), CallFix p m c cc nL s av.toArray gg_L own → meth.sig.returnType = some ret → meth.locks = false → meth.name = y.name → xB G A s s.heap [] w0 → (∀ r ∈ ro, x_R A s s.heap r.1 r.2.1 r.2.2) → lv_has ls nL (lv_args 0 av) →
      W p l e rm s m av.toArray below meth c s.heap [] 0 0 (MQ below (k2_QcV (.int r)) av.toArray s 0 0 (fun _ => False)) (F0 m 0 ls [])) : xMr G l y cc nL ret rm av ro w0 r := by
  intro sz
  refine Met.ofW (cc := cc) (maxL := nL) (ret := some ret) hy rfl ?_
  intro p e s m args below meth c s₁ B hml hv
  obtain ⟨rfl, hp⟩ := hv
  obtain ⟨hB, hro⟩ := x_pro hp
  have hts := atoms_spec (ws := Cond.code y cc nL (some ret) :: gg_L) B.pre
  obtain ⟨ls, hl, hf⟩ := x_args m hs
  rw [hf]
  exact body p e s m below meth c _ ls ⟨B.exec, B.bytes, hml, ho ▸ findClass_of_methodNamed B.named, fun w h => hts w (List.mem_cons_of_mem _ h)⟩ B.returns B.notSynchronized (name_of_methodNamed B.named B.method).1 hB hro hl
theorem xMf.of {r : Int32} (hy : plainName y.cls = true) (hs : (lg_sl av).length ≤ nL) (ho : y.cls = own)
    (body : ∀ (p : Program) (e : Env) (s : State) (m : MethodId) (below : List Frame) (meth : Method) (c : Code) (ls : Array Slot), CallFix p m c cc nL s av.toArray gg_L own → meth.sig.returnType = some ret → meth.locks = false → lv_has ls nL (lv_args 0 av) →
      W p l e rm s m av.toArray below meth c s.heap [] 0 0 (MQ below (k2_QcV (.int r)) av.toArray s 0 0 (fun _ => False)) (F0 m 0 ls [])) : xMf l y cc nL ret rm av r := by
  refine Met.ofW (cc := cc) (maxL := nL) (ret := some ret) hy rfl ?_
  intro p e s m args below meth c s₁ B hml hv
  obtain ⟨rfl, -⟩ := hv
  have hts := atoms_spec (ws := Cond.code y cc nL (some ret) :: gg_L) B.pre
  obtain ⟨ls, hl, hf⟩ := x_args m hs
  rw [hf]
  exact body p e s m below meth c ls ⟨B.exec, B.bytes, hml, ho ▸ findClass_of_methodNamed B.named, fun w h => hts w (List.mem_cons_of_mem _ h)⟩ B.returns B.notSynchronized hl
end XO
