theorem x_ro0 {P : (Nat × Nat × (Nat → Int32)) → Prop} : ∀ r ∈ ([] : List (Nat × Nat × (Nat → Int32))), P r := fun _ h => absurd h List.not_mem_nil
theorem x_ro1 {P : (Nat × Nat × (Nat → Int32)) → Prop} {a : Nat × Nat × (Nat → Int32)} (h : P a) : ∀ r ∈ [a], P r := fun r hr => by
  rw [List.mem_singleton.mp hr]
  exact h
section XO
variable {G : xG} {l : Launch} {y : MethodName} {cc : ByteArray} {nL : Nat} {ret : FieldType} {rm : Room} {av : List Value} {ro : List (Nat × Nat × (Nat → Int32))} {w0 : va_W} {S : Type} {mc ms : Nat} {own : String}
theorem xMv.by {post : S → Prop} {w1 : S → va_W} (own : String) (hy : plainName y.cls = true) (hs : (lg_sl av).length ≤ nL) (ho : y.cls = own)
    (body : ∀ (p : Program) (e : Env) (s : State) (m : MethodId) (args : Array Value) (below : List Frame) (meth : Method) (c : Code) (A : Nat → Prop) (ls : Array Slot) (Q : State → Prop), CallFix p m c cc nL s args gg_L own → meth.name = y.name → xB G A s s.heap [] w0 → (∀ r ∈ ro, x_R A s s.heap r.1 r.2.1 r.2.2) → lv_has ls nL (lv_args 0 av) →
      (∀ (u : S) (H : Heap) (locs : List Loc) (pc : Nat) (ls : Array Slot), xB G A s H locs (w1 u) → post u → decode cc pc = .ok (.return_, 1) → W p l e rm s m args below meth c H locs mc ms Q (F0 m pc ls [])) →
      W p l e rm s m args below meth c s.heap [] 0 0 Q (F0 m 0 ls [])) : xMv G l y cc nL rm av ro w0 S post w1 mc ms :=
  xMv.of hy hs ho (fun p e s m below meth c A ls E hr hk hn B hro hl => body p e s m _ below meth c A ls _ E hn B hro hl (fun u H locs pc ls B hp hd => x_vret E hr hk B hp hd))
theorem xMi.by {post : Int32 → S → Prop} {w1 : S → va_W} (own : String) (hy : plainName y.cls = true) (hs : (lg_sl av).length ≤ nL) (ho : y.cls = own)
    (body : ∀ (p : Program) (e : Env) (s : State) (m : MethodId) (args : Array Value) (below : List Frame) (meth : Method) (c : Code) (A : Nat → Prop) (ls : Array Slot) (Q : State → Prop), CallFix p m c cc nL s args gg_L own → xB G A s s.heap [] w0 → (∀ r ∈ ro, x_R A s s.heap r.1 r.2.1 r.2.2) → lv_has ls nL (lv_args 0 av) →
      (∀ (v : Int32) (u : S) (H : Heap) (locs : List Loc) (pc : Nat) (ls : Array Slot), xB G A s H locs (w1 u) → post v u → decode cc pc = .ok (.ireturn, 1) → W p l e rm s m args below meth c H locs mc ms Q (F0 m pc ls [.int v])) →
      W p l e rm s m args below meth c s.heap [] 0 0 Q (F0 m 0 ls [])) : xMi G l y cc nL .int rm av ro w0 S post w1 mc ms :=
  xMi.of hy hs ho (fun p e s m below meth c A ls E hr hk hn B hro hl => body p e s m _ below meth c A ls _ E B hro hl (fun v u H locs pc ls B hp hd => x_iret E hr hk B hp hd))
theorem xMz.by {post : Int32 → S → Prop} {w1 : S → va_W} (own : String) (hy : plainName y.cls = true) (hs : (lg_sl av).length ≤ nL) (ho : y.cls = own)
    (body : ∀ (p : Program) (e : Env) (s : State) (m : MethodId) (args : Array Value) (below : List Frame) (meth : Method) (c : Code) (A : Nat → Prop) (ls : Array Slot) (Q : State → Prop), CallFix p m c cc nL s args gg_L own → xB G A s s.heap [] w0 → (∀ r ∈ ro, x_R A s s.heap r.1 r.2.1 r.2.2) → lv_has ls nL (lv_args 0 av) →
      (∀ (v : Int32) (u : S) (H : Heap) (locs : List Loc) (pc : Nat) (ls : Array Slot), xB G A s H locs (w1 u) → post v u → narrow .boolean (.int v) = .int v → decode cc pc = .ok (.ireturn, 1) → W p l e rm s m args below meth c H locs mc ms Q (F0 m pc ls [.int v])) →
      W p l e rm s m args below meth c s.heap [] 0 0 Q (F0 m 0 ls [])) : xMi G l y cc nL .boolean rm av ro w0 S post w1 mc ms :=
  xMi.of hy hs ho (fun p e s m below meth c A ls E hr hk hn B hro hl => body p e s m _ below meth c A ls _ E B hro hl (fun v u H locs pc ls B hp hv hd => x_zret E hr hk hv B hp hd))
theorem xMr.by {r : Int32} (own : String) (hy : plainName y.cls = true) (hs : (lg_sl av).length ≤ nL) (ho : y.cls = own)
    (body : ∀ (p : Program) (e : Env) (s : State) (m : MethodId) (args : Array Value) (below : List Frame) (meth : Method) (c : Code) (A : Nat → Prop) (ls : Array Slot) (Q : State → Prop), CallFix p m c cc nL s args gg_L own → xB G A s s.heap [] w0 → (∀ r ∈ ro, x_R A s s.heap r.1 r.2.1 r.2.2) → lv_has ls nL (lv_args 0 av) →
      (∀ (v : Int32) (pc : Nat) (ls : Array Slot), v = r → decode cc pc = .ok (.ireturn, 1) → W p l e rm s m args below meth c s.heap [] 0 0 Q (F0 m pc ls [.int v])) →
      W p l e rm s m args below meth c s.heap [] 0 0 Q (F0 m 0 ls [])) : xMr G l y cc nL .int rm av ro w0 r :=
  xMr.of hy hs ho (fun p e s m below meth c A ls E hr hk hn B hro hl => body p e s m _ below meth c A ls _ E B hro hl (fun v pc ls hv hd => x_fret E hr hk hv hd))
theorem xMrz.by {r : Int32} (own : String) (hy : plainName y.cls = true) (hs : (lg_sl av).length ≤ nL) (ho : y.cls = own)
    (body : ∀ (p : Program) (e : Env) (s : State) (m : MethodId) (args : Array Value) (below : List Frame) (meth : Method) (c : Code) (A : Nat → Prop) (ls : Array Slot) (Q : State → Prop), CallFix p m c cc nL s args gg_L own → xB G A s s.heap [] w0 → (∀ r ∈ ro, x_R A s s.heap r.1 r.2.1 r.2.2) → lv_has ls nL (lv_args 0 av) →
      (∀ (v : Int32) (pc : Nat) (ls : Array Slot), v = r → narrow .boolean (.int v) = .int v → decode cc pc = .ok (.ireturn, 1) → W p l e rm s m args below meth c s.heap [] 0 0 Q (F0 m pc ls [.int v])) →
      W p l e rm s m args below meth c s.heap [] 0 0 Q (F0 m 0 ls [])) : xMr G l y cc nL .boolean rm av ro w0 r :=
  xMr.of hy hs ho (fun p e s m below meth c A ls E hr hk hn B hro hl => body p e s m _ below meth c A ls _ E B hro hl (fun v pc ls hv hz hd => x_fretz E hr hk hz hv hd))
theorem xMf.by {r : Int32} (own : String) (hy : plainName y.cls = true) (hs : (lg_sl av).length ≤ nL) (ho : y.cls = own)
    (body : ∀ (p : Program) (e : Env) (s : State) (m : MethodId) (args : Array Value) (below : List Frame) (meth : Method) (c : Code) (ls : Array Slot) (Q : State → Prop), CallFix p m c cc nL s args gg_L own → lv_has ls nL (lv_args 0 av) →
      (∀ (v : Int32) (pc : Nat) (ls : Array Slot), v = r → decode cc pc = .ok (.ireturn, 1) → W p l e rm s m args below meth c s.heap [] 0 0 Q (F0 m pc ls [.int v])) →
      W p l e rm s m args below meth c s.heap [] 0 0 Q (F0 m 0 ls [])) : xMf l y cc nL .int rm av r :=
  xMf.of hy hs ho (fun p e s m below meth c ls E hr hk hl => body p e s m _ below meth c ls _ E hl (fun v pc ls hv hd => x_fret E hr hk hv hd))
theorem xMfz.by {r : Int32} (own : String) (hy : plainName y.cls = true) (hs : (lg_sl av).length ≤ nL) (ho : y.cls = own)
    (body : ∀ (p : Program) (e : Env) (s : State) (m : MethodId) (args : Array Value) (below : List Frame) (meth : Method) (c : Code) (ls : Array Slot) (Q : State → Prop), CallFix p m c cc nL s args gg_L own → lv_has ls nL (lv_args 0 av) →
      (∀ (v : Int32) (pc : Nat) (ls : Array Slot), v = r → narrow .boolean (.int v) = .int v → decode cc pc = .ok (.ireturn, 1) → W p l e rm s m args below meth c s.heap [] 0 0 Q (F0 m pc ls [.int v])) →
      W p l e rm s m args below meth c s.heap [] 0 0 Q (F0 m 0 ls [])) : xMf l y cc nL .boolean rm av r :=
  xMf.of hy hs ho (fun p e s m below meth c ls E hr hk hl => body p e s m _ below meth c ls _ E hl (fun v pc ls hv hz hd => x_fretz E hr hk hz hv hd))
end XO
