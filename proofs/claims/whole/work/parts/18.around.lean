section XX
variable {p : Program} {l : Launch} {e : Env} {R : Room} {s : State} {m : MethodId} {args : Array Value} {below : List Frame} {meth : Method} {c : Code} {H : Heap} {locs : List Loc} {cells slots : Nat} {Q : State → Prop}
variable {cc : ByteArray} {pc : Nat} {ls : Array Slot} {rest : List Value} {A : Nat → Prop} {a : Nat} {X X' pl : va_W} {G : xG} {nL : Nat} {own : String}
theorem x_mapE {X : va_W} {w0 : va_W} {isC : List Nat} (h : isC.map (fun i => X[i]?) = w0.map some) {j i : Nat} (hj : isC[j]? = some i) : X[i]? = w0[j]? ∧ i < X.length := by
  have h1 : (isC.map (fun i => X[i]?))[j]? = (w0.map some)[j]? := by rw [h]
  rw [List.getElem?_map, hj, List.getElem?_map] at h1
  cases hw : w0[j]? with
  | none => rw [hw] at h1; simp at h1
  | some e =>
    rw [hw] at h1
    have h2 : X[i]? = some e := by simpa using h1
    exact ⟨h2, (List.getElem?_eq_some_iff.mp h2).1⟩
theorem x_aroundE {w0 w1 : va_W} (N : Nat) (hX : X.length = N) (hX' : X'.length = N) (isC isR : List Nat) (hC : isC.map (fun i => X[i]?) = w0.map some) (hn : va_nd isC = true) (hin : isC.map (fun i => X'[i]?) = w1.map some) (hR : isR.map (fun i => X'[i]?) = isR.map (fun i => X[i]?)) (hcov : ∀ k, k < N → k ∈ isC ∨ k ∈ isR) : x_sets (X ++ pl) isC w1 = X' ++ pl := by
  apply List.ext_getElem?
  intro k
  by_cases hm : k ∈ isC
  · obtain ⟨j, hj⟩ := List.getElem?_of_mem hm
    have h1 := x_mapE hin hj
    have h2 := x_mapE hC hj
    have h3 : X'[k]? = some (X'[k]'h1.2) := List.getElem?_eq_getElem h1.2
    rw [x_sets_in isC (X ++ pl) w1 j k _ hn hj (by rw [← h1.1]; exact h3) (by rw [List.length_append]; omega), List.getElem?_append_left h1.2]
    exact h3.symm
  · rw [x_sets_out isC _ _ _ hm]
    by_cases hk : k < N
    · have hr : k ∈ isR := (hcov k hk).resolve_left hm
      obtain ⟨j, hj⟩ := List.getElem?_of_mem hr
      have h4 : (isR.map (fun i => X'[i]?))[j]? = (isR.map (fun i => X[i]?))[j]? := by rw [hR]
      rw [List.getElem?_map, List.getElem?_map, hj] at h4
      have h5 : X'[k]? = X[k]? := by simpa using h4
      rw [List.getElem?_append_left (by omega), List.getElem?_append_left (by omega), h5]
    · rw [List.getElem?_append_right (by omega), List.getElem?_append_right (by omega), hX, hX']
theorem x_cvX {S : Type} {post : S → Prop} {w1 X' : S → va_W} {w0 : va_W} {mc ms : Nat} {st0 : List Value} {av : Array Value} (N : Nat) (B : xB G A s H locs (X ++ pl)) (hr : va_Run p l e R s m args below meth c H locs cells slots mc ms (F0 m pc ls st0) rest (va_Qv post (fun u t => xPost G (va_A w0 H.size) (w1 u) t) (va_A w0 H.size) av) (va_A w0 H.size))
    (isC isR : List Nat) (hC' : isC.map (fun i => (X ++ pl)[i]?) = w0.map some) (hX : X.length = N) (hX' : ∀ u, (X' u).length = N) (hC : isC.map (fun i => X[i]?) = w0.map some) (hn : va_nd isC = true) (hlen : ∀ u, (w1 u).length = w0.length) (hin : ∀ u, isC.map (fun i => (X' u)[i]?) = (w1 u).map some) (hR : ∀ u, isR.map (fun i => (X' u)[i]?) = isR.map (fun i => X[i]?)) (hcov : ∀ k, k < N → k ∈ isC ∨ k ∈ isR)
    (kk : ∀ (u : S) (H1 : Heap) (locs1 : List Loc), post u → xB G A s H1 locs1 (X' u ++ pl) → W p l e R s m args below meth c H1 locs1 (cells + mc) (slots + ms) Q (F0 m (pc + 3) ls rest)) : W p l e R s m args below meth c H locs cells slots Q (F0 m pc ls st0) :=
  x_cvI B hr isC hC' hn hlen (fun u H1 locs1 hw h => kk u H1 locs1 hw (by rw [x_aroundE N hX (hX' u) isC isR hC hn (hin u) (hR u) hcov] at h; exact h))
theorem x_ciX {S : Type} {post : Int32 → S → Prop} {w1 X' : S → va_W} {w0 : va_W} {mc ms : Nat} {st0 : List Value} {av : Array Value} (N : Nat) (B : xB G A s H locs (X ++ pl)) (hr : va_Run p l e R s m args below meth c H locs cells slots mc ms (F0 m pc ls st0) rest (va_Qi post (fun u t => xPost G (va_A w0 H.size) (w1 u) t) (va_A w0 H.size) av) (va_A w0 H.size))
    (isC isR : List Nat) (hC' : isC.map (fun i => (X ++ pl)[i]?) = w0.map some) (hX : X.length = N) (hX' : ∀ u, (X' u).length = N) (hC : isC.map (fun i => X[i]?) = w0.map some) (hn : va_nd isC = true) (hlen : ∀ u, (w1 u).length = w0.length) (hin : ∀ u, isC.map (fun i => (X' u)[i]?) = (w1 u).map some) (hR : ∀ u, isR.map (fun i => (X' u)[i]?) = isR.map (fun i => X[i]?)) (hcov : ∀ k, k < N → k ∈ isC ∨ k ∈ isR)
    (kk : ∀ (r : Int32) (u : S) (H1 : Heap) (locs1 : List Loc), post r u → xB G A s H1 locs1 (X' u ++ pl) → W p l e R s m args below meth c H1 locs1 (cells + mc) (slots + ms) Q (F0 m (pc + 3) ls (.int r :: rest))) : W p l e R s m args below meth c H locs cells slots Q (F0 m pc ls st0) :=
  x_ciI B hr isC hC' hn hlen (fun r u H1 locs1 hw h => kk r u H1 locs1 hw (by rw [x_aroundE N hX (hX' u) isC isR hC hn (hin u) (hR u) hcov] at h; exact h))
theorem xB.subP {locs : List Loc} (B : xB G A s H locs (X ++ pl)) (is : List Nat) (hn : va_nd is = true) (hs : is.map (fun i => X[i]?) = X'.map some) : xB G A s H locs (X' ++ pl) :=
  ⟨B.1, B.2.1.part is hs, B.2.2.1.part is hn hs, B.2.2.2⟩
/-- the callee takes a part of X and all of the family -/
theorem x_preP (B : xB G A s H locs (X ++ pl)) {av : List Value} {ro : List (Nat × Nat × (Nat → Int32))} {cx : va_W} (isC : List Nat) (hC : isC.map (fun i => X[i]?) = cx.map some) (hn : va_nd isC = true) (hro : ∀ r ∈ ro, x_R (va_A (cx ++ pl) H.size) s H r.1 r.2.1 r.2.2) : PreS s H (va_Pc av (xPre G ro (cx ++ pl) H.size)) av := by
  refine ⟨xPre.blind, fun U hU hW => ⟨rfl, by rw [hU], ?_, va_K.moved hW.alike B.1, (B.2.2.1.part isC hn hC).weaken (fun _ _ _ _ => trivial), ?_, fun r hr => ?_⟩⟩
  · rw [hU]
    exact B.2.1.part isC hC
  · rw [hU]
    exact B.2.2.2.2.1.go hW.alike (va_freeP B.2.2.1 B.2.2.2.1 B.2.2.2.2.2 isC hC) (fun a ha hn => B.2.2.2.1.2.1 a ha hn)
  · rw [hU]
    exact (hro r hr).moved hW.alike
theorem x_roTP (B : xB G A s H locs (X ++ pl)) {r n : Nat} {f : Nat → Int32} (hT : x_R A s s.heap r n f) {cx : va_W} (isC : List Nat) (hC : isC.map (fun i => X[i]?) = cx.map some) : x_R (va_A (cx ++ pl) H.size) s H r n f :=
  (va_T.kept hT (fun a ha hn => B.2.2.2.1.2.1 a ha hn)).narrow (va_freeP B.2.2.1 B.2.2.2.1 B.2.2.2.2.2 isC hC)
theorem x_cvP {S : Type} {post : S → Prop} {rx X' pl1 : S → va_W} {cx wr : va_W} {mc ms : Nat} {st0 : List Value} {av : Array Value} (B : xB G A s H locs (X ++ pl)) (hr : va_Run p l e R s m args below meth c H locs cells slots mc ms (F0 m pc ls st0) rest (va_Qv post (fun u t => xPost G (va_A (cx ++ pl) H.size) (rx u ++ pl1 u) t) (va_A (cx ++ pl) H.size) av) (va_A (cx ++ pl) H.size))
    (isC isR isP : List Nat) (hC : isC.map (fun i => X[i]?) = cx.map some) (hR : isR.map (fun i => X[i]?) = wr.map some) (hn : va_nd isR = true) (hdis : ∀ i ∈ isR, i ∉ isC) (hnP : va_nd isP = true) (hP : ∀ u, isP.map (fun i => (wr ++ rx u)[i]?) = (X' u).map some)
    (kk : ∀ (u : S) (H1 : Heap) (locs1 : List Loc), post u → xB G A s H1 locs1 (X' u ++ pl1 u) → W p l e R s m args below meth c H1 locs1 (cells + mc) (slots + ms) Q (F0 m (pc + 3) ls rest)) : W p l e R s m args below meth c H locs cells slots Q (F0 m pc ls st0) :=
  have hF := va_freeP B.2.2.1 B.2.2.2.1 B.2.2.2.2.2 isC hC
  va_callv hr B.2.2.2.1 (fun q _ h => hF q h) hF (fun u t H1 locs1 ht hvm hw hB _ hk1 hS => kk u H1 locs1 hw (by
    obtain ⟨g1, g2, g3⟩ := hB
    rw [ht] at g1
    obtain ⟨k1, k2⟩ := va_joinP B.2.1 B.2.2.1 isC isR hC hR hn hdis hk1 hF g1 g3
    exact xB.subP ⟨B.1, k1, k2, hS, B.2.2.2.2⟩ isP hnP (hP u)))
theorem x_ciP {S : Type} {post : Int32 → S → Prop} {rx X' pl1 : S → va_W} {cx wr : va_W} {mc ms : Nat} {st0 : List Value} {av : Array Value} (B : xB G A s H locs (X ++ pl)) (hr : va_Run p l e R s m args below meth c H locs cells slots mc ms (F0 m pc ls st0) rest (va_Qi post (fun u t => xPost G (va_A (cx ++ pl) H.size) (rx u ++ pl1 u) t) (va_A (cx ++ pl) H.size) av) (va_A (cx ++ pl) H.size))
    (isC isR isP : List Nat) (hC : isC.map (fun i => X[i]?) = cx.map some) (hR : isR.map (fun i => X[i]?) = wr.map some) (hn : va_nd isR = true) (hdis : ∀ i ∈ isR, i ∉ isC) (hnP : va_nd isP = true) (hP : ∀ u, isP.map (fun i => (wr ++ rx u)[i]?) = (X' u).map some)
    (kk : ∀ (r : Int32) (u : S) (H1 : Heap) (locs1 : List Loc), post r u → xB G A s H1 locs1 (X' u ++ pl1 u) → W p l e R s m args below meth c H1 locs1 (cells + mc) (slots + ms) Q (F0 m (pc + 3) ls (.int r :: rest))) : W p l e R s m args below meth c H locs cells slots Q (F0 m pc ls st0) :=
  have hF := va_freeP B.2.2.1 B.2.2.2.1 B.2.2.2.2.2 isC hC
  va_calli hr B.2.2.2.1 (fun q _ h => hF q h) hF (fun r u t H1 locs1 ht hvm hw hB _ hk1 hS => kk r u H1 locs1 hw (by
    obtain ⟨g1, g2, g3⟩ := hB
    rw [ht] at g1
    obtain ⟨k1, k2⟩ := va_joinP B.2.1 B.2.2.1 isC isR hC hR hn hdis hk1 hF g1 g3
    exact xB.subP ⟨B.1, k1, k2, hS, B.2.2.2.2⟩ isP hnP (hP u)))
end XX
theorem xB.eq {G : xG} {A : Nat → Prop} {s : State} {H : Heap} {locs : List Loc} {ws : va_W} (B : xB G A s H locs ws) (ws' : va_W) (h : ws = ws') : xB G A s H locs ws' := h ▸ B
