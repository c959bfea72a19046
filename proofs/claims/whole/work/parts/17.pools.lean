abbrev x_Q (G : xG) (n : Nat) (f : Nat → Option Nat) : va_E := .inl (G.2.2.1, n, .inr (.inr (.inr (.inr f))))
section XP
variable {p : Program} {l : Launch} {e : Env} {R : Room} {s : State} {m : MethodId} {args : Array Value} {below : List Frame} {meth : Method} {c : Code} {H : Heap} {locs : List Loc} {cells slots : Nat} {Q : State → Prop}
variable {cc : ByteArray} {pc : Nat} {ls : Array Slot} {rest : List Value} {A : Nat → Prop} {a : Nat} {ws X : va_W} {G : xG} {nL N : Nat} {own : String}
variable {pa ba cap len : Nat → Nat} {pb : Nat → Nat → Nat}
theorem x_plO (hX : X.length = N) {j : Nat} (h : j < 32) : (X ++ x_pl G pa ba cap len pb)[N + j]? = some (pa j, .inr (4, [.ref (ba j), .int (nI (len j))])) := by
  subst hX
  rw [List.getElem?_append_right (by omega), show X.length + j - X.length = j by omega]
  exact x_pl_o G pa ba cap len pb h
theorem x_plA (hX : X.length = N) {j : Nat} (h : j < 32) : (X ++ x_pl G pa ba cap len pb)[N + (32 + j)]? = some (ba j, x_N G (cap j) (pb j)) := by
  subst hX
  rw [List.getElem?_append_right (by omega), show X.length + (32 + j) - X.length = 32 + j by omega]
  exact x_pl_a G pa ba cap len pb h
theorem x_aldp (E : CallFix p m c cc nL s args gg_L own) (B : xB G A s H locs ws) (q0 : Nat) {n : Nat} {pa : Nat → Nat} (he : ws[q0]? = some (a, x_Q G n (fun j => some (pa j)))) {i : Nat} (hi : i < n) (hn : n < 2 ^ 31) (hdg : decode cc pc = .ok (.aaload, 1)) (kk : W p l e R s m args below meth c H locs cells slots Q (F0 m (pc + 1) ls (.ref (pa i) :: rest))) : W p l e R s m args below meth c H locs cells slots Q (F0 m pc ls (.int (nI i) :: .ref a :: rest)) :=
  va_aldq (D := G.1) E.1 E.2.1 B.1 B.2.1 q0 1 he rfl (vp_in_nI hi hn) hdg (by rw [nI_clamp (by omega)]; exact kk)
theorem x_getP (E : CallFix p m c cc nL s args gg_L own) (hX : X.length = N) (B : xB G A s H locs (X ++ x_pl G pa ba cap len pb)) {j : Nat} (hj : j < 32) {index : Nat} (hlink : Cond.fieldLink own index "PoolDice$Pool" "bytes" "[I" ∈ gg_L) (hdg : decode cc pc = .ok (.getfield index, 3)) (kk : W p l e R s m args below meth c H locs cells slots Q (F0 m (pc + 3) ls (.ref (ba j) :: rest))) : W p l e R s m args below meth c H locs cells slots Q (F0 m pc ls (.ref (pa j) :: rest)) :=
  x_get E B (N + j) (x_plO hX hj) k_Po 0 (by decide) hlink rfl hdg kk
theorem x_getL (E : CallFix p m c cc nL s args gg_L own) (hX : X.length = N) (B : xB G A s H locs (X ++ x_pl G pa ba cap len pb)) {j : Nat} (hj : j < 32) {index : Nat} (hlink : Cond.fieldLink own index "PoolDice$Pool" "size" "I" ∈ gg_L) (hdg : decode cc pc = .ok (.getfield index, 3)) (kk : W p l e R s m args below meth c H locs cells slots Q (F0 m (pc + 3) ls (.int (nI (len j)) :: rest))) : W p l e R s m args below meth c H locs cells slots Q (F0 m pc ls (.ref (pa j) :: rest)) :=
  x_get E B (N + j) (x_plO hX hj) k_Po 1 (by decide) hlink rfl hdg kk
theorem x_setA (L : va_W) (hX : X.length = N) (j : Nat) (v : Nat × va_E) : (X ++ L).set (N + j) v = X ++ L.set j v := by
  subst hX
  rw [List.set_append_right _ _ (by omega), show X.length + j - X.length = j by omega]
theorem x_putL (E : CallFix p m c cc nL s args gg_L own) (hX : X.length = N) (B : xB G A s H locs (X ++ x_pl G pa ba cap len pb)) {j : Nat} (hj : j < 32) {index : Nat} (hlink : Cond.fieldLink own index "PoolDice$Pool" "size" "I" ∈ gg_L) {v : Nat} (hdg : decode cc pc = .ok (.putfield index, 3)) (kk : ∀ (H1 : Heap) (locs1 : List Loc), xB G A s H1 locs1 (X ++ x_pl G pa ba cap (va_up len j v) pb) → W p l e R s m args below meth c H1 locs1 cells slots Q (F0 m (pc + 3) ls rest)) : W p l e R s m args below meth c H locs cells slots Q (F0 m pc ls (.int (nI v) :: .ref (pa j) :: rest)) :=
  x_put E B (N + j) (x_plO hX hj) k_Po 1 (by decide) hlink rfl rfl rfl (Nat.le_of_ble_eq_true rfl) hdg (fun H1 l1 h => kk H1 l1 (by
    have e := x_setA (x_pl G pa ba cap len pb) hX j (pa j, .inr (4, [.ref (ba j), .int (nI v)]))
    rw [x_pl_sl G pa ba cap len pb hj v] at e
    rw [← e]
    exact h))
theorem x_roP (hX : X.length = N) (B : xB G A s H locs (X ++ x_pl G pa ba cap len pb)) {j : Nat} (hj : j < 32) {w0 : va_W} (isC : List Nat) (hC : isC.map (fun i => (X ++ x_pl G pa ba cap len pb)[i]?) = w0.map some) (hlt : ∀ i ∈ isC, i < N) : x_R (va_A w0 H.size) s H (ba j) (cap j) (nA (pb j)) :=
  x_ro_w B (N + (32 + j)) (x_plA hX hj) isC hC (fun h => by have := hlt _ h; omega)
/-- what is at a pool's two places, for a call -/
theorem x_plC (hX : X.length = N) {j : Nat} (hj : j < 32) : ([N + j, N + (32 + j)] : List Nat).map (fun i => (X ++ x_pl G pa ba cap len pb)[i]?) = ([(pa j, .inr (4, [.ref (ba j), .int (nI (len j))])), (ba j, x_N G (cap j) (pb j))] : va_W).map some := by
  simp only [List.map_cons, List.map_nil]
  rw [x_plO hX hj, x_plA hX hj]
theorem x_plN {j : Nat} : va_nd [N + j, N + (32 + j)] = true := by simp [va_nd]
theorem x_plW (hX : X.length = N) {j : Nat} (hj : j < 32) (b k0 v : Nat) (g : Nat → Nat) : x_sets (X ++ x_pl G pa ba cap len pb) [N + j, N + (32 + j)] [(pa j, .inr (4, [.ref b, .int (nI v)])), (b, x_N G k0 g)] = X ++ x_pl G pa (va_up ba j b) (va_up cap j k0) (va_up len j v) (va_up pb j g) := by
  rw [← x_pl_s2 G pa ba cap len pb hj b k0 v g]
  show (((X ++ x_pl G pa ba cap len pb).set (N + j) _).set (N + (32 + j)) _) = X ++ (((x_pl G pa ba cap len pb).set j _).set (32 + j) _)
  rw [x_setA _ hX, x_setA _ hX]
end XP
