/-! Making objects beside a family. -/
def x_gl (G : xG) (pa ba : Nat → Nat) : Nat → va_W
  | 0 => []
  | i + 1 => x_gl G pa ba i ++ [(pa i, .inr (4, [.ref (ba i), .int (nI 0)])), (ba i, x_N G 12 (fun _ => 0))]
theorem x_gl_len (G : xG) (pa ba : Nat → Nat) (i : Nat) : (x_gl G pa ba i).length = 2 * i := by
  induction i with
  | zero => rfl
  | succ i ih =>
    show (x_gl G pa ba i ++ _).length = _
    rw [List.length_append, ih]
    rfl
theorem x_gl_c {G : xG} {pa ba pa' ba' : Nat → Nat} (i : Nat) (h : ∀ j, j < i → pa j = pa' j ∧ ba j = ba' j) : x_gl G pa ba i = x_gl G pa' ba' i := by
  induction i with
  | zero => rfl
  | succ i ih =>
    show x_gl G pa ba i ++ _ = x_gl G pa' ba' i ++ _
    rw [ih (fun j hj => h j (by omega)), (h i (by omega)).1, (h i (by omega)).2]
theorem x_gl_up (G : xG) (pa ba : Nat → Nat) (i q b : Nat) : x_gl G pa ba i ++ [(q, .inr (4, [.ref b, .int (nI 0)])), (b, x_N G 12 (fun _ => 0))] = x_gl G (va_up pa i q) (va_up ba i b) (i + 1) := by
  show _ = x_gl G (va_up pa i q) (va_up ba i b) i ++ [(va_up pa i q i, .inr (4, [.ref (va_up ba i b i), .int (nI 0)])), (va_up ba i b i, x_N G 12 (fun _ => 0))]
  rw [va_up_self, va_up_self, x_gl_c (pa := pa) (ba := ba) (pa' := va_up pa i q) (ba' := va_up ba i b) i (fun j hj => ⟨(va_up_ne _ _ (by omega)).symm, (va_up_ne _ _ (by omega)).symm⟩)]
theorem x_gl_at (G : xG) (pa ba : Nat → Nat) : ∀ n j, j < n → (x_gl G pa ba n)[2 * j]? = some (pa j, .inr (4, [.ref (ba j), .int (nI 0)])) ∧ (x_gl G pa ba n)[2 * j + 1]? = some (ba j, x_N G 12 (fun _ => 0)) := by
  intro n
  induction n with
  | zero => intro j h; omega
  | succ n ih =>
    intro j h
    have hl := x_gl_len G pa ba n
    show (x_gl G pa ba n ++ _)[2 * j]? = _ ∧ (x_gl G pa ba n ++ _)[2 * j + 1]? = _
    by_cases e : j = n
    · subst e
      rw [List.getElem?_append_right (by omega), List.getElem?_append_right (by omega), hl, show 2 * j - 2 * j = 0 by omega, show 2 * j + 1 - 2 * j = 1 by omega]
      exact ⟨rfl, rfl⟩
    · rw [List.getElem?_append_left (by omega), List.getElem?_append_left (by omega)]
      exact ih j (by omega)
section XN
variable {p : Program} {l : Launch} {e : Env} {R : Room} {s : State} {m : MethodId} {args : Array Value} {below : List Frame} {meth : Method} {c : Code} {H : Heap} {locs : List Loc} {cells slots : Nat} {Q : State → Prop}
variable {cc : ByteArray} {pc : Nat} {ls : Array Slot} {rest : List Value} {A : Nat → Prop} {a : Nat} {X X' pl : va_W} {G : xG} {nL : Nat} {own : String}
theorem xB.swap {a b d : va_W} (B : xB G A s H locs ((a ++ b) ++ d)) : xB G A s H locs ((a ++ d) ++ b) := ⟨B.1, B.2.1.swap, B.2.2.1.swap, B.2.2.2⟩
theorem x_newP (E : CallFix p m c cc nL s args gg_L own) (B : xB G A s H locs (X ++ pl)) {ci : Nat} {C : String} {T : u_T} {N : Nat} {ty : Nat → FieldType} (Kc : x_C ci C T N ty) {index : Nat} (hcl : Cond.classLink own index C ∈ gg_L) (hinst : Cond.instantiable C N ∈ gg_L) (hini : Cond.initialized C ∈ gg_L) {fs : List Value} (hfs : ∀ j, j < N → defaultValue (ty j) = vp_V fs j) (hcells : cells + 1 ≤ R.cells) (hslots : slots + N ≤ R.slots) (hdg : decode cc pc = .ok (.new index, 3)) (kk : ∀ (q : Nat) (H1 : Heap), xB G A s H1 locs ((X ++ [(q, .inr (ci, fs))]) ++ pl) → W p l e R s m args below meth c H1 locs (cells + 1) (slots + N) Q (F0 m (pc + 3) ls (.ref q :: rest))) : W p l e R s m args below meth c H locs cells slots Q (F0 m pc ls rest) :=
  x_new E B Kc hcl hinst hini hfs hcells hslots hdg (fun q H1 h => kk q H1 h.swap)
theorem x_newaP (E : CallFix p m c cc nL s args gg_L own) (B : xB G A s H locs (X ++ pl)) (harr : Cond.arrayClass .int ∈ gg_L) {n : Nat} (hn : n < 100000) (hcells : cells + 1 ≤ R.cells) (hslots : slots + n ≤ R.slots) (hdg : decode cc pc = .ok (.newarray .int, 2)) (kk : ∀ (q : Nat) (H1 : Heap), xB G A s H1 locs ((X ++ [(q, x_N G n (fun _ => 0))]) ++ pl) → W p l e R s m args below meth c H1 locs (cells + 1) (slots + n) Q (F0 m (pc + 2) ls (.ref q :: rest))) : W p l e R s m args below meth c H locs cells slots Q (F0 m pc ls (.int (nI n) :: rest)) :=
  x_newa E B harr hn hcells hslots hdg (fun q H1 h => kk q H1 h.swap)
/-- a callee that takes a part of X and gives back more -/
theorem x_cvQ {S : Type} {post : S → Prop} {w1 X' : S → va_W} {cx wr : va_W} {mc ms : Nat} {st0 : List Value} {av : Array Value} (B : xB G A s H locs (X ++ pl)) (hr : va_Run p l e R s m args below meth c H locs cells slots mc ms (F0 m pc ls st0) rest (va_Qv post (fun u t => xPost G (va_A cx H.size) (w1 u) t) (va_A cx H.size) av) (va_A cx H.size))
    (isC isR isP : List Nat) (hC' : isC.map (fun i => (X ++ pl)[i]?) = cx.map some) (hC : isC.map (fun i => X[i]?) = cx.map some) (hR : isR.map (fun i => X[i]?) = wr.map some) (hn : va_nd isR = true) (hdis : ∀ i ∈ isR, i ∉ isC) (hnP : va_nd isP = true) (hP : ∀ u, isP.map (fun i => (wr ++ w1 u)[i]?) = (X' u).map some)
    (kk : ∀ (u : S) (H1 : Heap) (locs1 : List Loc), post u → xB G A s H1 locs1 (X' u ++ pl) → W p l e R s m args below meth c H1 locs1 (cells + mc) (slots + ms) Q (F0 m (pc + 3) ls rest)) : W p l e R s m args below meth c H locs cells slots Q (F0 m pc ls st0) :=
  have hF := va_free B.2.2.1 B.2.2.2.1 B.2.2.2.2.2 isC hC'
  va_callv hr B.2.2.2.1 (fun q _ h => hF q h) hF (fun u t H1 locs1 ht hvm hw hB _ hk1 hS => kk u H1 locs1 hw (by
    obtain ⟨g1, g2, g3⟩ := hB
    rw [ht] at g1
    obtain ⟨k1, k2⟩ := va_joinQ B.2.1 B.2.2.1 isC isR hC hR hn hdis hk1 hF g1 g3
    exact xB.subP ⟨B.1, k1, k2, hS, B.2.2.2.2⟩ isP hnP (hP u)))
/-- a callee that gives back a family -/
theorem x_cvN {S : Type} {post : S → Prop} {rx X' pl1 : S → va_W} {ws w0 wr : va_W} {mc ms : Nat} {st0 : List Value} {av : Array Value} (B : xB G A s H locs ws) (hr : va_Run p l e R s m args below meth c H locs cells slots mc ms (F0 m pc ls st0) rest (va_Qv post (fun u t => xPost G (va_A w0 H.size) (rx u ++ pl1 u) t) (va_A w0 H.size) av) (va_A w0 H.size))
    (isC isR isP : List Nat) (hC : isC.map (fun i => ws[i]?) = w0.map some) (hR : isR.map (fun i => ws[i]?) = wr.map some) (hn : va_nd isR = true) (hdis : ∀ i ∈ isR, i ∉ isC) (hnP : va_nd isP = true) (hP : ∀ u, isP.map (fun i => (wr ++ rx u)[i]?) = (X' u).map some)
    (kk : ∀ (u : S) (H1 : Heap) (locs1 : List Loc), post u → xB G A s H1 locs1 (X' u ++ pl1 u) → W p l e R s m args below meth c H1 locs1 (cells + mc) (slots + ms) Q (F0 m (pc + 3) ls rest)) : W p l e R s m args below meth c H locs cells slots Q (F0 m pc ls st0) :=
  have hF := va_free B.2.2.1 B.2.2.2.1 B.2.2.2.2.2 isC hC
  va_callv hr B.2.2.2.1 (fun q _ h => hF q h) hF (fun u t H1 locs1 ht hvm hw hB _ hk1 hS => kk u H1 locs1 hw (by
    obtain ⟨g1, g2, g3⟩ := hB
    rw [ht] at g1
    obtain ⟨k1, k2⟩ := va_join (wr := wr) (w1 := rx u ++ pl1 u) B.2.1 B.2.2.1 isC isR hC hR hn hdis hk1 hF g1 g3
    rw [← List.append_assoc] at k1 k2
    exact xB.subP ⟨B.1, k1, k2, hS, B.2.2.2.2⟩ isP hnP (hP u)))
theorem x_newp (E : CallFix p m c cc nL s args gg_L own) {ws : va_W} (B : xB G A s H locs ws) {index : Nat} (hcl : Cond.classLink own index "PoolDice$Pool" ∈ gg_L) (hover : va_AO "PoolDice$Pool" s) {n : Nat} (hn : n < 100000) (hcells : cells + 1 ≤ R.cells) (hslots : slots + n ≤ R.slots) (hdg : decode cc pc = .ok (.anewarray index, 3)) (kk : ∀ (q : Nat) (H1 : Heap), xB G A s H1 locs (ws ++ [(q, x_Q G n (fun _ => none))]) → W p l e R s m args below meth c H1 locs (cells + 1) (slots + n) Q (F0 m (pc + 3) ls (.ref q :: rest))) : W p l e R s m args below meth c H locs cells slots Q (F0 m pc ls (.int (nI n) :: rest)) := by
  refine va_newq (D := G.1) E.1 E.2.1 E.2.2.2.1 (E.2.2.2.2 _ hcl) hover B.1 B.2.1 B.2.2.1 B.2.2.2.1 B.2.2.2.2.2 (nI_pos (by omega)) (nI_clamp (by omega)) (by omega) hcells hslots hdg (fun q cA H1 hK hP hD hS => ?_)
  have h1 := (hK.2 1 _ rfl).2
  have h2 := (hK.2 2 _ rfl).2
  obtain ⟨-, -, -, -, -, f1⟩ := h1
  obtain ⟨-, -, -, -, -, f2⟩ := h2
  rw [f1] at f2
  have e : G.2.2.1 = cA := Option.some.inj f2
  subst e
  exact kk q H1 ⟨B.1, hP, hD, hS, B.2.2.2.2⟩
theorem x_astp (E : CallFix p m c cc nL s args gg_L own) {ws : va_W} (B : xB G A s H locs ws) (q0 qk : Nat) {n v : Nat} {f : Nat → Option Nat} {vs : List Value} (he : ws[q0]? = some (a, x_Q G n f)) (hv : ws[qk]? = some (v, .inr (4, vs))) {i : Nat} (hi : i < n) (hn : n < 2 ^ 31) (hdg : decode cc pc = .ok (.aastore, 1)) (kk : ∀ (H1 : Heap) (locs1 : List Loc), xB G A s H1 locs1 (ws.set q0 (a, x_Q G n (va_up f i (some v)))) → W p l e R s m args below meth c H1 locs1 cells slots Q (F0 m (pc + 1) ls rest)) : W p l e R s m args below meth c H locs cells slots Q (F0 m pc ls (.ref v :: .int (nI i) :: .ref a :: rest)) :=
  va_astq (D := G.1) E.1 E.2.1 B.1 B.2.1 B.2.2.1 B.2.2.2.1 q0 1 qk 4 (r := (r_Po, f_Po, 2)) he rfl hv rfl (vp_in_nI hi hn) hdg (fun H1 l1 h1 h2 h3 => by
    rw [nI_clamp (by omega)] at h1 h2
    exact kk H1 l1 ⟨B.1, h1, h2, h3, B.2.2.2.2⟩)
theorem x_gl_B {pa ba : Nat → Nat} {locs : List Loc} (B : xB G A s H locs (X ++ x_gl G pa ba 32)) : xB G A s H locs (X ++ x_pl G pa ba (fun _ => 12) (fun _ => 0) (fun _ _ => 0)) := by
  have key : ∀ (k : Nat) (q : Nat × va_E), (X ++ x_pl G pa ba (fun _ => 12) (fun _ => 0) (fun _ _ => 0))[k]? = some q → (X ++ x_gl G pa ba 32)[if k < X.length then k else if k < X.length + 32 then X.length + 2 * (k - X.length) else X.length + (2 * (k - X.length - 32) + 1)]? = some q := by
    intro k q hk
    by_cases h1 : k < X.length
    · rw [if_pos h1]
      rw [List.getElem?_append_left h1] at hk ⊢
      exact hk
    · rw [if_neg h1]
      rw [List.getElem?_append_right (by omega)] at hk
      by_cases h2 : k < X.length + 32
      · rw [if_pos h2, List.getElem?_append_right (by omega), show X.length + 2 * (k - X.length) - X.length = 2 * (k - X.length) by omega, (x_gl_at G pa ba 32 (k - X.length) (by omega)).1]
        rw [x_pl_o G pa ba _ _ _ (by omega)] at hk
        exact hk
      · have h3 : k - X.length < 64 := by
          have := (List.getElem?_eq_some_iff.mp hk).1
          rw [x_pl_len] at this
          exact this
        rw [if_neg h2, List.getElem?_append_right (by omega), show X.length + (2 * (k - X.length - 32) + 1) - X.length = 2 * (k - X.length - 32) + 1 by omega, (x_gl_at G pa ba 32 (k - X.length - 32) (by omega)).2]
        have e := x_pl_a G pa ba (fun _ => 12) (fun _ => 0) (fun _ _ => 0) (j := k - X.length - 32) (by omega)
        rw [show 32 + (k - X.length - 32) = k - X.length by omega] at e
        rw [e] at hk
        exact hk
  refine ⟨B.1, B.2.1.by _ key, B.2.2.1.by _ key (fun i j hi hj hij => ?_), B.2.2.2⟩
  by_cases a1 : i < X.length
  · rw [if_pos a1] at hij
    by_cases b1 : j < X.length
    · rw [if_pos b1] at hij; exact hij
    · rw [if_neg b1] at hij
      by_cases b2 : j < X.length + 32
      · rw [if_pos b2] at hij; omega
      · rw [if_neg b2] at hij; omega
  · rw [if_neg a1] at hij
    by_cases a2 : i < X.length + 32
    · rw [if_pos a2] at hij
      by_cases b1 : j < X.length
      · rw [if_pos b1] at hij; omega
      · rw [if_neg b1] at hij
        by_cases b2 : j < X.length + 32
        · rw [if_pos b2] at hij; omega
        · rw [if_neg b2] at hij; omega
    · rw [if_neg a2] at hij
      by_cases b1 : j < X.length
      · rw [if_pos b1] at hij; omega
      · rw [if_neg b1] at hij
        by_cases b2 : j < X.length + 32
        · rw [if_pos b2] at hij; omega
        · rw [if_neg b2] at hij; omega
theorem x_qup {pa : Nat → Nat} {i q : Nat} : va_up (fun j => if j < i then some (pa j) else none) i (some q) = (fun j => if j < i + 1 then some (va_up pa i q j) else none) := by
  funext j
  by_cases h : j = i
  · subst h
    rw [va_up_self, va_up_self, if_pos (by omega)]
  · rw [va_up_ne _ _ h]
    by_cases h2 : j < i
    · rw [if_pos h2, if_pos (by omega), va_up_ne _ _ h]
    · rw [if_neg h2, if_neg (by omega)]
theorem x_qcell {cA : ClassId} {n : Nat} {f g : Nat → Option Nat} (h : ∀ j, j < n → f j = g j) : vp_cell cA (n, .inr (.inr (.inr (.inr f)))) = vp_cell cA (n, .inr (.inr (.inr (.inr g)))) := by
  rw [vp_cell_q, vp_cell_q]
  unfold arrV
  congr 1
  apply Array.ext_getElem?
  intro i
  simp only [Array.getElem?_ofFn]
  split
  · rename_i hi
    rw [h _ hi]
  · rfl
theorem xB.fnQ {ws : va_W} {locs : List Loc} (B : xB G A s H locs ws) (q0 : Nat) {a : Nat} {n : Nat} {f : Nat → Option Nat} (he : ws[q0]? = some (a, x_Q G n f)) (g : Nat → Option Nat) (h : ∀ j, j < n → f j = g j) : xB G A s H locs (ws.set q0 (a, x_Q G n g)) := by
  refine ⟨B.1, B.2.1.set B.2.2.1 he ?_ (fun _ _ => rfl), B.2.2.1.set he, B.2.2.2⟩
  show H[a]? = some (vp_cell G.2.2.1 (n, _))
  rw [← x_qcell h]
  exact B.2.1 q0 _ he
end XN
