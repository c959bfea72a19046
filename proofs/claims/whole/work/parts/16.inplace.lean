/-! The world behind a call, cell by cell in its place; the family of pools. -/
def x_sets (ws : va_W) : List Nat → va_W → va_W
  | i :: is, e :: es => x_sets (ws.set i e) is es
  | [], _ => ws
  | _ :: _, [] => ws
theorem x_sets_out (is : List Nat) : ∀ (ws es : va_W) (k : Nat), k ∉ is → (x_sets ws is es)[k]? = ws[k]? := by
  induction is with
  | nil => intro ws es k _; cases es <;> rfl
  | cons i is ih =>
    intro ws es k hk
    cases es with
    | nil => rfl
    | cons e es =>
      show (x_sets (ws.set i e) is es)[k]? = ws[k]?
      rw [ih _ _ k (fun h => hk (List.mem_cons_of_mem _ h)), List.getElem?_set_ne]
      intro h
      exact hk (h ▸ List.mem_cons_self)
theorem x_sets_len (is : List Nat) : ∀ (ws es : va_W), (x_sets ws is es).length = ws.length := by
  induction is with
  | nil => intro ws es; cases es <;> rfl
  | cons i is ih =>
    intro ws es
    cases es with
    | nil => rfl
    | cons e es => exact (ih _ _).trans (List.length_set ..)
theorem x_sets_in (is : List Nat) : ∀ (ws es : va_W) (j i : Nat) (e : Nat × va_E), va_nd is = true → is[j]? = some i → es[j]? = some e → i < ws.length → (x_sets ws is es)[i]? = some e := by
  induction is with
  | nil => intro ws es j i e _ h; simp at h
  | cons i0 is ih =>
    intro ws es j i e hn hj he hl
    simp only [va_nd, Bool.and_eq_true, decide_eq_true_eq] at hn
    cases es with
    | nil => simp at he
    | cons e0 es =>
      show (x_sets (ws.set i0 e0) is es)[i]? = some e
      cases j with
      | zero =>
        rw [List.getElem?_cons_zero] at hj he
        cases hj
        cases he
        rw [x_sets_out is _ _ _ hn.1, List.getElem?_set_self hl]
      | succ j =>
        rw [List.getElem?_cons_succ] at hj he
        exact ih _ _ j i e hn.2 hj he (by rw [List.length_set]; exact hl)
theorem x_at {ws : va_W} {w0 : va_W} {isC : List Nat} (hC : isC.map (fun i => ws[i]?) = w0.map some) {k : Nat} {q : Nat × va_E} (h : w0[k]? = some q) : ∃ i : Nat, isC[k]? = some i ∧ ws[i]? = some q := by
  have h1 : (isC.map (fun i => ws[i]?))[k]? = some (some q) := by rw [hC, List.getElem?_map, h]; rfl
  rw [List.getElem?_map] at h1
  obtain ⟨i, hi, hi2⟩ := Option.map_eq_some_iff.mp h1
  exact ⟨i, hi, hi2⟩
section XI
variable {p : Program} {l : Launch} {e : Env} {R : Room} {s : State} {m : MethodId} {args : Array Value} {below : List Frame} {meth : Method} {c : Code} {H : Heap} {locs : List Loc} {cells slots : Nat} {Q : State → Prop}
variable {cc : ByteArray} {pc : Nat} {ls : Array Slot} {rest : List Value} {A : Nat → Prop} {a : Nat} {ws : va_W} {G : xG} {nL : Nat} {own : String}
theorem x_aftI (B : xB G A s H locs ws) {w0 w1 : va_W} (isC : List Nat) (hC : isC.map (fun i => ws[i]?) = w0.map some) (hn : va_nd isC = true) (hlen : w1.length = w0.length)
    {t : State} {H1 : Heap} {locs1 : List Loc} (ht : t.heap = H1) (hB : xPost G (va_A w0 H.size) w1 t) (hk1 : ∀ q : Nat, q < H.size → ¬ va_A w0 H.size q → H1[q]? = H[q]?) (hS : va_S A s.heap H1 locs1) : xB G A s H1 locs1 (x_sets ws isC w1) := by
  obtain ⟨g1, g2, g3⟩ := hB
  rw [ht] at g1
  have hlC : isC.length = w0.length := by
    have := congrArg List.length hC
    simpa using this
  have hF := va_free B.2.2.1 B.2.2.2.1 B.2.2.2.2.2 isC hC
  -- what stands at a place of the new world
  have key : ∀ (k : Nat) (q : Nat × va_E), (x_sets ws isC w1)[k]? = some q → (∃ j : Nat, isC[j]? = some k ∧ w1[j]? = some q) ∨ (k ∉ isC ∧ ws[k]? = some q) := by
    intro k q hk
    by_cases hm : k ∈ isC
    · left
      obtain ⟨j, hj⟩ := List.getElem?_of_mem hm
      have hjl : j < isC.length := (List.getElem?_eq_some_iff.mp hj).1
      have hw : w1[j]? = some (w1[j]'(by omega)) := List.getElem?_eq_getElem (by omega)
      have hkl : k < ws.length := by
        have h0 : k < (x_sets ws isC w1).length := (List.getElem?_eq_some_iff.mp hk).1
        rw [x_sets_len] at h0
        exact h0
      have h2 := x_sets_in isC ws w1 j k _ hn hj hw hkl
      rw [h2] at hk
      exact ⟨j, hj, by rw [hw]; exact hk⟩
    · right
      rw [x_sets_out isC _ _ _ hm] at hk
      exact ⟨hm, hk⟩
  have old : ∀ (k : Nat) (q : Nat × va_E), k ∉ isC → ws[k]? = some q → ¬ va_A w0 H.size q.1 := by
    intro k q hm hk h
    rcases h with ⟨z, e, hz⟩ | h
    · obtain ⟨i, hi, hi2⟩ := x_at hC hz
      have := B.2.2.1.1 i k _ _ hi2 hk rfl
      subst this
      exact hm (List.mem_of_getElem? hi)
    · exact absurd (B.2.1 k q hk).lt (Nat.not_lt.mpr h)
  refine ⟨B.1, fun k q hk => ?_, ⟨fun i j x y hi hj hxy => ?_, fun k q hk => ?_⟩, hS, B.2.2.2.2⟩
  · rcases key k q hk with ⟨j, -, hj⟩ | ⟨hm, hk⟩
    · exact g1 j q hj
    · exact (B.2.1 k q hk).kept (hk1 _ (B.2.1 k q hk).lt (old k q hm hk))
  · rcases key i x hi with ⟨a1, h1, h2⟩ | ⟨h1, h2⟩
    · rcases key j y hj with ⟨a2, h3, h4⟩ | ⟨h3, h4⟩
      · have := g3.1 a1 a2 _ _ h2 h4 hxy
        subst this
        rw [h1] at h3
        exact Option.some.inj h3
      · exact absurd (hxy ▸ g3.2 a1 x h2) (old j y h3 h4)
    · rcases key j y hj with ⟨a2, h3, h4⟩ | ⟨h3, h4⟩
      · exact absurd (hxy ▸ g3.2 a2 y h4) (old i x h1 h2)
      · exact B.2.2.1.1 i j x y h2 h4 hxy
  · rcases key k q hk with ⟨j, -, hj⟩ | ⟨hm, hk⟩
    · exact hF _ (g3.2 j q hj)
    · exact B.2.2.1.2 k q hk
theorem x_cvI {S : Type} {post : S → Prop} {w1 : S → va_W} {w0 : va_W} {mc ms : Nat} {st0 : List Value} {av : Array Value} (B : xB G A s H locs ws) (hr : va_Run p l e R s m args below meth c H locs cells slots mc ms (F0 m pc ls st0) rest (va_Qv post (fun u t => xPost G (va_A w0 H.size) (w1 u) t) (va_A w0 H.size) av) (va_A w0 H.size))
    (isC : List Nat) (hC : isC.map (fun i => ws[i]?) = w0.map some) (hn : va_nd isC = true) (hlen : ∀ u, (w1 u).length = w0.length)
    (kk : ∀ (u : S) (H1 : Heap) (locs1 : List Loc), post u → xB G A s H1 locs1 (x_sets ws isC (w1 u)) → W p l e R s m args below meth c H1 locs1 (cells + mc) (slots + ms) Q (F0 m (pc + 3) ls rest)) : W p l e R s m args below meth c H locs cells slots Q (F0 m pc ls st0) :=
  have hF := va_free B.2.2.1 B.2.2.2.1 B.2.2.2.2.2 isC hC
  va_callv hr B.2.2.2.1 (fun q _ h => hF q h) hF (fun u t H1 locs1 ht hvm hw hB _ hk1 hS => kk u H1 locs1 hw (x_aftI B isC hC hn (hlen u) ht hB hk1 hS))
theorem x_ciI {S : Type} {post : Int32 → S → Prop} {w1 : S → va_W} {w0 : va_W} {mc ms : Nat} {st0 : List Value} {av : Array Value} (B : xB G A s H locs ws) (hr : va_Run p l e R s m args below meth c H locs cells slots mc ms (F0 m pc ls st0) rest (va_Qi post (fun u t => xPost G (va_A w0 H.size) (w1 u) t) (va_A w0 H.size) av) (va_A w0 H.size))
    (isC : List Nat) (hC : isC.map (fun i => ws[i]?) = w0.map some) (hn : va_nd isC = true) (hlen : ∀ u, (w1 u).length = w0.length)
    (kk : ∀ (r : Int32) (u : S) (H1 : Heap) (locs1 : List Loc), post r u → xB G A s H1 locs1 (x_sets ws isC (w1 u)) → W p l e R s m args below meth c H1 locs1 (cells + mc) (slots + ms) Q (F0 m (pc + 3) ls (.int r :: rest))) : W p l e R s m args below meth c H locs cells slots Q (F0 m pc ls st0) :=
  have hF := va_free B.2.2.1 B.2.2.2.1 B.2.2.2.2.2 isC hC
  va_calli hr B.2.2.2.1 (fun q _ h => hF q h) hF (fun r u t H1 locs1 ht hvm hw hB _ hk1 hS => kk r u H1 locs1 hw (x_aftI B isC hC hn (hlen u) ht hB hk1 hS))
end XI
/-- the pools: 32 objects, 32 rows -/
def x_po (ba len : Nat → Nat) (j : Nat) : va_E := .inr (4, [.ref (ba j), .int (nI (len j))])
def x_pl (G : xG) (pa ba cap len : Nat → Nat) (pb : Nat → Nat → Nat) : va_W :=
  (List.range 32).map (fun j => (pa j, x_po ba len j)) ++ (List.range 32).map (fun j => (ba j, x_N G (cap j) (pb j)))
theorem x_pl_o (G : xG) (pa ba cap len : Nat → Nat) (pb : Nat → Nat → Nat) {j : Nat} (h : j < 32) : (x_pl G pa ba cap len pb)[j]? = some (pa j, .inr (4, [.ref (ba j), .int (nI (len j))])) := by
  unfold x_pl
  rw [List.getElem?_append_left (by simpa using h), List.getElem?_map, List.getElem?_range h]
  rfl
theorem x_pl_a (G : xG) (pa ba cap len : Nat → Nat) (pb : Nat → Nat → Nat) {j : Nat} (h : j < 32) : (x_pl G pa ba cap len pb)[32 + j]? = some (ba j, x_N G (cap j) (pb j)) := by
  unfold x_pl
  rw [List.getElem?_append_right (by simp), List.getElem?_map]
  rw [show 32 + j - (List.map (fun j => (pa j, x_po ba len j)) (List.range 32)).length = j by simp, List.getElem?_range h]
  rfl
theorem x_pl_len (G : xG) (pa ba cap len : Nat → Nat) (pb : Nat → Nat → Nat) : (x_pl G pa ba cap len pb).length = 64 := by simp [x_pl]
theorem x_pl_ext {G : xG} {pa ba cap len pa' ba' cap' len' : Nat → Nat} {pb pb' : Nat → Nat → Nat} {L : va_W} (hl : L.length = 64) (h1 : ∀ j, j < 32 → L[j]? = some (pa' j, .inr (4, [.ref (ba' j), .int (nI (len' j))]))) (h2 : ∀ j, j < 32 → L[32 + j]? = some (ba' j, x_N G (cap' j) (pb' j))) : L = x_pl G pa' ba' cap' len' pb' := by
  apply List.ext_getElem?
  intro k
  by_cases h : k < 32
  · rw [h1 k h, x_pl_o G pa' ba' cap' len' pb' h]
  · by_cases h3 : k < 64
    · have := h2 (k - 32) (by omega)
      rw [show 32 + (k - 32) = k by omega] at this
      rw [this]
      have h4 := x_pl_a G pa' ba' cap' len' pb' (j := k - 32) (by omega)
      rw [show 32 + (k - 32) = k by omega] at h4
      exact h4.symm
    · rw [List.getElem?_eq_none (by omega), List.getElem?_eq_none (by rw [x_pl_len]; omega)]
/-- a pool's length is set -/
theorem x_pl_sl (G : xG) (pa ba cap len : Nat → Nat) (pb : Nat → Nat → Nat) {j : Nat} (h : j < 32) (v : Nat) : (x_pl G pa ba cap len pb).set j (pa j, .inr (4, [.ref (ba j), .int (nI v)])) = x_pl G pa ba cap (va_up len j v) pb := by
  refine x_pl_ext (pa := pa) (ba := ba) (cap := cap) (len := len) (pb := pb) (by rw [List.length_set, x_pl_len]) (fun k hk => ?_) (fun k hk => ?_)
  · by_cases e : k = j
    · subst e
      rw [List.getElem?_set_self (by rw [x_pl_len]; omega), va_up_self]
    · rw [List.getElem?_set_ne (Ne.symm e), x_pl_o G pa ba cap len pb hk, va_up_ne _ _ e]
  · rw [List.getElem?_set_ne (by omega), x_pl_a G pa ba cap len pb hk]
/-- a pool and its row are set -/
theorem x_pl_s2 (G : xG) (pa ba cap len : Nat → Nat) (pb : Nat → Nat → Nat) {j : Nat} (h : j < 32) (b k0 v : Nat) (g : Nat → Nat) : x_sets (x_pl G pa ba cap len pb) [j, 32 + j] [(pa j, .inr (4, [.ref b, .int (nI v)])), (b, x_N G k0 g)] = x_pl G pa (va_up ba j b) (va_up cap j k0) (va_up len j v) (va_up pb j g) := by
  have hnd : va_nd [j, 32 + j] = true := by simp [va_nd]
  refine x_pl_ext (pa := pa) (ba := ba) (cap := cap) (len := len) (pb := pb) (by rw [x_sets_len, x_pl_len]) (fun k hk => ?_) (fun k hk => ?_)
  · by_cases e : k = j
    · subst e
      rw [x_sets_in [k, 32 + k] _ _ 0 k _ hnd rfl rfl (by rw [x_pl_len]; omega), va_up_self, va_up_self]
    · rw [x_sets_out _ _ _ _ (by simp; omega), x_pl_o G pa ba cap len pb hk, va_up_ne _ _ e, va_up_ne _ _ e]
  · by_cases e : k = j
    · subst e
      rw [x_sets_in [k, 32 + k] _ _ 1 (32 + k) _ hnd rfl rfl (by rw [x_pl_len]; omega), va_up_self, va_up_self, va_up_self]
    · rw [x_sets_out _ _ _ _ (by simp; omega), x_pl_a G pa ba cap len pb hk, va_up_ne _ _ e, va_up_ne _ _ e, va_up_ne _ _ e]
