section XCT
variable {p : Program} {l : Launch} {e : Env} {R : Room} {s : State} {m : MethodId} {args : Array Value} {below : List Frame} {meth : Method} {c : Code} {H : Heap} {locs : List Loc} {cells slots : Nat} {Q : State → Prop}
variable {cc : ByteArray} {pc : Nat} {ls : Array Slot} {rest : List Value} {A : Nat → Prop} {a : Nat} {ws : va_W} {G : xG} {nL : Nat} {own : String}
/-- arraycopy of ints out of a row that is only read -/
theorem x_cpt (E : CallFix p m c cc nL s args gg_L own) (B : xB G A s H locs ws) {index : Nat} (hlink : Cond.methodLink own index arraycopyName ∈ gg_L) (hnat : Cond.native arraycopyName ∈ gg_L) (hstat : Cond.static arraycopyName ∈ gg_L) (hini : Cond.initialized "java/lang/System" ∈ gg_L) {a0 n0 : Nat} {f : Nat → Int32} (hT : x_R A s s.heap a0 n0 f) (q1 : Nat) {n1 : Nat} {g : Nat → Int32} (ha1 : ws[q1]? = some (a, x_I G n1 g)) {sp dp n : Nat} (h4 : sp + n ≤ n0) (h5 : dp + n ≤ n1) (hb0 : n0 < 2 ^ 31) (hb1 : n1 < 2 ^ 31) (hsz : ls.size = nL) (hframes : 1 ≤ R.frames) (hlocals : (rest.map fun v => v.category).sum + (nativeFrameWords "java/lang/System" "arraycopy" 5 + 11) ≤ R.locals) (hdg : decode cc pc = .ok (.invokestatic index, 3))
    (kk : ∀ (H1 : Heap) (locs1 : List Loc), xB G A s H1 locs1 (ws.set q1 (a, x_I G n1 (va_cpy f g sp dp n))) → W p l e R s m args below meth c H1 locs1 cells slots Q (F0 m (pc + 3) ls rest)) : W p l e R s m args below meth c H locs cells slots Q (F0 m pc ls (.int (nI n) :: .int (nI dp) :: .ref a :: .int (nI sp) :: .ref a0 :: rest)) := by
  have e1 : (nI sp).toNatClampNeg = sp := nI_clamp (by omega)
  have e2 : (nI dp).toNatClampNeg = dp := nI_clamp (by omega)
  have e3 : (nI n).toNatClampNeg = n := nI_clamp (by omega)
  have i1 : (nI sp).toInt = (sp : Int) := nI_toInt (by omega)
  have i2 : (nI dp).toInt = (dp : Int) := nI_toInt (by omega)
  have i3 : (nI n).toInt = (n : Int) := nI_toInt (by omega)
  intro T hT' X
  obtain ⟨hK, hP, hD, hS, hrest⟩ := B
  obtain ⟨scr, hs1, hs2, hs3, hs4, -, hs5, hs7⟩ := hT
  have hc0 : H[a0]? = some scr := by rw [hS.2.1 a0 (Array.getElem?_eq_some_iff.mp hs1).1 hs7]; exact hs1
  have hc1 : H[a]? = some (vp_cell G.2.1 (n1, .inl g)) := hP q1 _ ha1
  obtain ⟨hs6, k0, hk0, cm0, hkk0⟩ := hs2
  obtain ⟨-, k1, hk1, cm1, hkk1⟩ := (hK.2 0 _ rfl).1 n1 (fun j => .int (g j))
  obtain ⟨vm', X', step⟩ := X.arraycopy E.1 E.2.2.2.1 (E.2.2.2.2 _ hlink) (E.2.2.2.2 _ hnat) (E.2.2.2.2 _ hstat) (E.2.2.2.2 _ hini) (src := a0) (dst := a) (cs := scr) (cd := vp_cell G.2.1 (n1, .inl g)) (srcPos := nI sp) (destPos := nI dp) (n := nI n) (by rw [hT']; exact hc0) (by rw [hT']; exact hc1)
    hs6 (fun _ h => by cases h) hs3 (fun h => by cases h) hk0 hk1 hkk0 hkk1 (by simp [refKind]) (nI_pos (by omega)) (nI_pos (by omega)) (nI_pos (by omega))
    (by rw [i1, i3]; omega)
    (by rw [i2, i3]; show ¬ _ > ((arrV G.2.1 n1 (fun j => .int (g j))).slots.size : Int); rw [arrV_size]; omega)
    (fun vm₁ _ i hi => by
      rw [e3] at hi
      have e : scr.slots.getD ((nI sp).toNatClampNeg + i) .null = .int (f (sp + i)) := by
        rw [e1, Array.getD_eq_getD_getElem?, hs5 _ (by omega)]
        rfl
      refine ⟨?_, ?_⟩
      · rw [e]; rfl
      · rw [e]
        exact trivial)
    (g := F0 m pc ls (.int (nI n) :: .int (nI dp) :: .ref a :: .int (nI sp) :: .ref a0 :: rest)) rfl (by rw [E.2.2.1]; exact hsz) (rest := rest) rfl (by rw [E.2.1]; exact hdg) hframes (by show 2 * 0 + _ + _ ≤ _; omega)
  have e4 : copied scr (vp_cell G.2.1 (n1, .inl g)) (nI sp) (nI dp) (nI n) = vp_cell G.2.1 (n1, .inl (va_cpy f g sp dp n)) := by
    have h := va_copiedX (n1 := n1) (dp := dp) (fun z => Value.int z) scr G.2.1 f g hs5 h4
    rw [← e1, ← e2, ← e3] at h
    rw [e1, e2, e3] at h
    unfold copied
    rw [e1, e2, e3]
    exact h
  rw [e4] at X' step
  have hl : a < H.size := (Array.getElem?_eq_some_iff.mp hc1).1
  have hheap : ((T.setVm vm').setCell a (vp_cell G.2.1 (n1, .inl (va_cpy f g sp dp n)))).heap = H.setIfInBounds a (vp_cell G.2.1 (n1, .inl (va_cpy f g sp dp n))) := by rw [← hT']; rfl
  have oq : ∀ q : Nat, q ≠ a → (H.setIfInBounds a (vp_cell G.2.1 (n1, .inl (va_cpy f g sp dp n))))[q]? = H[q]? := fun q hq => by simp [Array.getElem?_setIfInBounds, Ne.symm hq]
  obtain ⟨t, a1, b1⟩ := kk _ _ ⟨hK, hP.set hD ha1 (show (H.setIfInBounds a _)[a]? = some _ by simp [Array.getElem?_setIfInBounds, hl]) oq, hD.set ha1, ⟨by simp; exact hS.1, fun q g1 g2 => by
      rw [oq q (fun e => g2 (by rw [e]; exact hD.2 q1 _ ha1))]
      exact hS.2.1 q g1 g2, fun q hq => by
      rcases List.mem_append.mp hq with h | h
      · exact hS.2.2 q h
      · obtain ⟨z, -, hz⟩ := List.mem_map.mp h
        rw [← hz]
        exact hD.2 q1 _ ha1⟩, hrest⟩ _ hheap X'
  exact ⟨t, step t a1, b1⟩
end XCT
