/-! THE CLAIM OUT OF ONE WALK OF THE LAW'S BODY. Your part is whole_start (and what it stands on); all else here is the same for every law, but numbers. -/
def R_law : String := "PoolDiceLaw"
def lw_P (b : Addr) (xs : List Int32) (args : Array Value) (s : State) : Prop := args = #[.ref b] ∧ s.IntsAt b xs ∧ xs.length ≤ 2048 ∧ (Jvm.Cond.and given_1 narrow_1).before args s = true
def lw_Q (_ : Array Value) (s : State) (o : Outcome) (t : State) : Prop := o = .returned (some (.int 1)) ∧ Framed s o t [] 600000 7302250
def lw_Z (below : List Frame) (a : Array Value) (s : State) : State → Prop := fun t => ∃ o, t.status = .running ∧ Ended t below o ∧ lw_Q a s o t
/-- the law's own end, with 1 on the stack, nothing written that was there before, its room as the claim has it -/
theorem lw_ret {p : Program} {l : Launch} {e : Env} {s : State} {m : MethodId} {below : List Frame} {meth : Method} {c : Code} {b : Nat} (hx : p.tables.exec = Jvm.exec) (hb : c.code = code) (hr : meth.sig.returnType = ret) (hlocks : meth.locks = false) {pc : Nat} {H : Heap} {ls : Array Slot} (hdg : decode code pc = .ok (.ireturn, 1)) : W p l e room_1 s m #[Value.ref b] below meth c H [] 600000 7302250 (lw_Z below #[Value.ref b] s) (F0 m pc ls [.int 1]) := by
  intro T hT X
  obtain ⟨fs, hret, hrun, hended, hW, hframe⟩ := X.leave (v := some (.int 1)) (hlocks := hlocks) (fun h => by rw [hr] at h; cases h)
  have hmeth' : T.vm.method? m = some meth := X.method'
  refine ⟨T.setFrames fs, ?_, .returned (some (.int 1)), hrun, hended, rfl, ⟨_, rfl⟩, hW, hframe⟩
  jvm_step X.here [X.here.top, hx, hb, hdg, hmeth', hr, ret, narrow_b1]
  (try refine ⟨rfl, ?_⟩); (try refine ⟨rfl, ?_⟩)
  first | (intro acts; rw [hret _ acts rfl rfl rfl]) | rw [hret _ _ rfl rfl rfl]
  exact Steps.refl _
/-- what holds at the law's entry: the machine, the code, the tables' words (any of lw_tbl by 'hts w (by decide +kernel)'), the script of L ints xs at the cell b, what the Statement gives of the start (any of its parts by flat_of_before) -/
def lw_At (p : Program) (s : State) (m : MethodId) (meth : Method) (c : Code) (b L : Nat) (xs : Nat → Int32) : Prop :=
  p.tables.exec = Jvm.exec ∧ c.code = code ∧ meth.sig.returnType = ret ∧ c.maxLocals = 4 ∧ s.vm.findClass R_law = some m.cls ∧ (∀ w ∈ lw_tbl, w.before #[Value.ref b] s = true) ∧ va_X b L xs s s.heap ∧ b < s.heap.size ∧ meth.locks = false ∧ (Jvm.Cond.and given_1 narrow_1).before #[Value.ref b] s = true
theorem gl_a1 {w : Cond} (k : Nat) (h : tables_1_1[k]? = some w) : w ∈ lw_tbl := List.mem_append_right _ (List.mem_append_left _ (List.mem_of_getElem? h))
theorem gl_a2 {w : Cond} (k : Nat) (h : tables_1_2[k]? = some w) : w ∈ lw_tbl := List.mem_append_right _ (List.mem_append_right _ (List.mem_append_left _ (List.mem_of_getElem? h)))
theorem gl_a3 {w : Cond} (k : Nat) (h : tables_1_3[k]? = some w) : w ∈ lw_tbl := List.mem_append_right _ (List.mem_append_right _ (List.mem_append_right _ (List.mem_of_getElem? h)))
def fl_L : List Cond := flatC (Jvm.Cond.and given_1 narrow_1)
abbrev tm_K : Term := .static "PoolDice$Digest" "K" "[I"
abbrev tm_H : Term := .static "PoolDice$Digest" "START" "[I"
abbrev tm_S : Term := .static "PoolDice$Cipher" "S" "[I"
theorem fl_Ha : Cond.arrayOf tm_H .int ∈ fl_L := List.mem_of_getElem? (i := 5) (by decide +kernel)
theorem fl_Hl : Cond.eq (.length tm_H) (.int (Int32.ofNat 8)) ∈ fl_L := List.mem_of_getElem? (i := 6) (by decide +kernel)
theorem fl_He : (List.range 8).map (fun j => Cond.eq (.elem tm_H (.int (Int32.ofNat j))) (.int (k_H j))) = (fl_L.drop 7).take 8 := by decide +kernel
theorem fl_Ka : Cond.arrayOf tm_K .int ∈ fl_L := List.mem_of_getElem? (i := 16) (by decide +kernel)
theorem fl_Kl : Cond.eq (.length tm_K) (.int (Int32.ofNat 64)) ∈ fl_L := List.mem_of_getElem? (i := 17) (by decide +kernel)
theorem fl_Ke : (List.range 64).map (fun j => Cond.eq (.elem tm_K (.int (Int32.ofNat j))) (.int (k_K j))) = (fl_L.drop 18).take 64 := by decide +kernel
theorem fl_Sa : Cond.arrayOf tm_S .int ∈ fl_L := List.mem_of_getElem? (i := 83) (by decide +kernel)
theorem fl_Sl : Cond.eq (.length tm_S) (.int (Int32.ofNat 256)) ∈ fl_L := List.mem_of_getElem? (i := 84) (by decide +kernel)
theorem fl_Se : (List.range 256).map (fun j => Cond.eq (.elem tm_S (.int (Int32.ofNat j))) (.int (nI (k_S j)))) = (fl_L.drop 85).take 256 := by decide +kernel
set_option maxHeartbeats 4000000 in
set_option maxRecDepth 100000 in
theorem x_start {p : Program} {s : State} {m : MethodId} {meth : Method} {c : Code} {b L : Nat} {xs : Nat → Int32} (C0 : lw_At p s m meth c b L xs) : ∃ G : xG, xB G (fun q => s.heap.size ≤ q) s s.heap [] [] := by
  obtain ⟨hx, hb, hr, hml, hown, hts, hX, hbl, hlocks, hgv⟩ := C0
  have hG : ∀ w ∈ gg_L, w.before #[Value.ref b] s = true := fun w h => hts w (List.mem_filter.mp h).1
  have hs : ∀ w ∈ fl_L, w.before #[Value.ref b] s = true := flat_of_before _ hgv
  have hA : ∀ a : Nat, a < s.heap.size → ¬ (fun q : Nat => s.heap.size ≤ q) a := fun a ha h => Nat.not_le.mpr ha h
  obtain ⟨c0, i0, k0⟩ := u_known (C := r_Ci) (T := f_Ci) (N := 3) (n := 3) hG i_Ci (hG _ wd_94)
  obtain ⟨c1, i1, k1⟩ := u_known (C := r_Dg) (T := f_Dg) (N := 3) (n := 3) hG i_Dg (hG _ wd_76)
  obtain ⟨c2, i2, k2⟩ := u_known (C := r_Dk) (T := f_Dk) (N := 3) (n := 3) hG i_Dk (hG _ wd_147)
  obtain ⟨c3, i3, k3⟩ := u_known (C := r_Ge) (T := f_Ge) (N := 10) (n := 10) hG i_Ge (hG _ wd_52)
  obtain ⟨c4, i4, k4⟩ := u_known (C := r_Po) (T := f_Po) (N := 2) (n := 2) hG i_Po (hG _ wd_59)
  obtain ⟨c5, i5, k5⟩ := u_known (C := r_Pd) (T := f_Pd) (N := 5) (n := 5) hG i_Pd (hG _ wd_44)
  obtain ⟨c6, i6, k6⟩ := u_known (C := r_Mo) (T := f_Mo) (N := 25) (n := 25) hG i_Mo (hG _ wd_387)
  obtain ⟨dC, dI, hKc⟩ : ∃ (dC : Nat → ClassId) (dI : Nat → Nat → Nat), ∀ (k : Nat) (q : vw_C), cl_s[k]? = some q → u_Kn s q.1 q.2.1 q.2.2 (dC k) (dI k) := by
    refine ⟨fun k => if k = 0 then c0 else if k = 1 then c1 else if k = 2 then c2 else if k = 3 then c3 else if k = 4 then c4 else if k = 5 then c5 else c6, fun k => if k = 0 then i0 else if k = 1 then i1 else if k = 2 then i2 else if k = 3 then i3 else if k = 4 then i4 else if k = 5 then i5 else i6, ?_⟩
    intro k q hq
    match k, hq with
    | 0, hq => cases hq; exact k0
    | 1, hq => cases hq; exact k1
    | 2, hq => cases hq; exact k2
    | 3, hq => cases hq; exact k3
    | 4, hq => cases hq; exact k4
    | 5, hq => cases hq; exact k5
    | 6, hq => cases hq; exact k6
    | k + 7, hq => simp [cl_s] at hq
  obtain ⟨cI, kI, mI, f1, f2, f3⟩ := Cond.arrayClass_spec (hG _ wd_74)
  have hao : (Cond.arrayOver (.object "PoolDice$Pool")).before #[Value.ref b] s = true := hts _ (gl_a1 25 rfl)
  obtain ⟨comp, cP, kP, g1, g2, g3, g4, g5⟩ := Cond.arrayOver_spec hao
  obtain ⟨tK, eK, hTK⟩ := va_Tof (tm := tm_K) (ty := .int) (N := 64) (f := fun j => .int (k_K j)) (A := fun q : Nat => s.heap.size ≤ q) (by decide) (hs _ fl_Ka) (va_eqt (hs _ fl_Kl)) (fun j hj => va_eqt (z := k_K j) (hs _ (va_run (f := fun j => Cond.eq (.elem tm_K (.int (Int32.ofNat j))) (.int (k_K j))) fl_Ke j hj))) hA
  have hZK := va_Zref (A := fun q : Nat => s.heap.size ≤ q) (hts _ (gl_a1 238 rfl)) (hG _ wd_37) eK hA
  obtain ⟨tH, eH, hTH⟩ := va_Tof (tm := tm_H) (ty := .int) (N := 8) (f := fun j => .int (k_H j)) (A := fun q : Nat => s.heap.size ≤ q) (by decide) (hs _ fl_Ha) (va_eqt (hs _ fl_Hl)) (fun j hj => va_eqt (z := k_H j) (hs _ (va_run (f := fun j => Cond.eq (.elem tm_H (.int (Int32.ofNat j))) (.int (k_H j))) fl_He j hj))) hA
  have hZH := va_Zref (A := fun q : Nat => s.heap.size ≤ q) (hts _ (gl_a1 49 rfl)) (hG _ wd_37) eH hA
  obtain ⟨tS, eS, hTS⟩ := va_Tof (tm := tm_S) (ty := .int) (N := 256) (f := fun j => .int (nA k_S j)) (A := fun q : Nat => s.heap.size ≤ q) (by decide) (hs _ fl_Sa) (va_eqt (hs _ fl_Sl)) (fun j hj => va_eqt (z := nI (k_S j)) (hs _ (va_run (f := fun j => Cond.eq (.elem tm_S (.int (Int32.ofNat j))) (.int (nI (k_S j)))) fl_Se j hj))) hA
  have hZS := va_Zref (A := fun q : Nat => s.heap.size ≤ q) (hts _ (gl_a2 30 rfl)) (hG _ wd_38) eS hA
  refine ⟨((dC, dI), cI, cP, tK, tH, tS), ⟨hKc, fun k q hq => ?_⟩, fun k q h => by simp at h, ⟨fun i j p q h => by simp at h, fun k q h => by simp at h⟩, va_S.rf, ⟨⟨hZK, hTK⟩, ⟨hZH, hTH⟩, ⟨hZS, hTS⟩, va_AO.of hao⟩, fun q h => h⟩
  match k, hq with
  | 0, hq => cases hq; exact ⟨fun n z => ⟨(fun k h => by cases h), kI, f2, mI, f3⟩, f1⟩
  | 1, hq => cases hq; exact ⟨fun n z => ⟨(fun k h => by cases h), kP, g3, comp, g4⟩, kP, comp, g3, g4, g1, g5⟩
  | k + 2, hq => simp [x_ty] at hq
