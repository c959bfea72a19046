section XC
variable {p : Program} {l : Launch} {e : Env} {R : Room} {s : State} {m : MethodId} {args : Array Value} {below : List Frame} {meth : Method} {c : Code} {H : Heap} {locs : List Loc} {cells slots : Nat} {Q : State → Prop}
variable {cc : ByteArray} {pc : Nat} {ls : Array Slot} {rest : List Value} {A : Nat → Prop} {a : Nat} {ws : va_W} {G : xG} {nL : Nat} {own : String}
theorem x_ro_t (B : xB G A s H locs ws) {r n : Nat} {f : Nat → Int32} (hT : x_R A s s.heap r n f) {w0 : va_W} (isC : List Nat) (hC : isC.map (fun i => ws[i]?) = w0.map some) : x_R (va_A w0 H.size) s H r n f :=
  (va_T.kept hT (fun a ha hn => B.2.2.2.1.2.1 a ha hn)).narrow (va_free B.2.2.1 B.2.2.2.1 B.2.2.2.2.2 isC hC)
theorem x_ro_w (B : xB G A s H locs ws) (q : Nat) {r n : Nat} {f : Nat → Int32} (he : ws[q]? = some (r, x_I G n f)) {w0 : va_W} (isC : List Nat) (hC : isC.map (fun i => ws[i]?) = w0.map some) (hq : q ∉ isC) : x_R (va_A w0 H.size) s H r n f := by
  have hc : H[r]? = some (arrV G.2.1 n (fun j => .int (f j))) := B.2.1 q _ he
  refine ⟨_, hc, (B.1.2 0 _ rfl).1 n _, (fun h => by cases h), by rw [arrV_size]; exact Nat.le_refl _, by rw [arrV_size], fun j hj => arrV_read _ _ hj, fun h => ?_⟩
  rcases h with ⟨k, e, hk⟩ | h
  · have h1 : (isC.map (fun i => ws[i]?))[k]? = some (some (r, e)) := by rw [hC, List.getElem?_map, hk]; rfl
    rw [List.getElem?_map] at h1
    obtain ⟨i, hi, hi2⟩ := Option.map_eq_some_iff.mp h1
    have := B.2.2.1.1 i q _ _ hi2 he rfl
    subst this
    exact hq (List.mem_of_getElem? hi)
  · exact absurd (Array.getElem?_eq_some_iff.mp hc).1 (Nat.not_lt.mpr h)
theorem x_pre (B : xB G A s H locs ws) {av : List Value} {ro : List (Nat × Nat × (Nat → Int32))} {w0 : va_W} (isC : List Nat) (hC : isC.map (fun i => ws[i]?) = w0.map some) (hn : va_nd isC = true) (hro : ∀ r ∈ ro, x_R (va_A w0 H.size) s H r.1 r.2.1 r.2.2) : PreS s H (va_Pc av (xPre G ro w0 H.size)) av := by
  refine ⟨xPre.blind, fun U hU hW => ⟨rfl, by rw [hU], ?_, va_K.moved hW.alike B.1, (B.2.2.1.sub isC hn hC).weaken (fun _ _ _ _ => trivial), ?_, fun r hr => ?_⟩⟩
  · rw [hU]
    exact (B.sub isC hn hC).2.1
  · rw [hU]
    exact B.2.2.2.2.1.go hW.alike (va_free B.2.2.1 B.2.2.2.1 B.2.2.2.2.2 isC hC) (fun a ha hn => B.2.2.2.1.2.1 a ha hn)
  · rw [hU]
    exact (hro r hr).moved hW.alike
theorem x_aft (B : xB G A s H locs ws) {w0 wr w1 ws' : va_W} (isC isR isP : List Nat) (hC : isC.map (fun i => ws[i]?) = w0.map some) (hR : isR.map (fun i => ws[i]?) = wr.map some) (hn : va_nd isR = true) (hdis : ∀ i ∈ isR, i ∉ isC) (hnP : va_nd isP = true) (hP : isP.map (fun i => (wr ++ w1)[i]?) = ws'.map some)
    {t : State} {H1 : Heap} {locs1 : List Loc} (ht : t.heap = H1) (hvm : s.vm.Alike t.vm) (hB : xPost G (va_A w0 H.size) w1 t) (hk1 : ∀ q : Nat, q < H.size → ¬ va_A w0 H.size q → H1[q]? = H[q]?) (hS : va_S A s.heap H1 locs1) : xB G A s H1 locs1 ws' := by
  obtain ⟨g1, g2, g3⟩ := hB
  rw [ht] at g1
  obtain ⟨k1, k2⟩ := va_join (wr := wr) (w1 := w1) B.2.1 B.2.2.1 isC isR hC hR hn hdis hk1 (va_free B.2.2.1 B.2.2.2.1 B.2.2.2.2.2 isC hC) g1 g3
  exact xB.sub ⟨B.1, k1, k2, hS, B.2.2.2.2⟩ isP hnP hP
theorem x_cv {S : Type} {post : S → Prop} {w1 ws' : S → va_W} {w0 wr : va_W} {mc ms : Nat} {st0 : List Value} {av : Array Value} (B : xB G A s H locs ws) (hr : va_Run p l e R s m args below meth c H locs cells slots mc ms (F0 m pc ls st0) rest (va_Qv post (fun u t => xPost G (va_A w0 H.size) (w1 u) t) (va_A w0 H.size) av) (va_A w0 H.size))
    (isC isR isP : List Nat) (hC : isC.map (fun i => ws[i]?) = w0.map some) (hR : isR.map (fun i => ws[i]?) = wr.map some) (hn : va_nd isR = true) (hdis : ∀ i ∈ isR, i ∉ isC) (hnP : va_nd isP = true) (hP : ∀ u, isP.map (fun i => (wr ++ w1 u)[i]?) = (ws' u).map some)
    (kk : ∀ (u : S) (H1 : Heap) (locs1 : List Loc), post u → xB G A s H1 locs1 (ws' u) → W p l e R s m args below meth c H1 locs1 (cells + mc) (slots + ms) Q (F0 m (pc + 3) ls rest)) : W p l e R s m args below meth c H locs cells slots Q (F0 m pc ls st0) :=
  have hF := va_free B.2.2.1 B.2.2.2.1 B.2.2.2.2.2 isC hC
  va_callv hr B.2.2.2.1 (fun q _ h => hF q h) hF (fun u t H1 locs1 ht hvm hw hB _ hk1 hS => kk u H1 locs1 hw (x_aft B isC isR isP hC hR hn hdis hnP (hP u) ht hvm hB hk1 hS))
theorem x_ci {S : Type} {post : Int32 → S → Prop} {w1 ws' : S → va_W} {w0 wr : va_W} {mc ms : Nat} {st0 : List Value} {av : Array Value} (B : xB G A s H locs ws) (hr : va_Run p l e R s m args below meth c H locs cells slots mc ms (F0 m pc ls st0) rest (va_Qi post (fun u t => xPost G (va_A w0 H.size) (w1 u) t) (va_A w0 H.size) av) (va_A w0 H.size))
    (isC isR isP : List Nat) (hC : isC.map (fun i => ws[i]?) = w0.map some) (hR : isR.map (fun i => ws[i]?) = wr.map some) (hn : va_nd isR = true) (hdis : ∀ i ∈ isR, i ∉ isC) (hnP : va_nd isP = true) (hP : ∀ u, isP.map (fun i => (wr ++ w1 u)[i]?) = (ws' u).map some)
    (kk : ∀ (r : Int32) (u : S) (H1 : Heap) (locs1 : List Loc), post r u → xB G A s H1 locs1 (ws' u) → W p l e R s m args below meth c H1 locs1 (cells + mc) (slots + ms) Q (F0 m (pc + 3) ls (.int r :: rest))) : W p l e R s m args below meth c H locs cells slots Q (F0 m pc ls st0) :=
  have hF := va_free B.2.2.1 B.2.2.2.1 B.2.2.2.2.2 isC hC
  va_calli hr B.2.2.2.1 (fun q _ h => hF q h) hF (fun r u t H1 locs1 ht hvm hw hB _ hk1 hS => kk r u H1 locs1 hw (x_aft B isC isR isP hC hR hn hdis hnP (hP u) ht hvm hB hk1 hS))
section XRUN
variable {y : MethodName} {cy : ByteArray} {maxL mc ms n index b q0 ci N : Nat} {ret : Option FieldType} {rm : Room} {Pc : Array Value → State → Prop} {Qc : Array Value → State → Outcome → State → Prop} {free : Addr → Prop} {C : String} {T : u_T} {ty : Nat → FieldType} {As st0 : List Value} {fs : List Value}
theorem x_rV (E : CallFix p m c cc nL s args gg_L own) (B : xB G A s H locs ws) (hM : Met l y (Cond.code y cy maxL ret :: gg_L) rm Pc Qc mc ms free) (hp : PreS s H Pc (.ref b :: As)) (q0 : Nat) (he : ws[q0]? = some (b, .inr (ci, fs))) (Kc : x_C ci C T N ty) (hg : GoodIn gg_L (wsV own index C y (Cond.code y cy maxL ret :: gg_L)))
    (hd : y.cls = C ∧ y.cls ≠ "java/lang/invoke/MethodHandle" ∧ y.cls ≠ "java/lang/invoke/VarHandle" ∧ (parseMethodDescriptor y.desc).map (fun d => d.parameters.length) = some n) (hrc : rm.cells = mc) (hrs : rm.slots = ms) (hR : rm.frames + 1 ≤ R.frames ∧ 8 + (maxL + 11) + rm.locals ≤ R.locals) (hn : As.length = n) (hsz : ls.size = nL) (hst : st0 = As.reverse ++ .ref b :: rest) (hW : (rest.map fun v => v.category).sum ≤ 8) (hdg : decode cc pc = .ok (.invokevirtual index, 3)) (hf : cells + mc ≤ R.cells ∧ slots + ms ≤ R.slots) :
    va_Run p l e R s m args below meth c H locs cells slots mc ms (F0 m pc ls st0) rest (Qc (Value.ref b :: As).toArray) free :=
  va_runV E hM (cwV n E.2.2.2.2 hg rfl hrc hrs hd hR) ⟨hp.1, va_recv B.1 B.2.1 Kc.1 he, hp.2⟩ rfl hn hsz hst (lv_room hW) hdg hf
theorem x_rS (E : CallFix p m c cc nL s args gg_L own) (hM : Met l y (Cond.code y cy maxL ret :: gg_L) rm Pc Qc mc ms free) (hp : PreS s H Pc As) (hg : GoodIn gg_L (va_wsS own index y (Cond.code y cy maxL ret :: gg_L)))
    (hd : y.cls ≠ "java/lang/invoke/MethodHandle" ∧ y.cls ≠ "java/lang/invoke/VarHandle" ∧ (parseMethodDescriptor y.desc).map (fun d => d.parameters.length) = some n) (hrc : rm.cells = mc) (hrs : rm.slots = ms) (hR : rm.frames + 1 ≤ R.frames ∧ 8 + (maxL + 11) + rm.locals ≤ R.locals) (hn : As.length = n) (hsz : ls.size = nL) (hst : st0 = As.reverse ++ rest) (hW : (rest.map fun v => v.category).sum ≤ 8) (hdg : decode cc pc = .ok (.invokestatic index, 3)) (hf : cells + mc ≤ R.cells ∧ slots + ms ≤ R.slots) :
    va_Run p l e R s m args below meth c H locs cells slots mc ms (F0 m pc ls st0) rest (Qc As.toArray) free :=
  va_runS E hM (va_cwS n E.2.2.2.2 hg rfl hrc hrs hd hR) hp rfl hn hsz hst (lv_room hW) hdg hf
theorem x_rI (E : CallFix p m c cc nL s args gg_L own) (hM : Met l y (Cond.code y cy maxL none :: gg_L) rm Pc Qc mc ms free) (hp : PreS s H Pc (.ref b :: As)) (hc : Cond.code y cy maxL none ∈ gg_L) (hini : Cond.initialized y.cls ∈ gg_L) (hl : Cond.methodLink own index y ∈ gg_L) (hi : Cond.instanceMethod y ∈ gg_L) (hnm : y.name = "<init>")
    (hd : y.cls ≠ "java/lang/invoke/MethodHandle" ∧ y.cls ≠ "java/lang/invoke/VarHandle" ∧ (parseMethodDescriptor y.desc).map (fun d => d.parameters.length) = some n) (hrc : rm.cells = mc) (hrs : rm.slots = ms) (hR : rm.frames + 1 ≤ R.frames ∧ 8 + (maxL + 11) + rm.locals ≤ R.locals) (hn : As.length = n) (hsz : ls.size = nL) (hst : st0 = As.reverse ++ .ref b :: rest) (hW : (rest.map fun v => v.category).sum ≤ 8) (hdg : decode cc pc = .ok (.invokespecial index, 3)) (hf : cells + mc ≤ R.cells ∧ slots + ms ≤ R.slots) :
    va_Run p l e R s m args below meth c H locs cells slots mc ms (F0 m pc ls st0) rest (Qc (Value.ref b :: As).toArray) free :=
  va_runI E hM (cwI n E.2.2.2.2 (gg_I hc) rfl hrc hrs (E.2.2.2.2 _ hini) (E.2.2.2.2 _ hl) (E.2.2.2.2 _ hi) hnm hd hR) hp rfl hn hsz hst (lv_room hW) hdg hf
end XRUN
/-- a function that is called: the heap stays -/
theorem x_cf {r : Int32} {st0 : List Value} {av : Array Value} (hr : va_Run p l e R s m args below meth c H locs cells slots 0 0 (F0 m pc ls st0) rest (k2_QcV (.int r) av) (fun _ => False)) (kk : W p l e R s m args below meth c H locs cells slots Q (F0 m (pc + 3) ls (.int r :: rest))) : W p l e R s m args below meth c H locs cells slots Q (F0 m pc ls st0) := W.callV hr.run kk
theorem x_pf {av : List Value} : PreS s H (va_Pc av (fun _ => True)) av := ⟨fun _ _ _ _ q => q, fun _ _ _ => ⟨rfl, trivial⟩⟩
/-- ends -/
theorem x_vret {S : Type} {post : S → Prop} {w1 : S → va_W} (E : CallFix p m c cc nL s args gg_L own) (hr : meth.sig.returnType = none) (hlocks : meth.locks = false) {u : S} (B : xB G A s H locs (w1 u)) (hp : post u) (hdg : decode cc pc = .ok (.return_, 1)) : W p l e R s m args below meth c H locs cells slots (MQ below (va_Qv post (fun u t => xPost G A (w1 u) t) A) args s cells slots A) (F0 m pc ls []) :=
  W.vret E.1 E.2.1 hr (fun t ht hW => ⟨⟨u, rfl, hp, by rw [ht]; exact B.2.1, va_K.moved hW.alike B.1, B.2.2.1⟩, B.2.2.2.1.F ht⟩) B.2.2.2.1.2.2 hdg hlocks
theorem x_iret {S : Type} {post : Int32 → S → Prop} {w1 : S → va_W} (E : CallFix p m c cc nL s args gg_L own) (hr : meth.sig.returnType = some .int) (hlocks : meth.locks = false) {u : S} {v : Int32} (B : xB G A s H locs (w1 u)) (hp : post v u) (hdg : decode cc pc = .ok (.ireturn, 1)) : W p l e R s m args below meth c H locs cells slots (MQ below (va_Qi post (fun u t => xPost G A (w1 u) t) A) args s cells slots A) (F0 m pc ls [.int v]) :=
  W.iret E.1 E.2.1 hr (fun t ht hW => ⟨⟨v, u, rfl, hp, by rw [ht]; exact B.2.1, va_K.moved hW.alike B.1, B.2.2.1⟩, B.2.2.2.1.F ht⟩) B.2.2.2.1.2.2 hdg hlocks
theorem x_zret {S : Type} {post : Int32 → S → Prop} {w1 : S → va_W} (E : CallFix p m c cc nL s args gg_L own) (hr : meth.sig.returnType = some .boolean) (hlocks : meth.locks = false) {u : S} {v : Int32} (hv : narrow .boolean (.int v) = .int v) (B : xB G A s H locs (w1 u)) (hp : post v u) (hdg : decode cc pc = .ok (.ireturn, 1)) : W p l e R s m args below meth c H locs cells slots (MQ below (va_Qi post (fun u t => xPost G A (w1 u) t) A) args s cells slots A) (F0 m pc ls [.int v]) :=
  W.zret E.1 E.2.1 hr hv (fun t ht hW => ⟨⟨v, u, rfl, hp, by rw [ht]; exact B.2.1, va_K.moved hW.alike B.1, B.2.2.1⟩, B.2.2.2.1.F ht⟩) B.2.2.2.1.2.2 hdg hlocks
theorem x_fret {v r : Int32} (E : CallFix p m c cc nL s args gg_L own) (hr : meth.sig.returnType = some .int) (hlocks : meth.locks = false) (hv : v = r) (hdg : decode cc pc = .ok (.ireturn, 1)) : W p l e R s m args below meth c s.heap [] 0 0 (MQ below (k2_QcV (.int r)) args s 0 0 (fun _ => False)) (F0 m pc ls [.int v]) := by
  subst hv
  exact W.iret E.1 E.2.1 hr (fun t ht _ => ⟨rfl, ht⟩) (fun q h => by cases h) hdg hlocks
theorem x_fretz {v r : Int32} (E : CallFix p m c cc nL s args gg_L own) (hr : meth.sig.returnType = some .boolean) (hlocks : meth.locks = false) (hb : narrow .boolean (.int v) = .int v) (hv : v = r) (hdg : decode cc pc = .ok (.ireturn, 1)) : W p l e R s m args below meth c s.heap [] 0 0 (MQ below (k2_QcV (.int r)) args s 0 0 (fun _ => False)) (F0 m pc ls [.int v]) := by
  subst hv
  exact W.zret E.1 E.2.1 hr hb (fun t ht _ => ⟨rfl, ht⟩) (fun q h => by cases h) hdg hlocks
theorem x_oi (E : CallFix p m c cc nL s args gg_L own) {index : Nat} (hlink : Cond.methodLink own index objectInit ∈ gg_L) (hinst : Cond.instanceMethod objectInit ∈ gg_L) (hcode : Cond.code objectInit ⟨#[0xb1]⟩ 1 none ∈ gg_L) (hsz : ls.size = nL) (hd : decode cc pc = .ok (.invokespecial index, 3)) (hframes : 1 ≤ R.frames) (hlocals : (rest.map fun v => v.category).sum + 12 ≤ R.locals) (kk : W p l e R s m args below meth c H locs cells slots Q (F0 m (pc + 3) ls rest)) : W p l e R s m args below meth c H locs cells slots Q (F0 m pc ls (.ref a :: rest)) :=
  W.objInit E.1 E.2.1 E.2.2.2.1 (E.2.2.2.2 _ hlink) (E.2.2.2.2 _ hinst) (E.2.2.2.2 _ hcode) rfl (by rw [E.2.2.1]; exact hsz) rfl hd hframes (by show 2 * 0 + _ + 12 ≤ _; omega) kk
/-- arraycopy of ints, in the world -/
theorem x_cpy (E : CallFix p m c cc nL s args gg_L own) (B : xB G A s H locs ws) {index : Nat} (hlink : Cond.methodLink own index arraycopyName ∈ gg_L) (hnat : Cond.native arraycopyName ∈ gg_L) (hstat : Cond.static arraycopyName ∈ gg_L) (hini : Cond.initialized "java/lang/System" ∈ gg_L) (q0 q1 : Nat) {a0 n0 n1 : Nat} {f g : Nat → Int32} (ha0 : ws[q0]? = some (a0, x_I G n0 f)) (ha1 : ws[q1]? = some (a, x_I G n1 g)) {sp dp n : Nat} (h4 : sp + n ≤ n0) (h5 : dp + n ≤ n1) (hb0 : n0 < 2 ^ 31) (hb1 : n1 < 2 ^ 31) (hsz : ls.size = nL) (hframes : 1 ≤ R.frames) (hlocals : (rest.map fun v => v.category).sum + (nativeFrameWords "java/lang/System" "arraycopy" 5 + 11) ≤ R.locals) (hdg : decode cc pc = .ok (.invokestatic index, 3))
    (kk : ∀ (H1 : Heap) (locs1 : List Loc), xB G A s H1 locs1 (ws.set q1 (a, x_I G n1 (va_cpy f g sp dp n))) → W p l e R s m args below meth c H1 locs1 cells slots Q (F0 m (pc + 3) ls rest)) : W p l e R s m args below meth c H locs cells slots Q (F0 m pc ls (.int (nI n) :: .int (nI dp) :: .ref a :: .int (nI sp) :: .ref a0 :: rest)) := by
  have e1 : (nI sp).toNatClampNeg = sp := nI_clamp (by omega)
  have e2 : (nI dp).toNatClampNeg = dp := nI_clamp (by omega)
  have e3 : (nI n).toNatClampNeg = n := nI_clamp (by omega)
  refine va_copyi (D := G.1) (ty := .int) E.1 E.2.1 (E.2.2.1.trans hsz.symm) E.2.2.2.1 (E.2.2.2.2 _ hlink) (E.2.2.2.2 _ hnat) (E.2.2.2.2 _ hstat) (E.2.2.2.2 _ hini) B.1 B.2.1 B.2.2.1 B.2.2.2.1 q0 q1 0 0 ha0 ha1 rfl rfl rfl (nI_pos (by omega)) (nI_pos (by omega)) (nI_pos (by omega)) (by rw [e1, e3]; exact h4) (by rw [e2, e3]; exact h5) (fun _ _ => rfl) hframes hlocals hdg (fun H1 l1 h1 h2 h3 => ?_)
  rw [e1, e2, e3] at h1 h2
  exact kk H1 l1 ⟨B.1, h1, h2, h3, B.2.2.2.2⟩
end XC
