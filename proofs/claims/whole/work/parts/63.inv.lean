/-! What holds between the class and the reference, at the law's loop. -/
section XL
variable {p : Program} {l : Launch} {e : Env} {R : Room} {s : State} {m : MethodId} {args : Array Value} {below : List Frame} {meth : Method} {c : Code} {H : Heap} {locs : List Loc} {cells slots : Nat} {Q : State → Prop}
variable {cc : ByteArray} {pc : Nat} {ls : Array Slot} {rest : List Value} {nL : Nat} {own : String} {G : xG} {A : Nat → Prop} {ws : va_W}
theorem x_sld (E : CallFix p m c cc nL s args gg_L own) (B : xB G A s H locs ws) {b L : Nat} {xs : Nat → Int32} (hX : va_X b L xs s s.heap) (hbl : b < s.heap.size) (hbA : ¬ A b) {i : Nat} (hi : i < L) (hL : L < 2 ^ 31) (hdg : decode cc pc = .ok (.iaload, 1)) (kk : W p l e R s m args below meth c H locs cells slots Q (F0 m (pc + 1) ls (.int (xs i) :: rest))) : W p l e R s m args below meth c H locs cells slots Q (F0 m pc ls (.int (nI i) :: .ref b :: rest)) :=
  va_sld E.1 E.2.1 hX hbl hbA B.2.2.2.1 (vp_in_nI hi hL) hdg (by rw [nI_clamp (by omega)]; exact kk)
theorem x_slen (E : CallFix p m c cc nL s args gg_L own) (B : xB G A s H locs ws) {b L : Nat} {xs : Nat → Int32} (hX : va_X b L xs s s.heap) (hbl : b < s.heap.size) (hbA : ¬ A b) (hdg : decode cc pc = .ok (.arraylength, 1)) (kk : W p l e R s m args below meth c H locs cells slots Q (F0 m (pc + 1) ls (.int (nI L) :: rest))) : W p l e R s m args below meth c H locs cells slots Q (F0 m pc ls (.ref b :: rest)) :=
  va_slen E.1 E.2.1 hX hbl hbA B.2.2.2.1 hdg kk
end XL
def L_J (i : Nat) (key ctr dk len cap : Nat → Nat) (pb : Nat → Nat → Nat) (pp gv ov tm : Nat → Nat) (rs gc rd : Nat) : Prop :=
  (g_bt 16 key ∧ g_bt 16 ctr ∧ g_bt 129 dk) ∧ (rs ≤ i ∧ gc ≤ 256 ∧ g_rd rd tm) ∧ (∀ j, j < 32 → len j ≤ 3 * i ∧ len j ≤ cap j ∧ 12 ≤ cap j ∧ cap j ≤ 3072) ∧ (∀ j, j < 32 → ∀ k, k < len j → pb j k < 256 ∧ pb j k = pp (1600 * j + k)) ∧ (∀ k, k < gc → gv k = ov k)
theorem J_to {i : Nat} {key ctr dk len cap : Nat → Nat} {pb : Nat → Nat → Nat} {pp gv ov tm : Nat → Nat} {rs gc rd : Nat} (h : L_J i key ctr dk len cap pb pp gv ov tm rs gc rd) {key' ctr' dk' len' gv' ov' tm' : Nat → Nat} {rs' gc' rd' : Nat} (hk : g_bt 16 key') (hc : g_bt 16 ctr') (hd : g_bt 129 dk') (hrs : rs' ≤ i + 1) (hg : gc' ≤ 256) (hrd : g_rd rd' tm') (hlen : ∀ j, j < 32 → len' j = len j ∨ len' j = 0) (hgo : ∀ k, k < gc' → gv' k = ov' k) : L_J (i + 1) key' ctr' dk' len' cap pb pp gv' ov' tm' rs' gc' rd' := by
  obtain ⟨-, -, h3, h4, -⟩ := h
  refine ⟨⟨hk, hc, hd⟩, ⟨hrs, hg, hrd⟩, fun j hj => ?_, fun j hj k hk => ?_, hgo⟩
  · have := h3 j hj
    rcases hlen j hj with q | q <;> rw [q] <;> omega
  · rcases hlen j hj with q | q
    · rw [q] at hk; exact h4 j hj k hk
    · rw [q] at hk; exact absurd hk (Nat.not_lt_zero k)
theorem J_same {i : Nat} {key ctr dk len cap : Nat → Nat} {pb : Nat → Nat → Nat} {pp gv ov tm : Nat → Nat} {rs gc rd : Nat} (h : L_J i key ctr dk len cap pb pp gv ov tm rs gc rd) : L_J (i + 1) key ctr dk len cap pb pp gv ov tm rs gc rd :=
  J_to h h.1.1 h.1.2.1 h.1.2.2 (by have := h.2.1.1; omega) h.2.1.2.1 h.2.1.2.2 (fun _ _ => Or.inl rfl) h.2.2.2.2
theorem g_z16 (n : Nat) : g_bt n (fun _ => 0) := fun _ _ => (Nat.zero_lt_succ 255 : 0 < 256)
theorem J_ev {i : Nat} {key ctr dk len cap : Nat → Nat} {pb : Nat → Nat → Nat} {pp gv ov tm : Nat → Nat} {rs gc rd : Nat} (h : L_J i key ctr dk len cap pb pp gv ov tm rs gc rd) (hi : i ≤ 511) {j sr b ca : Nat} {g : Nat → Nat} (hj : j < 32) (hs : sr < 256) (hb : b < 256) (h1 : 12 ≤ ca) (h2 : ca ≤ 3072) (h3 : len j + 3 ≤ ca) (hg : ∀ k, k < len j + 3 → g k = p_ev (pb j) (len j) sr b k) :
    L_J (i + 1) key ctr dk (va_up len j (len j + 3)) (va_up cap j ca) (va_up pb j g) (va_up (va_up (va_up pp (1600 * j + len j) sr) (1600 * j + len j + 1) 1) (1600 * j + len j + 2) b) gv ov tm rs gc rd := by
  obtain ⟨a1, a2, a3, a4, a5⟩ := h
  refine ⟨a1, ⟨by omega, a2.2⟩, fun q hq => ?_, fun q hq k hk => ?_, a5⟩
  · by_cases e : q = j
    · subst e
      rw [va_up_self, va_up_self]
      have := a3 q hq
      omega
    · rw [va_up_ne _ _ e, va_up_ne _ _ e]
      have := a3 q hq
      omega
  · by_cases e : q = j
    · subst e
      rw [va_up_self] at hk
      rw [va_up_self, hg k hk]
      unfold p_ev
      by_cases c1 : k = len q + 2
      · subst c1
        rw [va_up_self, show 1600 * q + (len q + 2) = 1600 * q + len q + 2 by omega, va_up_self]
        exact ⟨hb, rfl⟩
      · rw [va_up_ne _ _ c1, va_up_ne _ _ (show 1600 * q + k ≠ 1600 * q + len q + 2 by omega)]
        by_cases c2 : k = len q + 1
        · subst c2
          rw [va_up_self, show 1600 * q + (len q + 1) = 1600 * q + len q + 1 by omega, va_up_self]
          exact ⟨by decide, rfl⟩
        · rw [va_up_ne _ _ c2, va_up_ne _ _ (show 1600 * q + k ≠ 1600 * q + len q + 1 by omega)]
          by_cases c3 : k = len q
          · subst c3
            rw [va_up_self, va_up_self]
            exact ⟨hs, rfl⟩
          · rw [va_up_ne _ _ c3, va_up_ne _ _ (show 1600 * q + k ≠ 1600 * q + len q by omega)]
            exact a4 q hq k (by omega)
    · rw [va_up_ne _ _ e] at hk
      rw [va_up_ne _ _ e]
      have hq2 := a3 q hq
      have hj2 := a3 j hj
      rw [va_up_ne _ _ (show 1600 * q + k ≠ 1600 * j + len j + 2 by omega), va_up_ne _ _ (show 1600 * q + k ≠ 1600 * j + len j + 1 by omega), va_up_ne _ _ (show 1600 * q + k ≠ 1600 * j + len j by omega)]
      exact a4 q hq k hk
/-- the drawn key, on both sides -/
theorem l_dk {key rr pp len : Nat → Nat} {pb : Nat → Nat → Nat} {n : Nat} (hn : n ≤ 32) (h : ∀ j, j < 32 → ∀ k, k < len j → pb j k < 256 ∧ pb j k = pp (1600 * j + k)) : h_tw (va_cpy key (r_row pb len rr n) 0 0 16) (16 + 32 * n) = h_tw (r_kr key (r_dc (r_PP pp) len)) (16 + 32 * n) := by
  have key2 : ∀ n, n ≤ 32 → ∀ j, j < 32 * n → r_row pb len rr n (16 + j) = r_dc (r_PP pp) len j := by
    intro n
    induction n with
    | zero => intro _ j hj; omega
    | succ n ih =>
      intro hn j hj
      show va_cpy (h_tw (pb n) (len n)) (r_row pb len rr n) 0 (16 + 32 * n) 32 (16 + j) = _
      by_cases h1 : 32 * n ≤ j
      · rw [pk_cpy_in (by omega) (by omega)]
        unfold r_dc
        rw [show j / 32 = n by omega, show 0 + (16 + j - (16 + 32 * n)) = j % 32 by omega, h_tw_congr (g := r_PP pp n) (fun k hk => (h n (by omega) k hk).2)]
      · rw [pk_cpy_out (by omega)]
        exact ih (by omega) j (by omega)
  refine h_tw_congr (fun j hj => ?_)
  unfold r_kr
  by_cases h1 : j < 16
  · rw [pk_cpy_in (Nat.zero_le j) (by omega), if_pos h1]
    congr 1; omega
  · rw [pk_cpy_out (by omega), if_neg h1, ← key2 n hn (j - 16) (by omega), show 16 + (j - 16) = j by omega]
theorem l_lk {key rr dk : Nat → Nat} {fr c6 : Nat} : h_tw (va_cpy key (va_cpy dk rr fr 16 c6) 0 0 16) (16 + c6) = h_tw (r_kr key (fun x_ => dk (fr + x_))) (16 + c6) := by
  refine h_tw_congr (fun j hj => ?_)
  unfold r_kr
  by_cases h1 : j < 16
  · rw [pk_cpy_in (Nat.zero_le j) (by omega), if_pos h1]
    congr 1; omega
  · rw [pk_cpy_out (by omega), if_neg h1, pk_cpy_in (by omega) (by omega)]
theorem l_dd {key ctr dk nsd : Nat → Nat} {nb k : Nat} (hnb : nb = 4) (hk : k ≤ 65) : d_dk dk (g_gen (g_sch key) ctr nsd nb) k = d_dk dk (g_out (g_sch key) ctr) k := d_dkc hk (fun i hi => g_genE _ _ _ nb i (by omega))
theorem c_by_1 {x : Int32} (h : c_by x = 1) : ∃ j : Nat, j < 256 ∧ x = nI j := by
  by_cases q : ¬ x < 0 ∧ ¬ nI 255 < x
  · refine x_ix q.1 (fun z => q.2 ?_) (by decide)
    have a := Int32.le_iff_toInt_le.mp z
    rw [nI_toInt (by decide)] at a
    exact Int32.lt_iff_toInt_lt.mpr (by rw [nI_toInt (by decide)]; omega)
  · unfold c_by at h
    rw [if_neg q] at h
    cases h
theorem c_po_1 {x : Int32} (h : c_po x = 1) : ∃ j : Nat, j < 32 ∧ x = nI j := by
  by_cases q : ¬ x < 0 ∧ ¬ nI 32 ≤ x
  · exact x_ix q.1 q.2 (by decide)
  · unfold c_po at h
    rw [if_neg q] at h
    cases h
theorem c_in_by {x : Int32} (h : c_in x 256 = 1) : c_by x = 1 := by
  obtain ⟨j, hj, rfl⟩ := c_in_1 h (by decide)
  exact c_by_n hj
theorem c_in_po {x : Int32} (h : c_in x 32 = 1) : c_po x = 1 := by
  obtain ⟨j, hj, rfl⟩ := c_in_1 h (by decide)
  exact c_po_n hj
theorem c_atc {f g : Nat → Nat} {n : Nat} {x : Int32} (h : ∀ k, k < n → f k = g k) (hn : n < 2 ^ 31) : c_at f n x = c_at g n x := by
  unfold c_at
  by_cases q : ¬ x < 0 ∧ ¬ nI n ≤ x
  · obtain ⟨j, hj, rfl⟩ := x_ix q.1 q.2 hn
    rw [if_pos q, if_pos q, nI_clamp (by omega), h j hj]
  · rw [if_neg q, if_neg q]
theorem l_rq {x : Int32} (h : ¬ x < nI 1 ∧ x ≤ nI 256) : ∃ n : Nat, 1 ≤ n ∧ n ≤ 256 ∧ x = nI n := by
  have a := Int32.not_lt.mp h.1
  have b := Int32.le_iff_toInt_le.mp a
  have d := Int32.le_iff_toInt_le.mp h.2
  rw [nI_toInt (by decide)] at b d
  refine ⟨x.toInt.toNat, by omega, by omega, Int32.toInt_inj.mp ?_⟩
  rw [nI_toInt (by omega)]
  omega
theorem l_ti {x : Int32} {k : Nat} (hk : k < 2 ^ 31) (h : ¬ x = nI k) : x.toInt ≠ (k : Int) := fun q => h (Int32.toInt_inj.mp (by rw [nI_toInt hk]; exact q))
theorem l_sub {x : Int32} {k j : Nat} (h : x - nI k = nI j) : x = nI (k + j) := by
  rw [← nI_add, ← h, Int32.add_comm, Int32.sub_add_cancel]
theorem l_po {x : Int32} {k : Nat} (hk : k < 100) (h1 : (k : Int) ≤ x.toInt) (h2 : x.toInt ≤ k + 31) : c_po (x - nI k) = 1 := by
  have e : x = nI (k + (x.toInt - k).toNat) := Int32.toInt_inj.mp (by rw [nI_toInt (by omega)]; omega)
  rw [e, ← nI_add, Int32.add_comm, Int32.add_sub_cancel]
  exact c_po_n (by omega)
theorem l_bo {x y : Int32} (h0 : ¬ x = nI 0) (h1 : ¬ x = nI 1) (h2 : ¬ x = nI 2) (hv : ¬ (c_po (x - nI 3) = 1 ∧ ¬ y < 0 ∧ y < nI 32)) : ¬ (¬ x < 0 ∧ ¬ nI 34 < x ∧ ¬ y < 0 ∧ y < (if x < nI 2 then nI 16 else nI 32)) := by
  intro q
  have a := l_ti (by decide) h0
  have b := l_ti (by decide) h1
  have d := l_ti (by decide) h2
  have e := Int32.le_iff_toInt_le.mp (Int32.not_lt.mp q.1)
  have f := Int32.le_iff_toInt_le.mp (Int32.not_lt.mp q.2.1)
  rw [nI_toInt (by decide)] at f
  have z : (0 : Int32).toInt = 0 := by decide
  rw [z] at e
  refine hv ⟨l_po (by decide) (by omega) (by omega), q.2.2.1, ?_⟩
  have g := q.2.2.2
  rw [if_neg (fun w => by have := Int32.lt_iff_toInt_lt.mp w; rw [nI_toInt (by decide)] at this; omega)] at g
  exact g
theorem l_ab {x : Int32} (hp : ¬ c_po (x - nI 6) = 1) : ¬ (¬ x < nI 6 ∧ x ≤ nI 37) := by
  intro q
  have e := Int32.le_iff_toInt_le.mp (Int32.not_lt.mp q.1)
  have f := Int32.le_iff_toInt_le.mp q.2
  rw [nI_toInt (by decide)] at e f
  exact hp (l_po (by decide) (by omega) (by omega))
theorem l_po0 {x : Int32} (h : ¬ c_po x = 1) : c_po x = 0 := by have := c_po_le x; omega
theorem l_sneg {L i : Nat} (h : L < 4) (hi : i < 100000) : nI L - nI 4 < nI i := by
  have a := pk_sneg (a := L) (b := 4) (by decide) h
  have b := Int32.lt_iff_toInt_lt.mp a
  have z : (0 : Int32).toInt = 0 := by decide
  rw [z] at b
  exact Int32.lt_iff_toInt_lt.mpr (by rw [nI_toInt (n := i) (by omega)]; omega)
theorem l_and (x : Int32) : ∃ v : Nat, v < 16 ∧ x &&& nI 15 = nI v := pk_andE x 4 (by decide)
