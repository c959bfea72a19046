/-! The disk's writes, the counter, the pools drawn. -/
def d_tc (x : Int32) : Int32 := if nI 1 ≤ x then x else nI 0
/-- writes till the crash, one write later -/
def d_w1 (t : Int32) : Int32 := if nI 1 < t then t - nI 1 else t
def d_wk (t : Int32) : Nat → Int32
  | 0 => t
  | k + 1 => d_w1 (d_wk t k)
/-- how many of 65 writes happen -/
def d_nf (t : Int32) : Nat → Nat → Nat
  | 0, i => i
  | k + 1, i => if d_wk t i = nI 1 then i else d_nf t k (i + 1)
def d_n (t : Int32) : Nat := d_nf t 65 0
def d_nE (t : Int32) (i : Nat) : Prop := i ≤ 65 ∧ d_n t = d_nf t (65 - i) i
theorem d_nE_0 (t : Int32) : d_nE t 0 := ⟨by omega, rfl⟩
theorem d_nE_y {t : Int32} {i : Nat} (h : d_nE t i) (hi : i < 65) (hn : ¬ d_wk t i = nI 1) : d_nE t (i + 1) := by
  refine ⟨by omega, h.2.trans ?_⟩
  rw [show 65 - i = (65 - (i + 1)) + 1 by omega]
  show (if d_wk t i = nI 1 then i else d_nf t (65 - (i + 1)) (i + 1)) = _
  rw [if_neg hn]
theorem d_nE_n {t : Int32} {i : Nat} (h : d_nE t i) (hi : i < 65) (hn : d_wk t i = nI 1) : d_n t = i := by
  refine h.2.trans ?_
  rw [show 65 - i = (65 - (i + 1)) + 1 by omega]
  show (if d_wk t i = nI 1 then i else d_nf t (65 - (i + 1)) (i + 1)) = _
  rw [if_pos hn]
theorem d_nE_e {t : Int32} (h : d_nE t 65) : d_n t = 65 := h.2
def d_fr (d : Nat → Nat) : Nat := if d 0 = 1 then 65 else 1
def d_mk (d : Nat → Nat) : Nat := if d 0 = 1 then 2 else 1
/-- the disk behind k of the 65 writes -/
def d_dk (d sd : Nat → Nat) (k : Nat) : Nat → Nat := if k = 65 then va_up (va_cpy sd d 0 (d_fr d) 64) 0 (d_mk d) else va_cpy sd d 0 (d_fr d) k
def d_te (t : Int32) : Int32 := if d_n t = 65 then d_wk t 65 else nI 0
def d_re (t : Int32) : Nat := if d_n t = 65 then 1 else 0
theorem d_w1a {t : Int32} (h : ¬ t ≤ nI 1) : d_w1 t = t - nI 1 := if_pos (Int32.not_le.mp h)
theorem d_w1b {t : Int32} (h : t ≤ nI 1) : d_w1 t = t := if_neg (Int32.not_lt.mpr h)
theorem d_dk_bt {d sd : Nat → Nat} {k : Nat} (hk : k ≤ 65) (hd : g_bt 129 d) (hs : g_bt 64 sd) : g_bt 129 (d_dk d sd k) := by
  have hc : ∀ i, i ≤ 64 → g_bt 129 (va_cpy sd d 0 (d_fr d) i) := by
    intro i hi j hj
    by_cases h : d_fr d ≤ j ∧ j < d_fr d + i
    · rw [pk_cpy_in h.1 h.2]
      exact hs _ (by omega)
    · rw [pk_cpy_out (by omega)]
      exact hd j hj
  unfold d_dk
  split
  · intro j hj
    by_cases h : j = 0
    · rw [h, va_up_self]
      unfold d_mk
      split <;> decide
    · rw [va_up_ne _ _ h]
      exact hc 64 (by omega) j hj
  · exact hc k (by omega)
/-! the counter -/
def g_ctf (g : Nat → Nat) : Nat → Nat → Nat → Nat
  | 0, i => mx i (fun _ => 0) g
  | k + 1, i => if g i = 255 then g_ctf g k (i + 1) else va_up (mx i (fun _ => 0) g) i (g i + 1)
def g_ct (g : Nat → Nat) : Nat → Nat := g_ctf g 16 0
def g_cE (g : Nat → Nat) (i : Nat) : Prop := i ≤ 16 ∧ g_ct g = g_ctf g (16 - i) i
theorem g_cE_0 (g : Nat → Nat) : g_cE g 0 := ⟨by omega, rfl⟩
theorem g_cE_y {g : Nat → Nat} {i : Nat} (h : g_cE g i) (hi : i < 16) (hg : g i = 255) : g_cE g (i + 1) := by
  refine ⟨by omega, h.2.trans ?_⟩
  rw [show 16 - i = (16 - (i + 1)) + 1 by omega]
  show (if g i = 255 then g_ctf g (16 - (i + 1)) (i + 1) else _) = _
  rw [if_pos hg]
theorem g_cE_n {g : Nat → Nat} {i : Nat} (h : g_cE g i) (hi : i < 16) (hg : ¬ g i = 255) : g_ct g = va_up (mx i (fun _ => 0) g) i (g i + 1) := by
  refine h.2.trans ?_
  rw [show 16 - i = (16 - (i + 1)) + 1 by omega]
  show (if g i = 255 then g_ctf g (16 - (i + 1)) (i + 1) else _) = _
  rw [if_neg hg]
theorem g_cE_e {g : Nat → Nat} (h : g_cE g 16) : g_ct g = mx 16 (fun _ => 0) g := h.2
theorem g_ctf_bt {g : Nat → Nat} (h : g_bt 16 g) : ∀ k i, i + k = 16 → g_bt 16 (g_ctf g k i) := by
  intro k
  induction k with
  | zero =>
    intro i _ j hj
    show mx i (fun _ => 0) g j < 256
    by_cases h1 : j < i
    · rw [mx_lt h1]; decide
    · rw [mx_ge (by omega)]; exact h j hj
  | succ k ih =>
    intro i hi
    show g_bt 16 (if g i = 255 then g_ctf g k (i + 1) else va_up (mx i (fun _ => 0) g) i (g i + 1))
    split
    · exact ih (i + 1) (by omega)
    · intro j hj
      by_cases h1 : j = i
      · rw [h1, va_up_self]
        have := h i (by omega)
        omega
      · rw [va_up_ne _ _ h1]
        by_cases h2 : j < i
        · rw [mx_lt h2]; decide
        · rw [mx_ge (by omega)]; exact h j hj
theorem g_ct_bt {g : Nat → Nat} (h : g_bt 16 g) : g_bt 16 (g_ct g) := g_ctf_bt h 16 0 (by omega)
def g_cts (g : Nat → Nat) : Nat → Nat → Nat
  | 0 => g
  | b + 1 => g_ct (g_cts g b)
theorem g_cts_bt {g : Nat → Nat} (h : g_bt 16 g) (b : Nat) : g_bt 16 (g_cts g b) := by
  induction b with
  | zero => exact h
  | succ b ih => exact g_ct_bt ih
/-- whether the counter is not 0 -/
def g_sd (g : Nat → Nat) : Nat := if (List.range 16).all (fun i => g i == 0) = true then 0 else 1
theorem g_sd_1 {g : Nat → Nat} {i : Nat} (hi : i < 16) (h : ¬ g i = 0) : g_sd g = 1 := if_neg (fun q => h (by simpa using List.all_eq_true.mp q i (List.mem_range.mpr hi)))
theorem g_sd_0 {g : Nat → Nat} (h : ∀ i, i < 16 → g i = 0) : g_sd g = 0 := if_pos (List.all_eq_true.mpr (fun i hi => by simpa using h i (List.mem_range.mp hi)))
/-- GENERATING: b blocks into a row -/
def g_gen (K ctr gi : Nat → Nat) : Nat → Nat → Nat
  | 0 => gi
  | b + 1 => va_cpy (g_blk K (g_cts ctr b) 10) (g_gen K ctr gi b) 0 (16 * b) 16
def g_key (key ctr : Nat → Nat) (nb : Nat) : Nat → Nat := g_blk (g_sch key) (g_cts ctr nb) 10
theorem b_inc {x : Nat} (h : x < 256) : (nI x + nI 1) &&& nI 255 = nI ((x + 1) % 256) := by
  rw [nI_add]
  exact b_255 (by omega)
/-! the pools drawn -/
def r_nf (r : Nat) : Nat → Nat → Nat
  | 0, i => i
  | k + 1, i => if r % 2 ^ i = 0 then r_nf r k (i + 1) else i
def r_n (r : Nat) : Nat := r_nf r 32 0
def r_nE (r i : Nat) : Prop := i ≤ 32 ∧ r_n r = r_nf r (32 - i) i
theorem r_nE_0 (r : Nat) : r_nE r 0 := ⟨by omega, rfl⟩
theorem r_nE_y {r i : Nat} (h : r_nE r i) (hi : i < 32) (hr : r % 2 ^ i = 0) : r_nE r (i + 1) := by
  refine ⟨by omega, h.2.trans ?_⟩
  rw [show 32 - i = (32 - (i + 1)) + 1 by omega]
  show (if r % 2 ^ i = 0 then r_nf r (32 - (i + 1)) (i + 1) else i) = _
  rw [if_pos hr]
theorem r_nE_n {r i : Nat} (h : r_nE r i) (hi : i < 32) (hr : ¬ r % 2 ^ i = 0) : r_n r = i := by
  refine h.2.trans ?_
  rw [show 32 - i = (32 - (i + 1)) + 1 by omega]
  show (if r % 2 ^ i = 0 then r_nf r (32 - (i + 1)) (i + 1) else i) = _
  rw [if_neg hr]
theorem r_nE_e {r : Nat} (h : r_nE r 32) : r_n r = 32 := h.2
theorem r_nf_le (r : Nat) : ∀ k i, i + k = 32 → r_nf r k i ≤ 32 := by
  intro k
  induction k with
  | zero => intro i h; show i ≤ 32; omega
  | succ k ih =>
    intro i h
    show (if r % 2 ^ i = 0 then r_nf r k (i + 1) else i) ≤ 32
    split
    · exact ih _ (by omega)
    · omega
theorem r_n_le (r : Nat) : r_n r ≤ 32 := r_nf_le r 32 0 (by omega)
theorem r_mask : ∀ i, i < 32 → ((nI 1 <<< (nI i &&& 31)) - nI 1).toBitVec.toNat = 2 ^ i - 1 := by decide +kernel
theorem r_and {r i : Nat} (hr : r < 2 ^ 31) (hi : i < 32) : nI r &&& ((nI 1 <<< (nI i &&& 31)) - nI 1) = nI (r % 2 ^ i) := pk_andN (by omega) i (r_mask i hi)
def r_m (r i : Nat) : Nat := if r % 2 ^ i = 0 then 1 else 0
/-- the row that the pools' digests lie in -/
def r_row (pb : Nat → Nat → Nat) (len rr : Nat → Nat) : Nat → Nat → Nat
  | 0 => rr
  | i + 1 => va_cpy (h_tw (pb i) (len i)) (r_row pb len rr i) 0 (16 + 32 * i) 32
def d_pl (d : Nat → Nat) : Nat := if d 0 = 1 then 1 else if d 0 = 2 then 65 else 0
/-- a pool behind an event -/
def p_ev (g : Nat → Nat) (ln sr b : Nat) : Nat → Nat := va_up (va_up (va_up g ln sr) (ln + 1) 1) (ln + 2) b
theorem p_ev_a {g : Nat → Nat} {ln sr b : Nat} (j : Nat) : va_up (va_up (va_up g ln sr) (ln + 1) 1) (ln + 2) b j = p_ev g ln sr b j := rfl
theorem p_ev_b {g z : Nat → Nat} {ln sr b : Nat} (j : Nat) (hj : j < ln + 3) : va_up (va_up (va_up (va_cpy g z 0 0 ln) ln sr) (ln + 1) 1) (ln + 2) b j = p_ev g ln sr b j := by
  unfold p_ev
  by_cases h1 : j = ln + 2
  · rw [h1, va_up_self, va_up_self]
  · rw [va_up_ne _ _ h1, va_up_ne _ _ h1]
    by_cases h2 : j = ln + 1
    · rw [h2, va_up_self, va_up_self]
    · rw [va_up_ne _ _ h2, va_up_ne _ _ h2]
      by_cases h3 : j = ln
      · rw [h3, va_up_self, va_up_self]
      · rw [va_up_ne _ _ h3, va_up_ne _ _ h3, pk_cpy_in (by omega) (by omega)]
        congr 1; omega
def c_pt (ck ms : Int32) : Int32 := if 0 < ms ∧ ms ≤ 2147483647 - ck then ck + ms else ck
def c_du (l0 : Nat) (ck lt : Int32) : Nat := if 32 ≤ l0 ∧ (lt = -1 ∨ nI 100 ≤ ck - lt) then 1 else 0
theorem x_pl_c {G : xG} {pa ba cap len len' : Nat → Nat} {pb : Nat → Nat → Nat} (h : ∀ j, j < 32 → len j = len' j) : x_pl G pa ba cap len pb = x_pl G pa ba cap len' pb :=
  x_pl_ext (pa := pa) (ba := ba) (cap := cap) (len := len) (pb := pb) (x_pl_len ..) (fun j hj => by rw [x_pl_o G pa ba cap len pb hj, h j hj]) (fun j hj => x_pl_a G pa ba cap len pb hj)
theorem g_ctR {ctr : Nat → Nat} {i : Nat} (h : g_cE ctr i) (hi : i < 16) (hc : ctr i < 256) (hn : ¬ (ctr i + 1) % 256 = 0) : ∀ j, j < 16 → nA (va_up (mx i (fun _ => 0) ctr) i ((ctr i + 1) % 256)) j = nA (g_ct ctr) j := by
  intro j _
  rw [g_cE_n h hi (by omega), show (ctr i + 1) % 256 = ctr i + 1 by omega]
theorem g_ctX {ctr : Nat → Nat} (h : g_cE ctr 16) : ∀ j, j < 16 → nA (mx 16 (fun _ => 0) ctr) j = nA (g_ct ctr) j := by
  intro j _
  rw [g_cE_e h]
theorem r_m0 {r i : Nat} (h : r_m r i = 0) : ¬ r % 2 ^ i = 0 := fun q => by unfold r_m at h; rw [if_pos q] at h; cases h
theorem r_m1 {r i : Nat} (h : ¬ r_m r i = 0) : r % 2 ^ i = 0 := by
  by_cases q : r % 2 ^ i = 0
  · exact q
  · exact absurd (by unfold r_m; rw [if_neg q]) h
theorem r_m_lt (r i : Nat) : r_m r i < 2 := by unfold r_m; split <;> omega
/-- KEY and row in one row: bytes -/
theorem r_cpb {f g : Nat → Nat} {sp dp k e : Nat} (hf : ∀ j, j < k → f (sp + j) < 256) (hg : ∀ j, j < e → (j < dp ∨ dp + k ≤ j) → g j < 256) : ∀ j, j < e → va_cpy f g sp dp k j < 256 := by
  intro j hj
  by_cases h : dp ≤ j ∧ j < dp + k
  · rw [pk_cpy_in h.1 h.2]
    exact hf _ (by omega)
  · rw [pk_cpy_out (by omega)]
    exact hg j hj (by omega)
theorem r_rowb {pb : Nat → Nat → Nat} {len rr : Nat → Nat} (i : Nat) : ∀ j, 16 ≤ j → j < 16 + 32 * i → r_row pb len rr i j < 256 := by
  induction i with
  | zero => intro j h1 h2; omega
  | succ i ih =>
    intro j h1 h2
    show va_cpy (h_tw (pb i) (len i)) (r_row pb len rr i) 0 (16 + 32 * i) 32 j < 256
    by_cases h : 16 + 32 * i ≤ j
    · rw [pk_cpy_in h (by omega)]
      exact h_tw_lt _ _ _
    · rw [pk_cpy_out (by omega)]
      exact ih j h1 (by omega)
theorem r_drb {pb : Nat → Nat → Nat} {len rr key : Nat → Nat} (hk : g_bt 16 key) (i : Nat) : ∀ j, j < 16 + 32 * i → va_cpy key (r_row pb len rr i) 0 0 16 j < 256 :=
  r_cpb (fun j h => by rw [Nat.zero_add]; exact hk j h) (fun j h1 h2 => r_rowb i j (by omega) h1)
theorem c_pt_y {ck ms : Int32} (h1 : ¬ ms ≤ 0) (h2 : ¬ 2147483647 - ck < ms) : c_pt ck ms = ck + ms := if_pos ⟨Int32.not_le.mp h1, Int32.not_lt.mp h2⟩
theorem c_pt_a {ck ms : Int32} (h1 : ms ≤ 0) : c_pt ck ms = ck := if_neg (fun q => absurd h1 (Int32.not_le.mpr q.1))
theorem c_pt_b {ck ms : Int32} (h2 : 2147483647 - ck < ms) : c_pt ck ms = ck := if_neg (fun q => absurd h2 (Int32.not_lt.mpr q.2))
theorem c_du_0 {l0 : Nat} {ck lt : Int32} (h : l0 < 32) : nI 0 = nI (c_du l0 ck lt) := by unfold c_du; rw [if_neg (by omega)]
theorem c_du_1 {l0 : Nat} {ck lt : Int32} (h : 32 ≤ l0) (h2 : lt = -1) : nI 1 = nI (c_du l0 ck lt) := by unfold c_du; rw [if_pos ⟨h, Or.inl h2⟩]
theorem c_du_2 {l0 : Nat} {ck lt : Int32} (h : 32 ≤ l0) (h3 : ¬ ck - lt < nI 100) : nI 1 = nI (c_du l0 ck lt) := by unfold c_du; rw [if_pos ⟨h, Or.inr (Int32.not_lt.mp h3)⟩]
theorem c_du_3 {l0 : Nat} {ck lt : Int32} (h2 : ¬ lt = -1) (h3 : ck - lt < nI 100) : nI 0 = nI (c_du l0 ck lt) := by unfold c_du; rw [if_neg (fun q => q.2.elim h2 (fun z => absurd h3 (Int32.not_lt.mpr z)))]
theorem r_wb {key f rr : Nat → Nat} {fr cnt : Nat} (hk : g_bt 16 key) (hf : ∀ j, j < cnt → f (fr + j) < 256) : ∀ j, j < 16 + cnt → va_cpy key (va_cpy f rr fr 16 cnt) 0 0 16 j < 256 :=
  r_cpb (fun j h => by rw [Nat.zero_add]; exact hk j h) (fun j h1 h2 => by rw [pk_cpy_in (by omega) (by omega)]; exact hf _ (by omega))
theorem r_nE_x {r i : Nat} (h : r_nE r i) (hi : 32 ≤ i) : r_n r = i := by
  have h1 := h.1
  obtain rfl : i = 32 := by omega
  exact r_nE_e h
theorem x_ix {x : Int32} {n : Nat} (h1 : ¬ x < 0) (h2 : ¬ nI n ≤ x) (hn : n < 2 ^ 31) : ∃ j : Nat, j < n ∧ x = nI j := by
  rcases pk_ix x hn with h | h | h
  · exact absurd h h1
  · exact absurd h h2
  · exact h
def c_by (x : Int32) : Nat := if ¬ x < 0 ∧ ¬ nI 255 < x then 1 else 0
def c_po (x : Int32) : Nat := if ¬ x < 0 ∧ ¬ nI 32 ≤ x then 1 else 0
theorem c_by_y {x : Int32} (h1 : ¬ x < 0) (h2 : ¬ nI 255 < x) : nI 1 = nI (c_by x) := by unfold c_by; rw [if_pos ⟨h1, h2⟩]
theorem c_by_a {x : Int32} (h1 : x < 0) : nI 0 = nI (c_by x) := by unfold c_by; rw [if_neg (fun q => q.1 h1)]
theorem c_by_b {x : Int32} (h2 : nI 255 < x) : nI 0 = nI (c_by x) := by unfold c_by; rw [if_neg (fun q => q.2 h2)]
theorem c_po_y {x : Int32} (h1 : ¬ x < 0) (h2 : ¬ nI 32 ≤ x) : nI 1 = nI (c_po x) := by unfold c_po; rw [if_pos ⟨h1, h2⟩]
theorem c_po_a {x : Int32} (h1 : x < 0) : nI 0 = nI (c_po x) := by unfold c_po; rw [if_neg (fun q => q.1 h1)]
theorem c_po_b {x : Int32} (h2 : nI 32 ≤ x) : nI 0 = nI (c_po x) := by unfold c_po; rw [if_neg (fun q => q.2 h2)]
theorem c_by_n {k : Nat} (h : k < 256) : c_by (nI k) = 1 := if_pos ⟨nI_pos (by omega), fun q => absurd ((nI_ltI (by decide) (by omega)).mp q) (by omega)⟩
theorem c_po_n {k : Nat} (h : k < 32) : c_po (nI k) = 1 := if_pos ⟨nI_pos (by omega), fun q => absurd ((nI_leI (by decide) (by omega)).mp q) (by omega)⟩
theorem c_by_le (x : Int32) : c_by x < 2 := by unfold c_by; split <;> omega
theorem c_po_le (x : Int32) : c_po x < 2 := by unfold c_po; split <;> omega
def c_at (f : Nat → Nat) (n : Nat) (x : Int32) : Int32 := if ¬ x < 0 ∧ ¬ nI n ≤ x then nI (f x.toNatClampNeg) else -1
theorem c_at_y {f : Nat → Nat} {n k : Nat} (h : k < n) (hn : n < 2 ^ 31) : nI (f k) = c_at f n (nI k) := by
  unfold c_at
  rw [if_pos ⟨nI_pos (by omega), fun q => absurd ((nI_leI hn (by omega)).mp q) (by omega)⟩, nI_clamp (by omega)]
theorem c_at_a {f : Nat → Nat} {n : Nat} {x : Int32} (h1 : x < 0) : (-1) = c_at f n x := by unfold c_at; rw [if_neg (fun q => q.1 h1)]
theorem c_at_b {f : Nat → Nat} {n : Nat} {x : Int32} (h2 : nI n ≤ x) : (-1) = c_at f n x := by unfold c_at; rw [if_neg (fun q => q.2 h2)]
theorem g_sd_lt (g : Nat → Nat) : g_sd g < 2 := by unfold g_sd; split <;> omega
theorem c_du_lt (l0 : Nat) (ck lt : Int32) : c_du l0 ck lt < 2 := by unfold c_du; split <;> omega
theorem d_re_y {t : Int32} (h : d_n t = 65) : d_re t = 1 := if_pos h
theorem d_re_n {t : Int32} (h : ¬ d_n t = 65) : d_re t = 0 := if_neg h
theorem d_te_y {t : Int32} (h : d_n t = 65) : d_te t = d_wk t 65 := if_pos h
theorem d_te_n {t : Int32} (h : ¬ d_n t = 65) : d_te t = nI 0 := if_neg h
theorem g_key_bt {key ctr : Nat → Nat} (hk : g_bt 16 key) (hc : g_bt 16 ctr) (b : Nat) : g_bt 16 (g_key key ctr b) := g_blk_bt (g_sch_bt hk) (g_cts_bt hc b) 10
