/-- byte i of what is generated -/
def g_out (K ctr : Nat → Nat) : Nat → Nat := fun i => g_blk K (g_cts ctr (i / 16)) 10 (i % 16)
theorem g_genE (K ctr gi : Nat → Nat) : ∀ b i, i < 16 * b → g_gen K ctr gi b i = g_out K ctr i := by
  intro b
  induction b with
  | zero => intro i h; omega
  | succ b ih =>
    intro i h
    show va_cpy (g_blk K (g_cts ctr b) 10) (g_gen K ctr gi b) 0 (16 * b) 16 i = _
    by_cases h1 : 16 * b ≤ i
    · rw [pk_cpy_in h1 (by omega)]
      unfold g_out
      rw [show i / 16 = b by omega, show 0 + (i - 16 * b) = i % 16 by omega]
    · rw [pk_cpy_out (by omega)]
      exact ih i (by omega)
theorem g_mdE {key ctr md : Nat → Nat} {nb i : Nat} (h : i < 16 * nb) (h2 : i < 256) : va_cpy (g_key key ctr nb) (g_gen (g_sch key) ctr md nb) 0 256 16 i = g_out (g_sch key) ctr i := by
  rw [pk_cpy_out (by omega)]
  exact g_genE _ _ _ nb i h
theorem g_out_lt {K ctr : Nat → Nat} (hK : ∀ j, K j < 256) (hc : g_bt 16 ctr) (i : Nat) : g_out K ctr i < 256 := g_blk_bt hK (g_cts_bt hc _) 10 _ (by omega)
theorem d_cpc {d sd sd' : Nat → Nat} {f k : Nat} (h : ∀ i, i < k → sd i = sd' i) : va_cpy sd d 0 f k = va_cpy sd' d 0 f k := by
  funext j
  by_cases q : f ≤ j ∧ j < f + k
  · rw [pk_cpy_in q.1 q.2, pk_cpy_in q.1 q.2, h _ (by omega)]
  · rw [pk_cpy_out (by omega), pk_cpy_out (by omega)]
theorem d_dkc {d sd sd' : Nat → Nat} {k : Nat} (hk : k ≤ 65) (h : ∀ i, i < 64 → sd i = sd' i) : d_dk d sd k = d_dk d sd' k := by
  unfold d_dk
  split
  · rw [d_cpc h]
  · exact d_cpc (fun i hi => h i (by omega))
theorem d_nf_le (t : Int32) : ∀ k i, i + k = 65 → d_nf t k i ≤ 65 := by
  intro k
  induction k with
  | zero => intro i h; show i ≤ 65; omega
  | succ k ih =>
    intro i h
    show (if d_wk t i = nI 1 then i else d_nf t k (i + 1)) ≤ 65
    split
    · omega
    · exact ih _ (by omega)
theorem d_n_le (t : Int32) : d_n t ≤ 65 := d_nf_le t 65 0 (by omega)
/-- the digests of the pools, one behind the other -/
def r_dc (pb : Nat → Nat → Nat) (len : Nat → Nat) : Nat → Nat := fun j => h_tw (pb (j / 32)) (len (j / 32)) (j % 32)
def r_PP (pp : Nat → Nat) : Nat → Nat → Nat := fun p i => pp (1600 * p + i)
def r_dn (pp len dr : Nat → Nat) : Nat → Nat → Nat
  | 0 => dr
  | i + 1 => va_cpy (h_tw (r_PP pp i) (len i)) (r_dn pp len dr i) 0 (32 * i) 32
theorem r_dnE (pp len dr : Nat → Nat) : ∀ i j, j < 32 * i → r_dn pp len dr i j = r_dc (r_PP pp) len j := by
  intro i
  induction i with
  | zero => intro j h; omega
  | succ i ih =>
    intro j h
    show va_cpy (h_tw (r_PP pp i) (len i)) (r_dn pp len dr i) 0 (32 * i) 32 j = _
    by_cases h1 : 32 * i ≤ j
    · rw [pk_cpy_in h1 (by omega)]
      unfold r_dc
      rw [show j / 32 = i by omega, show 0 + (j - 32 * i) = j % 32 by omega]
    · rw [pk_cpy_out (by omega)]
      exact ih j (by omega)
theorem r_dc_lt (pb : Nat → Nat → Nat) (len : Nat → Nat) (j : Nat) : r_dc pb len j < 256 := h_tw_lt _ _ _
theorem r_krc {key dr dr' : Nat → Nat} {n : Nat} (h : ∀ j, j < n → dr j = dr' j) : ∀ j, j < 16 + n → r_kr key dr j = r_kr key dr' j := by
  intro j hj
  unfold r_kr
  split
  · rfl
  · exact h _ (by omega)
theorem r_twc {key dr dr' : Nat → Nat} {n : Nat} (h : ∀ j, j < n → dr j = dr' j) : h_tw (r_kr key dr) (16 + n) = h_tw (r_kr key dr') (16 + n) := h_tw_congr (r_krc h)
theorem r_twF {key dr dr' : Nat → Nat} {n m : Nat} (h : ∀ j, j < n → dr j = dr' j) : ∀ j, j < m → nA (h_tw (r_kr key dr) (16 + n)) j = nA (h_tw (r_kr key dr') (16 + n)) j := fun j _ => by rw [r_twc h]
/-- as few pools are drawn as their number's powers of two -/
theorem r_pow {r i : Nat} (h0 : 0 < r) (hr : r < 1024) (h : r % 2 ^ i = 0) : i ≤ 9 := by
  have h1 : 2 ^ i ≤ r := Nat.le_of_dvd h0 (Nat.dvd_of_mod_eq_zero h)
  rcases Nat.lt_or_ge 9 i with q | q
  · have : 2 ^ 10 ≤ 2 ^ i := Nat.pow_le_pow_right (by decide) q
    omega
  · exact q
theorem r_p2 {i : Nat} (hi : i ≤ 10) : 2 ^ i ≤ 1024 := Nat.pow_le_pow_right (n := 2) (by decide) hi
theorem d_w1m {t : Int32} (h1 : ¬ t = nI 1) (h : ¬ t ≤ 0) : t - nI 1 = d_w1 t := by
  unfold d_w1
  rw [if_pos]
  have h2 : ¬ t ≤ nI 1 := by
    intro q
    have a := Int32.le_iff_toInt_le.mp q
    have b := Int32.lt_iff_toInt_lt.mp (Int32.not_le.mp h)
    rw [nI_toInt (by decide)] at a
    have c : (0 : Int32).toInt = 0 := by decide
    rw [c] at b
    exact h1 (Int32.toInt_inj.mp (by rw [nI_toInt (by decide)]; omega))
  exact Int32.not_le.mp h2
theorem d_w1o {t : Int32} (h : t ≤ 0) : t - nI 0 = d_w1 t := by
  unfold d_w1
  rw [if_neg, nI_0, Int32.sub_zero]
  intro q
  have a := Int32.le_iff_toInt_le.mp h
  have b := Int32.lt_iff_toInt_lt.mp q
  rw [nI_toInt (by decide)] at b
  have c : (0 : Int32).toInt = 0 := by decide
  rw [c] at a
  omega
theorem d_pl_1 {d : Nat → Nat} (h : d 0 = 1) : d_pl d = 64 * d 0 - 63 := by unfold d_pl; rw [if_pos h, h]
theorem d_pl_2 {d : Nat → Nat} (h : d 0 = 2) : d_pl d = 64 * d 0 - 63 := by unfold d_pl; rw [if_neg (by omega), if_pos h, h]
theorem d_pl_0 {d : Nat → Nat} (h1 : ¬ d 0 = 1) (h2 : ¬ d 0 = 2) : d_pl d = 0 := by unfold d_pl; rw [if_neg h1, if_neg h2]
theorem d_pl_n {d : Nat → Nat} (h : ¬ d_pl d = 0) : d_pl d = 64 * d 0 - 63 ∧ 1 ≤ d 0 ∧ d 0 ≤ 2 := by
  by_cases h1 : d 0 = 1
  · exact ⟨d_pl_1 h1, by omega, by omega⟩
  · by_cases h2 : d 0 = 2
    · exact ⟨d_pl_2 h2, by omega, by omega⟩
    · exact absurd (d_pl_0 h1 h2) h
theorem c_ptb {ck ms : Int32} (h : 2147483647 - ck < ms) : ck + nI 0 = c_pt ck ms := by rw [c_pt_b h, nI_0, Int32.add_zero]
theorem c_pta {ck ms : Int32} (h : ms ≤ 0) : ck + nI 0 = c_pt ck ms := by rw [c_pt_a h, nI_0, Int32.add_zero]
