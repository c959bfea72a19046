/-! What the reference computes, by the same numbers. -/
def c_in (x : Int32) (n : Nat) : Nat := if ¬ x < 0 ∧ ¬ nI n ≤ x then 1 else 0
theorem c_in_y {x : Int32} {n : Nat} (h1 : ¬ x < 0) (h2 : ¬ nI n ≤ x) : nI 1 = nI (c_in x n) := by unfold c_in; rw [if_pos ⟨h1, h2⟩]
theorem c_in_a {x : Int32} {n : Nat} (h1 : x < 0) : nI 0 = nI (c_in x n) := by unfold c_in; rw [if_neg (fun q => q.1 h1)]
theorem c_in_b {x : Int32} {n : Nat} (h2 : nI n ≤ x) : nI 0 = nI (c_in x n) := by unfold c_in; rw [if_neg (fun q => q.2 h2)]
theorem c_in_n {k n : Nat} (h : k < n) (hn : n < 2 ^ 31) : c_in (nI k) n = 1 := if_pos ⟨nI_pos (by omega), fun q => absurd ((nI_leI hn (by omega)).mp q) (by omega)⟩
theorem c_in_le (x : Int32) (n : Nat) : c_in x n < 2 := by unfold c_in; split <;> omega
theorem c_in_1 {x : Int32} {n : Nat} (h : c_in x n = 1) (hn : n < 2 ^ 31) : ∃ j : Nat, j < n ∧ x = nI j := by
  by_cases q : ¬ x < 0 ∧ ¬ nI n ≤ x
  · exact x_ix q.1 q.2 hn
  · unfold c_in at h
    rw [if_neg q] at h
    cases h
theorem c_at_0 {f : Nat → Nat} {n : Nat} {x : Int32} (h : c_in x n = 0) : (-1) = c_at f n x := by
  unfold c_at
  rw [if_neg (fun q => by unfold c_in at h; rw [if_pos q] at h; cases h)]
theorem h_rt (x k : Int32) : b_us x k ||| (x <<< ((nI 32 - k) &&& 31)) = h_r x k := by
  unfold h_r
  have e : (nI 32 - k) &&& 31 = -k &&& 31 := by
    rw [pk_and _ 5 (by decide), pk_and _ 5 (by decide)]
    congr 1
    have h := k.toBitVec.isLt
    have e1 : (nI 32 - k).toBitVec.toNat = (2 ^ 32 - k.toBitVec.toNat + 32) % 2 ^ 32 := by
      show (BitVec.ofNat 32 32 - k.toBitVec).toNat = _
      rw [BitVec.toNat_sub]
      rfl
    have e2 : (-k).toBitVec.toNat = (2 ^ 32 - k.toBitVec.toNat) % 2 ^ 32 := by
      show (-k.toBitVec).toNat = _
      rw [BitVec.toNat_neg]
    rw [e1, e2]
    omega
  rw [e]
theorem h_w4 {P : Nat → Nat} (hP : ∀ j, P j < 256) (p : Nat) : (((nI (P p) <<< (nI 24 &&& 31)) ||| (nI (P (p + 1)) <<< (nI 16 &&& 31))) ||| (nI (P (p + 2)) <<< (nI 8 &&& 31))) ||| nI (P (p + 3)) = nI (h_ac P p 4) := by
  have h0 := hP p
  have h1 := hP (p + 1)
  have h2 := hP (p + 2)
  have h3 := hP (p + 3)
  rw [b_shl 24 (by decide) (by omega), b_shl 16 (by decide) (by omega), b_shl 8 (by decide) (by omega)]
  rw [b_or (k := 24) (by omega), show P p * 2 ^ 24 + P (p + 1) * 2 ^ 16 = (P p * 2 ^ 8 + P (p + 1)) * 2 ^ 16 by omega, b_or (k := 16) (by omega)]
  rw [show (P p * 2 ^ 8 + P (p + 1)) * 2 ^ 16 + P (p + 2) * 2 ^ 8 = ((P p * 2 ^ 8 + P (p + 1)) * 2 ^ 8 + P (p + 2)) * 2 ^ 8 by omega, b_or (k := 8) (by omega)]
  refine congrArg nI ?_
  show _ = (((0 * 256 + P p) * 256 + P (p + 1)) * 256 + P (p + 2)) * 256 + P (p + 3)
  omega
theorem h_all (n : Nat) : (n + 9 + 63) / 64 * 64 = h_tot n := by unfold h_tot; omega
theorem h_dg_congr {f g : Nat → Nat} {n : Nat} (h : ∀ j, j < n → f j = g j) : h_dg f n = h_dg g n := by unfold h_dg; rw [h_P_congr h]
theorem h_twM {f : Nat → Nat} {n : Nat} : ∀ j, j < 32 → nA (h_dg (mx 32 (h_dg f n) f) 32) j = nA (h_tw f n) j := fun j _ => congrArg nI (congrFun (h_dg_congr (fun j hj => mx_lt hj)) j)
theorem h_twC {f g : Nat → Nat} {n m : Nat} (h : ∀ j, j < n → f j = g j) : ∀ j, j < m → nA (h_tw f n) j = nA (h_tw g n) j := fun j _ => by rw [h_tw_congr h]
/-! times, and the table -/
def g_tmk : Nat → Nat → Nat → Nat → Nat
  | 0, s, _, _ => s
  | j + 1, s, x, k => g_tmk j (s ^^^ (k % 2 * x)) ((x * 2) ^^^ (x / 128 * 283)) (k / 2)
def g_tm (a b : Nat) : Nat := g_tmk 8 0 a b
theorem g_tmk_0 (j : Nat) : ∀ s x, g_tmk j s x 0 = s := by
  induction j with
  | zero => intro s x; rfl
  | succ j ih =>
    intro s x
    show g_tmk j (s ^^^ (0 % 2 * x)) _ (0 / 2) = s
    rw [Nat.zero_mod, Nat.zero_mul, Nat.xor_zero, Nat.zero_div]
    exact ih _ _
theorem g_x2k : ∀ x : Nat, x < 256 → g_x2 x = (x * 2) ^^^ (x / 128 * 283) := by decide +kernel
theorem g_tmk_s (j s : Nat) {x : Nat} (k : Nat) (hx : x < 256) : g_tmk (j + 1) s x k = g_tmk j (s ^^^ (k % 2 * x)) (g_x2 x) (k / 2) := by
  rw [g_x2k x hx]
  rfl
theorem g_tmk_lt (j : Nat) : ∀ s x k, s < 256 → x < 256 → g_tmk j s x k < 256 := by
  induction j with
  | zero => intro s x k h _; exact h
  | succ j ih =>
    intro s x k h1 h2
    rw [g_tmk_s j s k h2]
    refine ih _ _ _ (g_xl h1 ?_) (g_x2_lt _ h2)
    rcases (show k % 2 = 0 ∨ k % 2 = 1 by omega) with h | h
    · rw [h, Nat.zero_mul]; decide
    · rw [h, Nat.one_mul]; exact h2
theorem g_tm_lt {a : Nat} (b : Nat) (h : a < 256) : g_tm a b < 256 := g_tmk_lt 8 0 a b (by decide) h
theorem g_tm2 : ∀ b, b < 256 → g_tm b 2 = g_x2 b := by decide +kernel
theorem g_tm3 : ∀ b, b < 256 → g_tm b 3 = g_x2 b ^^^ b := by decide +kernel
def g_pwr (b : Nat) : Nat → Nat
  | 0 => 1
  | k + 1 => g_tm (g_pwr b k) b
theorem g_pwr_lt (b k : Nat) : g_pwr b k < 256 := by
  induction k with
  | zero => show 1 < 256; decide
  | succ k ih => exact g_tm_lt b ih
def g_bi (c i : Nat) : Nat := (((((c / 2 ^ i ^^^ c / 2 ^ ((i + 4) % 8)) ^^^ c / 2 ^ ((i + 5) % 8)) ^^^ c / 2 ^ ((i + 6) % 8)) ^^^ c / 2 ^ ((i + 7) % 8)) ^^^ 99 / 2 ^ i) % 2 * 2 ^ i
def g_ts (c : Nat) : Nat → Nat
  | 0 => 0
  | i + 1 => g_ts c i + g_bi c i
theorem g_bi_le (c : Nat) {i : Nat} (hi : i < 8) : g_bi c i ≤ 2 ^ i := by
  unfold g_bi
  have : ∀ z : Nat, z % 2 * 2 ^ i ≤ 2 ^ i := fun z => by
    rcases (show z % 2 = 0 ∨ z % 2 = 1 by omega) with h | h
    · rw [h, Nat.zero_mul]; exact Nat.zero_le _
    · rw [h, Nat.one_mul]; exact Nat.le_refl _
  exact this _
theorem g_ts_lt (c : Nat) : ∀ i, i ≤ 8 → g_ts c i < 2 ^ i := by
  intro i
  induction i with
  | zero => intro _; exact Nat.one_pos
  | succ i ih =>
    intro h
    have h1 := ih (by omega)
    have h2 := g_bi_le c (i := i) (by omega)
    show g_ts c i + g_bi c i < 2 ^ (i + 1)
    rw [Nat.pow_succ]
    omega
def g_rd (rd : Nat) (tt : Nat → Nat) : Prop := rd = 0 ∨ (rd = 1 ∧ ∀ j, j < 256 → tt j = k_S j)
theorem b_xor (x y : Nat) : nI x ^^^ nI y = nI (x ^^^ y) := Int32.toBitVec_inj.mp (by simp [nI, BitVec.ofNat_xor])
theorem b_and1 {n : Nat} (h : n < 2 ^ 32) : nI n &&& nI 1 = nI (n % 2) := pk_andN h 1 (by decide)
theorem b_xl (a b c : Nat) : a ^^^ (b ^^^ c) = b ^^^ (a ^^^ c) := by rw [← Nat.xor_assoc, Nat.xor_comm a b, Nat.xor_assoc]
theorem g_x2E {a b : Nat} (ha : a < 256) (hb : b < 256) : g_x2 (a ^^^ b) = g_x2 a ^^^ g_x2 b := by
  rw [g_x2k a ha, g_x2k b hb, g_x2k _ (g_xl ha hb)]
  have e1 : (a ^^^ b) * 2 = (a * 2) ^^^ (b * 2) := by
    have := Nat.shiftLeft_xor_distrib (a := a) (b := b) (i := 1)
    rw [Nat.shiftLeft_eq, Nat.shiftLeft_eq, Nat.shiftLeft_eq] at this
    exact this
  have e2 : (a ^^^ b) / 128 = (a / 128) ^^^ (b / 128) := by
    have := Nat.shiftRight_xor_distrib (a := a) (b := b) (i := 7)
    rw [Nat.shiftRight_eq_div_pow, Nat.shiftRight_eq_div_pow, Nat.shiftRight_eq_div_pow] at this
    exact this
  rw [e1, e2]
  have h1 : a / 128 = 0 ∨ a / 128 = 1 := by omega
  have h2 : b / 128 = 0 ∨ b / 128 = 1 := by omega
  rcases h1 with h1 | h1 <;> rcases h2 with h2 | h2 <;> rw [h1, h2] <;> simp [Nat.xor_assoc, Nat.xor_comm, b_xl]
section XM
variable {p : Program} {l : Launch} {e : Env} {R : Room} {s : State} {m : MethodId} {args : Array Value} {below : List Frame} {meth : Method} {c : Code} {H : Heap} {locs : List Loc} {cells slots : Nat} {Q : State → Prop}
variable {cc : ByteArray} {pc : Nat} {ls : Array Slot} {rest : List Value} {nL : Nat} {own : String}
theorem x_ifle (E : CallFix p m c cc nL s args gg_L own) {x : Nat} {off : Int} {tgt : Nat} (hdg : decode cc pc = .ok (.ifCond .le off, 3)) (ht : (pc : Int) + off = (tgt : Int)) (hx : x < 2 ^ 31) (kt : x = 0 → W p l e R s m args below meth c H locs cells slots Q (F0 m tgt ls rest)) (kf : ¬ x = 0 → W p l e R s m args below meth c H locs cells slots Q (F0 m (pc + 3) ls rest)) : W p l e R s m args below meth c H locs cells slots Q (F0 m pc ls (.int (nI x) :: rest)) :=
  lv_if_le E.1 E.2.1 hdg ht (fun h => kt (by rw [← nI_0] at h; exact Nat.le_zero.mp ((nI_leI hx (by decide)).mp h))) (fun h => kf (fun q => h (by rw [q, nI_0]; exact Int32.le_refl _)))
end XM
theorem g_tmN {j sm x k T sm' x' : Nat} (hE : g_tmk j sm x k = T) (hj : 0 < j) (hx : x < 256) (h1 : sm' = sm ^^^ (k % 2 * x)) (h2 : x' = g_x2 x) : g_tmk (j - 1) sm' x' (k / 2) = T := by
  obtain ⟨i, rfl⟩ : ∃ i, j = i + 1 := ⟨j - 1, by omega⟩
  rw [h1, h2, ← hE, g_tmk_s i sm k hx]
  rfl
theorem g_tmH {k j : Nat} (hk : k < 2 ^ j) (hj : 0 < j) : k / 2 < 2 ^ (j - 1) := by
  obtain ⟨i, rfl⟩ : ∃ i, j = i + 1 := ⟨j - 1, by omega⟩
  rw [Nat.pow_succ] at hk
  show k / 2 < 2 ^ i
  omega
theorem g_tmP {k j : Nat} (hk : k < 2 ^ j) (h0 : ¬ k = 0) : 0 < j := by
  rcases Nat.eq_zero_or_pos j with h | h
  · rw [h] at hk; omega
  · exact h
theorem g_b5 {c : Nat} (hc : c < 256) (i : Nat) : (((((c / 2 ^ i ^^^ c / 2 ^ ((i + 4) % 8)) ^^^ c / 2 ^ ((i + 5) % 8)) ^^^ c / 2 ^ ((i + 6) % 8)) ^^^ c / 2 ^ ((i + 7) % 8)) ^^^ 99 / 2 ^ i) < 256 := by
  have h : ∀ k, c / 2 ^ k < 256 := fun k => Nat.lt_of_le_of_lt (Nat.div_le_self _ _) hc
  exact g_xl (g_xl (g_xl (g_xl (g_xl (h _) (h _)) (h _)) (h _)) (h _)) (Nat.lt_of_le_of_lt (Nat.div_le_self _ _) (by decide))
theorem g_shb (z : Nat) {i : Nat} (hi : i < 8) : z % 2 * 2 ^ i < 2 ^ 32 := by
  have h1 : 2 ^ i ≤ 2 ^ 7 := Nat.pow_le_pow_right (by decide) (by omega)
  rcases (show z % 2 = 0 ∨ z % 2 = 1 by omega) with h | h
  · rw [h, Nat.zero_mul]; decide
  · rw [h, Nat.one_mul]; omega
theorem g_smE (g : Nat → Nat) {z k : Nat} (hz : z < 4) (hk : k < 4) : k_S (g (4 * ((z + k) % 4) + k)) = g_sm g (4 * z + k) := by
  unfold g_sm
  rw [show (4 * z + k + 4 * ((4 * z + k) % 4)) % 16 = 4 * ((z + k) % 4) + k by omega]
theorem g_mcE {g : Nat → Nat} (hg : g_bt 16 g) {i : Nat} (hi : i < 16) : ((g_tm (g (i / 4 * 4 + i % 4)) 2 ^^^ g_tm (g (i / 4 * 4 + (i % 4 + 1) % 4)) 3) ^^^ g (i / 4 * 4 + (i % 4 + 2) % 4)) ^^^ g (i / 4 * 4 + (i % 4 + 3) % 4) = g_mc g i := by
  have hb : ∀ k, k < 16 → g k < 256 := hg
  rw [g_tm2 _ (hb _ (by omega)), g_tm3 _ (hb _ (by omega))]
  unfold g_mc
  rw [g_x2E (hb _ (by omega)) (hb _ (by omega))]
  have hz := hb (i / 4 * 4) (by omega)
  rcases (show i % 4 = 0 ∨ i % 4 = 1 ∨ i % 4 = 2 ∨ i % 4 = 3 by omega) with h | h | h | h
  · rw [show (i + 1) % 4 = 1 by omega, h]
    simp only [Nat.add_zero, Nat.zero_add, Nat.reduceAdd, Nat.reduceMod]
    generalize g (i / 4 * 4) = a
    generalize g (i / 4 * 4 + 1) = b
    generalize g (i / 4 * 4 + 2) = c
    generalize g (i / 4 * 4 + 3) = d
    rw [show a ^^^ (((a ^^^ b) ^^^ c) ^^^ d) = (b ^^^ c) ^^^ d by simp only [Nat.xor_assoc, ← Nat.xor_assoc a a, Nat.xor_self, Nat.zero_xor]]
    simp only [Nat.xor_assoc, Nat.xor_comm, b_xl]
  · rw [show (i + 1) % 4 = 2 by omega, h]
    simp only [Nat.add_zero, Nat.zero_add, Nat.reduceAdd, Nat.reduceMod]
    generalize g (i / 4 * 4) = a
    generalize g (i / 4 * 4 + 1) = b
    generalize g (i / 4 * 4 + 2) = c
    generalize g (i / 4 * 4 + 3) = d
    rw [show b ^^^ (((a ^^^ b) ^^^ c) ^^^ d) = (a ^^^ c) ^^^ d by rw [Nat.xor_comm a b]; simp only [Nat.xor_assoc, ← Nat.xor_assoc b b, Nat.xor_self, Nat.zero_xor]]
    simp only [Nat.xor_assoc, Nat.xor_comm, b_xl]
  · rw [show (i + 1) % 4 = 3 by omega, h]
    simp only [Nat.add_zero, Nat.zero_add, Nat.reduceAdd, Nat.reduceMod]
    generalize g (i / 4 * 4) = a
    generalize g (i / 4 * 4 + 1) = b
    generalize g (i / 4 * 4 + 2) = c
    generalize g (i / 4 * 4 + 3) = d
    rw [show c ^^^ (((a ^^^ b) ^^^ c) ^^^ d) = (a ^^^ b) ^^^ d by rw [Nat.xor_comm (a ^^^ b) c]; simp only [Nat.xor_assoc, ← Nat.xor_assoc c c, Nat.xor_self, Nat.zero_xor]]
    simp only [Nat.xor_assoc, Nat.xor_comm, b_xl]
  · rw [show (i + 1) % 4 = 0 by omega, h]
    simp only [Nat.add_zero, Nat.zero_add, Nat.reduceAdd, Nat.reduceMod]
    generalize g (i / 4 * 4) = a
    generalize g (i / 4 * 4 + 1) = b
    generalize g (i / 4 * 4 + 2) = c
    generalize g (i / 4 * 4 + 3) = d
    rw [show d ^^^ (((a ^^^ b) ^^^ c) ^^^ d) = (a ^^^ b) ^^^ c by rw [Nat.xor_comm _ d, ← Nat.xor_assoc d d, Nat.xor_self, Nat.zero_xor]]
    simp only [Nat.xor_assoc, Nat.xor_comm, b_xl]
theorem g_bkE {K ctr : Nat → Nat} {r i v : Nat} (h : v = (if r + 1 < 10 then g_mc (g_sm (g_blk K ctr r)) else g_sm (g_blk K ctr r)) i) : v ^^^ K (16 * (r + 1) + i) = g_blk K ctr (r + 1) i := by
  rw [h, Nat.mul_comm 16]
  rfl
def g_sum (g : Nat → Nat) : Nat → Nat
  | 0 => 0
  | i + 1 => g_sum g i + g i
theorem g_sum_le {g : Nat → Nat} (h : g_bt 16 g) : ∀ i, i ≤ 16 → g_sum g i ≤ 255 * i := by
  intro i
  induction i with
  | zero => intro _; exact Nat.le_refl _
  | succ i ih =>
    intro hi
    have h1 := ih (by omega)
    have h2 := h i (by omega)
    show g_sum g i + g i ≤ 255 * (i + 1)
    omega
theorem g_sum_0 {g : Nat → Nat} : ∀ i, g_sum g i = 0 → ∀ j, j < i → g j = 0 := by
  intro i
  induction i with
  | zero => intro _ j hj; omega
  | succ i ih =>
    intro h j hj
    have h' : g_sum g i + g i = 0 := h
    by_cases e : j = i
    · subst e; omega
    · exact ih (by omega) j (by omega)
theorem g_sum_n {g : Nat → Nat} : ∀ i, (∀ j, j < i → g j = 0) → g_sum g i = 0 := by
  intro i
  induction i with
  | zero => intro _; rfl
  | succ i ih =>
    intro h
    show g_sum g i + g i = 0
    rw [ih (fun j hj => h j (by omega)), h i (by omega)]
theorem g_sdS0 {g : Nat → Nat} (h : g_sum g 16 = 0) : g_sd g = 0 := g_sd_0 (g_sum_0 16 h)
theorem g_sdS1 {g : Nat → Nat} (h : ¬ g_sum g 16 = 0) : g_sd g = 1 := by
  have := g_sd_lt g
  rcases (show g_sd g = 0 ∨ g_sd g = 1 by omega) with q | q
  · exfalso
    refine h (g_sum_n 16 (fun j hj => ?_))
    by_cases e : g j = 0
    · exact e
    · have := g_sd_1 hj e; omega
  · exact q
