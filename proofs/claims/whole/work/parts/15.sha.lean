/-! The digest. -/
def h_r (x k : Int32) : Int32 := b_us x k ||| (x <<< (-k &&& 31))
def h_s0 (x : Int32) : Int32 := h_r x (nI 7) ^^^ h_r x (nI 18) ^^^ b_us x (nI 3)
def h_s1 (x : Int32) : Int32 := h_r x (nI 17) ^^^ h_r x (nI 19) ^^^ b_us x (nI 10)
def h_tot (n : Nat) : Nat := ((n + 8) / 64 + 1) * 64
/-- byte p of the row with what is filled in behind it -/
def h_P (f : Nat → Nat) (n p : Nat) : Nat := if p < n then f p else if p = n then 128 else 8 * n / 2 ^ (8 * (h_tot n - 1 - p)) % 256
theorem h_P_lt {f : Nat → Nat} {n : Nat} (hf : ∀ j, j < n → f j < 256) (p : Nat) : h_P f n p < 256 := by
  unfold h_P
  split
  · exact hf _ (by assumption)
  · split
    · decide
    · exact Nat.mod_lt _ (by decide)
theorem h_P_congr {f g : Nat → Nat} {n : Nat} (h : ∀ j, j < n → f j = g j) : h_P f n = h_P g n := by
  funext p
  unfold h_P
  split
  · exact h _ (by assumption)
  · rfl
theorem h_P1 {f : Nat → Nat} {n p : Nat} (h : p < n) : h_P f n p = f p := if_pos h
theorem h_P2 {f : Nat → Nat} {n : Nat} : h_P f n n = 128 := by unfold h_P; rw [if_neg (Nat.lt_irrefl n), if_pos rfl]
theorem h_P4 {f : Nat → Nat} {n p : Nat} (h : n < p) : h_P f n p = 8 * n / 2 ^ (8 * (h_tot n - 1 - p)) % 256 := by unfold h_P; rw [if_neg (by omega), if_neg (by omega)]
theorem h_P3 {f : Nat → Nat} {n p k : Nat} (h : n < p) (hn : 8 * n < 2 ^ (8 * k)) (hk : k ≤ h_tot n - 1 - p) : h_P f n p = 0 := by
  rw [h_P4 h, Nat.div_eq_of_lt (Nat.lt_of_lt_of_le hn (Nat.pow_le_pow_right (by decide) (by omega)))]
/-- so many bytes as one number -/
def h_ac (P : Nat → Nat) (p : Nat) : Nat → Nat
  | 0 => 0
  | k + 1 => h_ac P p k * 256 + P (p + k)
theorem h_ac_lt {P : Nat → Nat} (hP : ∀ j, P j < 256) (p k : Nat) : h_ac P p k < 256 ^ k := by
  induction k with
  | zero => exact Nat.one_pos
  | succ k ih =>
    have := hP (p + k)
    have e : 256 ^ (k + 1) = 256 ^ k * 256 := rfl
    show h_ac P p k * 256 + P (p + k) < _
    rw [e]
    omega
def h_w (P : Nat → Nat) (fr t : Nat) : Int32 :=
  if t < 16 then nI (h_ac P (fr + 4 * t) 4) else h_w P fr (t - 16) + h_s0 (h_w P fr (t - 15)) + h_w P fr (t - 7) + h_s1 (h_w P fr (t - 2))
termination_by t
decreasing_by all_goals omega
theorem h_w_0 {P : Nat → Nat} {fr t : Nat} (h : t < 16) : h_w P fr t = nI (h_ac P (fr + 4 * t) 4) := by rw [h_w, if_pos h]
theorem h_w_1 {P : Nat → Nat} {fr t : Nat} (h : 16 ≤ t) : h_w P fr t = h_w P fr (t - 16) + h_s0 (h_w P fr (t - 15)) + h_w P fr (t - 7) + h_s1 (h_w P fr (t - 2)) := by rw [h_w, if_neg (by omega)]
def h_u (W : Nat → Int32) (t : Nat) (x : Nat → Int32) : Int32 := x 7 + (h_r (x 4) (nI 6) ^^^ h_r (x 4) (nI 11) ^^^ h_r (x 4) (nI 25)) + ((x 4 &&& x 5) ^^^ ((x 4 ^^^ (-1)) &&& x 6)) + k_K t + W t
def h_v (x : Nat → Int32) : Int32 := (h_r (x 0) (nI 2) ^^^ h_r (x 0) (nI 13) ^^^ h_r (x 0) (nI 22)) + ((x 0 &&& x 1) ^^^ (x 0 &&& x 2) ^^^ (x 1 &&& x 2))
/-- a .. h behind t rounds -/
def h_rd (Hf W : Nat → Int32) : Nat → Nat → Int32
  | 0 => Hf
  | t + 1 => fun i => match i with
    | 0 => h_u W t (h_rd Hf W t) + h_v (h_rd Hf W t)
    | 1 => h_rd Hf W t 0
    | 2 => h_rd Hf W t 1
    | 3 => h_rd Hf W t 2
    | 4 => h_rd Hf W t 3 + h_u W t (h_rd Hf W t)
    | 5 => h_rd Hf W t 4
    | 6 => h_rd Hf W t 5
    | _ => h_rd Hf W t 6
def h_cp (Hf W : Nat → Int32) : Nat → Int32 := fun i => Hf i + h_rd Hf W 64 i
def h_hs (P : Nat → Nat) : Nat → Nat → Int32
  | 0 => k_H
  | b + 1 => h_cp (h_hs P b) (h_w P (64 * b))
def h_ww (f0 : Nat → Int32) (P : Nat → Nat) : Nat → Nat → Int32
  | 0 => f0
  | b + 1 => h_w P (64 * b)
def h_by (Hf : Nat → Int32) : Nat → Nat := fun i => (Hf (i / 4)).toBitVec.toNat / 2 ^ (24 - 8 * (i % 4)) % 256
def h_dg (f : Nat → Nat) (n : Nat) : Nat → Nat := h_by (h_hs (h_P f n) ((n + 8) / 64 + 1))
def h_tw (f : Nat → Nat) (n : Nat) : Nat → Nat := h_dg (h_dg f n) 32
theorem h_by_lt (Hf : Nat → Int32) (i : Nat) : h_by Hf i < 256 := Nat.mod_lt _ (by decide)
theorem h_dg_lt (f : Nat → Nat) (n i : Nat) : h_dg f n i < 256 := h_by_lt _ i
theorem h_tw_lt (f : Nat → Nat) (n i : Nat) : h_tw f n i < 256 := h_by_lt _ i
theorem h_tw_congr {f g : Nat → Nat} {n : Nat} (h : ∀ j, j < n → f j = g j) : h_tw f n = h_tw g n := by
  unfold h_tw h_dg
  rw [h_P_congr h]
theorem h_byE (x : Int32) {k : Nat} (hk : k < 32) : b_us x (nI k) &&& nI 255 = nI (x.toBitVec.toNat / 2 ^ k % 256) := by
  rw [pk_and _ 8 (by decide)]
  congr 2
  exact pk_ushr x (nI k) k (b_s2 k hk)
theorem b_or {x y k : Nat} (h : y < 2 ^ k) : nI (x * 2 ^ k) ||| nI y = nI (x * 2 ^ k + y) := by
  apply Int32.toBitVec_inj.mp
  have e : x * 2 ^ k + y = x * 2 ^ k ||| y := by
    rw [Nat.mul_comm]
    exact Nat.two_pow_add_eq_or_of_lt h x
  rw [e]
  show BitVec.ofNat 32 (x * 2 ^ k) ||| BitVec.ofNat 32 y = BitVec.ofNat 32 (x * 2 ^ k ||| y)
  rw [BitVec.ofNat_or]
theorem b_sh8 {x y : Nat} (hx : x < 2 ^ 24) (hy : y < 256) : (nI x <<< (nI 8 &&& 31)) ||| nI y = nI (x * 256 + y) := by
  rw [b_shl 8 (by decide) (by omega)]
  exact b_or (k := 8) hy
theorem l_c : ∀ k, k < 64 → ((nI k).toInt64.toUInt64 &&& Int64.toUInt64 63) = UInt64.ofNat k := by decide +kernel
theorem l_shr {n k : Nat} (hn : n < 2 ^ 63) (hk : k < 64) : ((lN n).toUInt64 >>> ((nI k).toInt64.toUInt64 &&& Int64.toUInt64 63)).toInt64 = lN (n / 2 ^ k) := by
  rw [l_c k hk]
  apply Int64.toBitVec_inj.mp
  apply BitVec.eq_of_toNat_eq
  show ((lN n).toUInt64 >>> UInt64.ofNat k).toNat = (BitVec.ofNat 64 (n / 2 ^ k)).toNat
  rw [UInt64.toNat_shiftRight, BitVec.toNat_ofNat]
  have e1 : (lN n).toUInt64.toNat = n := by
    show (BitVec.ofNat 64 n).toNat = n
    rw [BitVec.toNat_ofNat]
    omega
  have e2 : (UInt64.ofNat k).toNat % 64 = k := by
    rw [UInt64.toNat_ofNat']
    omega
  rw [e1, e2, Nat.shiftRight_eq_div_pow]
  have : n / 2 ^ k ≤ n := Nat.div_le_self _ _
  exact (Nat.mod_eq_of_lt (Nat.lt_of_le_of_lt this (by omega))).symm
theorem h_len {n k : Nat} (hn : n < 100000) (hk : k < 64) : (((8 * (nI n).toInt64).toUInt64 >>> ((nI k).toInt64.toUInt64 &&& Int64.toUInt64 63)).toInt64.toInt32) &&& nI 255 = nI (8 * n / 2 ^ k % 256) := by
  rw [nI_l (by omega), show (8 : Int64) = lN 8 from rfl, lN_mul, l_shr (by omega) hk, lN_i]
  have : 8 * n / 2 ^ k ≤ 8 * n := Nat.div_le_self _ _
  exact b_255 (Nat.lt_of_le_of_lt this (by omega))
theorem cp_s {n d i v : Nat} {f g : Nat → Nat} (h : v = f i) : ∀ j, j < n → nA (va_up (va_cpy f g 0 d i) (d + i) v) j = nA (va_cpy f g 0 d (i + 1)) j := by
  intro j _
  refine congrArg nI ?_
  by_cases h1 : j = d + i
  · subst h1
    rw [va_up_self, pk_cpy_in (by omega) (by omega), h]
    congr 1; omega
  · rw [va_up_ne _ _ h1]
    by_cases h2 : d ≤ j ∧ j < d + i
    · rw [pk_cpy_in h2.1 h2.2, pk_cpy_in h2.1 (by omega)]
    · rw [pk_cpy_out (by omega), pk_cpy_out (by omega)]
theorem cp_z {n d : Nat} {f g : Nat → Nat} : ∀ j, j < n → nA g j = nA (va_cpy f g 0 d 0) j := fun j _ => congrArg nI (pk_cpy_out (by omega)).symm
theorem cp_0i {n : Nat} {f g : Nat → Int32} : ∀ j, j < n → va_cpy f g 0 0 n j = f j := fun j h => by rw [pk_cpy_in (Nat.zero_le j) (by omega)]; congr 1; omega
theorem h_cpE {Hf W x : Nat → Int32} (h : ∀ i, x i = h_rd Hf W 64 i) : ∀ j, j < 8 → upd (upd (upd (upd (upd (upd (upd (upd Hf 0 (Hf 0 + x 0)) 1 (Hf 1 + x 1)) 2 (Hf 2 + x 2)) 3 (Hf 3 + x 3)) 4 (Hf 4 + x 4)) 5 (Hf 5 + x 5)) 6 (Hf 6 + x 6)) 7 (Hf 7 + x 7) j = h_cp Hf W j := by
  intro j hj
  unfold h_cp
  rcases (show j = 0 ∨ j = 1 ∨ j = 2 ∨ j = 3 ∨ j = 4 ∨ j = 5 ∨ j = 6 ∨ j = 7 by omega) with rfl | rfl | rfl | rfl | rfl | rfl | rfl | rfl <;> simp [upd, h]
