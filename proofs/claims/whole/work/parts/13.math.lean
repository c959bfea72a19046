/-! Numbers: shifts, masks, arrays that are filled place by place. -/
def b_us (x y : Int32) : Int32 := (x.toUInt32 >>> (y.toUInt32 &&& Int32.toUInt32 31)).toInt32
theorem b_s1 : ∀ n, n < 32 → ((nI n &&& 31).toBitVec.smod 32).toNat = n := by decide +kernel
theorem b_s2 : ∀ n, n < 32 → (((nI n).toUInt32 &&& Int32.toUInt32 31).toBitVec % 32).toNat = n := by decide +kernel
theorem b_shl {n : Nat} (k : Nat) (hk : k < 32) (h : n * 2 ^ k < 2 ^ 32) : nI n <<< (nI k &&& 31) = nI (n * 2 ^ k) := pk_shlN _ k (b_s1 k hk) h
theorem b_shr {n : Nat} (k : Nat) (hk : k < 32) (h : n < 2 ^ 31) : nI n >>> (nI k &&& 31) = nI (n / 2 ^ k) := pk_shrN h _ k (b_s1 k hk)
theorem b_ush {n : Nat} (k : Nat) (hk : k < 32) (h : n < 2 ^ 32) : b_us (nI n) (nI k) = nI (n / 2 ^ k) := pk_ushrN h _ k (b_s2 k hk)
theorem b_255 {n : Nat} (h : n < 2 ^ 32) : nI n &&& nI 255 = nI (n % 256) := pk_andN h 8 (by decide)
/-- the first i places of f, behind them g -/
def mx {α : Type} (i : Nat) (f g : Nat → α) : Nat → α := fun j => if j < i then f j else g j
theorem mx_lt {α : Type} {i j : Nat} {f g : Nat → α} (h : j < i) : mx i f g j = f j := if_pos h
theorem mx_ge {α : Type} {i j : Nat} {f g : Nat → α} (h : i ≤ j) : mx i f g j = g j := if_neg (by omega)
theorem mx_up {i v : Nat} {f g : Nat → Nat} (h : v = f i) : va_up (mx i f g) i v = mx (i + 1) f g := by
  funext j
  unfold va_up mx
  by_cases h1 : j = i
  · subst h1
    rw [if_pos rfl, if_pos (by omega), h]
  · rw [if_neg h1]
    by_cases h2 : j < i
    · rw [if_pos h2, if_pos (by omega)]
    · rw [if_neg h2, if_neg (by omega)]
theorem mx_fn {n i v : Nat} {f g : Nat → Nat} (h : v = f i) : ∀ j, j < n → nA (va_up (mx i f g) i v) j = nA (mx (i + 1) f g) j := fun j _ => congrArg nI (congrFun (mx_up h) j)
theorem mx_ud {i : Nat} {v : Int32} {f g : Nat → Int32} (h : v = f i) : upd (mx i f g) i v = mx (i + 1) f g := by
  funext j
  unfold upd mx
  by_cases h1 : j = i
  · subst h1
    rw [if_pos rfl, if_pos (by omega), h]
  · rw [if_neg h1]
    by_cases h2 : j < i
    · rw [if_pos h2, if_pos (by omega)]
    · rw [if_neg h2, if_neg (by omega)]
theorem mx_fi {n i : Nat} {v : Int32} {f g : Nat → Int32} (h : v = f i) : ∀ j, j < n → upd (mx i f g) i v j = mx (i + 1) f g j := fun j _ => congrFun (mx_ud h) j
theorem mx_0 {α : Type} (f g : Nat → α) : ∀ j, mx 0 f g j = g j := fun j => mx_ge (Nat.zero_le j)
theorem mx_z {n : Nat} (f g : Nat → Nat) : ∀ j, j < n → nA g j = nA (mx 0 f g) j := fun j _ => congrArg nI (mx_0 f g j).symm
theorem mx_zi {n : Nat} (f g : Nat → Int32) : ∀ j, j < n → g j = mx 0 f g j := fun j _ => (mx_0 f g j).symm
theorem mx_e {n : Nat} {f g : Nat → Nat} : ∀ j, j < n → nA (mx n f g) j = nA f j := fun j h => congrArg nI (mx_lt h)
theorem mx_ei {n : Nat} {f g : Nat → Int32} : ∀ j, j < n → mx n f g j = f j := fun j h => mx_lt h
/-! the cipher, by natural numbers -/
def g_x2 (b : Nat) : Nat := if b < 128 then 2 * b else (2 * b) ^^^ 283
theorem g_x2_lt : ∀ b, b < 256 → g_x2 b < 256 := by decide +kernel
theorem k_S_lt : ∀ b, b < 256 → k_S b < 256 := by decide +kernel
def g_bt (n : Nat) (g : Nat → Nat) : Prop := ∀ j, j < n → g j < 256
theorem g_xl {x y : Nat} (hx : x < 256) (hy : y < 256) : x ^^^ y < 256 := Nat.xor_lt_two_pow (n := 8) hx hy
