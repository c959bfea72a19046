theorem g_tuE {b k i : Nat} (hb : b < 256) (hk : k = 254) (hi : i = 8) : nI (g_ts (g_pwr b k) i) = nI (k_S b) := by
  rw [hk, hi, g_kS b hb]
theorem g_sdA {g : Nat → Nat} {i : Nat} (hi : i = 16) (h : g_sum g i = 0) : nI 0 = nI (g_sd g) := by
  rw [hi] at h
  rw [g_sdS0 h]
theorem g_sdB {g : Nat → Nat} {i : Nat} (hi : i = 16) (h : ¬ g_sum g i = 0) : nI 1 = nI (g_sd g) := by
  rw [hi] at h
  rw [g_sdS1 h]
theorem g_scA {key : Nat → Nat} {i : Nat} (h : 16 ≤ i) (h2 : i % 16 < 4) (h3 : i % 4 = 0) : g_sch key (i - 16) ^^^ (k_S (g_sch key (i / 4 * 4 - 4 + (i + 1) % 4)) ^^^ g_pw ((i + 12) / 16 - 1)) = g_sch key i := by
  have e := g_sch_1 (key := key) h h2
  rw [if_pos h3, show i / 16 - 1 = (i + 12) / 16 - 1 by omega] at e
  exact e.symm
theorem g_scB {key : Nat → Nat} {i : Nat} (h : 16 ≤ i) (h2 : i % 16 < 4) (h3 : ¬ i % 4 = 0) : g_sch key (i - 16) ^^^ (k_S (g_sch key (i / 4 * 4 - 4 + (i + 1) % 4)) ^^^ 0) = g_sch key i := by
  have e := g_sch_1 (key := key) h h2
  rw [if_neg h3] at e
  exact e.symm
/-- the KEY, and a row behind it -/
def r_kr (key dr : Nat → Nat) : Nat → Nat := fun j => if j < 16 then key j else dr (j - 16)
theorem r_kr_a {key dr : Nat → Nat} {i : Nat} (h : i < 16) : r_kr key dr i = key i := if_pos h
theorem r_kr_b (key dr : Nat → Nat) (i : Nat) : r_kr key dr (16 + i) = dr i := by
  unfold r_kr
  rw [if_neg (by omega), show 16 + i - 16 = i by omega]
theorem r_kr_lt {key dr : Nat → Nat} {n : Nat} (hk : g_bt 16 key) (hd : ∀ j, j < n → dr j < 256) (j : Nat) (hj : j < 16 + n) : r_kr key dr j < 256 := by
  unfold r_kr
  split
  · exact hk j (by assumption)
  · exact hd _ (by omega)
