theorem cp_0 {n : Nat} {f g : Nat → Nat} : ∀ j, j < n → nA (va_cpy f g 0 0 n) j = nA f j := fun j h => congrArg nI (by rw [pk_cpy_in (Nat.zero_le j) (by omega)]; congr 1; omega)
def g_sm (g : Nat → Nat) : Nat → Nat := fun j => k_S (g ((j + 4 * (j % 4)) % 16))
theorem g_sm_bt {g : Nat → Nat} (h : g_bt 16 g) : g_bt 16 (g_sm g) := fun j _ => k_S_lt _ (h _ (by omega))
def g_mc (g : Nat → Nat) : Nat → Nat := fun j => (g (j / 4 * 4 + j % 4) ^^^ (g (j / 4 * 4) ^^^ g (j / 4 * 4 + 1) ^^^ g (j / 4 * 4 + 2) ^^^ g (j / 4 * 4 + 3))) ^^^ g_x2 (g (j / 4 * 4 + j % 4) ^^^ g (j / 4 * 4 + (j + 1) % 4))
theorem g_mc_bt {g : Nat → Nat} (h : g_bt 16 g) : g_bt 16 (g_mc g) := fun j hj => g_xl (g_xl (h _ (by omega)) (g_xl (g_xl (g_xl (h _ (by omega)) (h _ (by omega))) (h _ (by omega))) (h _ (by omega)))) (g_x2_lt _ (g_xl (h _ (by omega)) (h _ (by omega))))
theorem g_mc0 (g : Nat → Nat) (c : Nat) : g_mc g (4 * c) = (g (4 * c) ^^^ (g (4 * c) ^^^ g (4 * c + 1) ^^^ g (4 * c + 2) ^^^ g (4 * c + 3))) ^^^ g_x2 (g (4 * c) ^^^ g (4 * c + 1)) := by
  unfold g_mc
  rw [show 4 * c / 4 * 4 = 4 * c by omega, show 4 * c % 4 = 0 by omega, show (4 * c + 1) % 4 = 1 by omega]
  rfl
theorem g_mc1 (g : Nat → Nat) (c : Nat) : g_mc g (4 * c + 1) = (g (4 * c + 1) ^^^ (g (4 * c) ^^^ g (4 * c + 1) ^^^ g (4 * c + 2) ^^^ g (4 * c + 3))) ^^^ g_x2 (g (4 * c + 1) ^^^ g (4 * c + 2)) := by
  unfold g_mc
  rw [show (4 * c + 1) / 4 * 4 = 4 * c by omega, show (4 * c + 1) % 4 = 1 by omega, show (4 * c + 1 + 1) % 4 = 2 by omega]
theorem g_mc2 (g : Nat → Nat) (c : Nat) : g_mc g (4 * c + 2) = (g (4 * c + 2) ^^^ (g (4 * c) ^^^ g (4 * c + 1) ^^^ g (4 * c + 2) ^^^ g (4 * c + 3))) ^^^ g_x2 (g (4 * c + 2) ^^^ g (4 * c + 3)) := by
  unfold g_mc
  rw [show (4 * c + 2) / 4 * 4 = 4 * c by omega, show (4 * c + 2) % 4 = 2 by omega, show (4 * c + 2 + 1) % 4 = 3 by omega]
theorem g_mc3 (g : Nat → Nat) (c : Nat) : g_mc g (4 * c + 3) = (g (4 * c + 3) ^^^ (g (4 * c) ^^^ g (4 * c + 1) ^^^ g (4 * c + 2) ^^^ g (4 * c + 3))) ^^^ g_x2 (g (4 * c + 3) ^^^ g (4 * c)) := by
  unfold g_mc
  rw [show (4 * c + 3) / 4 * 4 = 4 * c by omega, show (4 * c + 3) % 4 = 3 by omega, show (4 * c + 3 + 1) % 4 = 0 by omega]
  rfl
def g_pw : Nat → Nat
  | 0 => 1
  | k + 1 => g_x2 (g_pw k)
theorem g_pw_lt (k : Nat) : g_pw k < 256 := by
  induction k with
  | zero => decide
  | succ k ih => exact g_x2_lt _ ih
/-- the 176 bytes of the key's words -/
def g_sch (key : Nat → Nat) (i : Nat) : Nat :=
  if i < 16 then key i
  else if i % 16 < 4 then g_sch key (i - 16) ^^^ (k_S (g_sch key (i / 4 * 4 - 4 + (i + 1) % 4)) ^^^ (if i % 4 = 0 then g_pw (i / 16 - 1) else 0))
  else g_sch key (i - 16) ^^^ g_sch key (i - 4)
termination_by i
decreasing_by all_goals omega
theorem g_sch_0 {key : Nat → Nat} {i : Nat} (h : i < 16) : g_sch key i = key i := by rw [g_sch, if_pos h]
theorem g_sch_1 {key : Nat → Nat} {i : Nat} (h : 16 ≤ i) (h2 : i % 16 < 4) : g_sch key i = g_sch key (i - 16) ^^^ (k_S (g_sch key (i / 4 * 4 - 4 + (i + 1) % 4)) ^^^ (if i % 4 = 0 then g_pw (i / 16 - 1) else 0)) := by
  rw [g_sch, if_neg (by omega), if_pos h2]
theorem g_sch_2 {key : Nat → Nat} {i : Nat} (h : 16 ≤ i) (h2 : ¬ i % 16 < 4) : g_sch key i = g_sch key (i - 16) ^^^ g_sch key (i - 4) := by
  rw [g_sch, if_neg (by omega), if_neg h2]
theorem g_sch_bt {key : Nat → Nat} (h : g_bt 16 key) : ∀ i, g_sch key i < 256 := by
  intro i
  induction i using Nat.strongRecOn with
  | _ i ih =>
    by_cases h1 : i < 16
    · rw [g_sch_0 h1]; exact h i h1
    · by_cases h2 : i % 16 < 4
      · rw [g_sch_1 (by omega) h2]
        refine g_xl (ih _ (by omega)) (g_xl (k_S_lt _ (ih _ (by omega))) ?_)
        split
        · exact g_pw_lt _
        · decide
      · rw [g_sch_2 (by omega) h2]
        exact g_xl (ih _ (by omega)) (ih _ (by omega))
/-- the block behind round r -/
def g_blk (K ctr : Nat → Nat) : Nat → Nat → Nat
  | 0 => fun j => ctr j ^^^ K (0 * 16 + j)
  | r + 1 => fun j => (if r + 1 < 10 then g_mc (g_sm (g_blk K ctr r)) else g_sm (g_blk K ctr r)) j ^^^ K ((r + 1) * 16 + j)
theorem g_blk_bt {K ctr : Nat → Nat} (hK : ∀ j, K j < 256) (hc : g_bt 16 ctr) (r : Nat) : g_bt 16 (g_blk K ctr r) := by
  induction r with
  | zero => exact fun j hj => g_xl (hc j hj) (hK _)
  | succ r ih =>
    intro j hj
    refine g_xl ?_ (hK _)
    split
    · exact g_mc_bt (g_sm_bt ih) j hj
    · exact g_sm_bt ih j hj
/-- the first byte of a turned word before its power -/
def g_s1 (s : Nat → Nat) (t : Nat) : Nat → Nat := va_up s (16 * t) (s (16 * t - 16) ^^^ k_S (s (16 * t - 4 + (0 + 1) % 4)))
theorem g_s1_ne {s : Nat → Nat} {t j : Nat} (h : j ≠ 16 * t) : g_s1 s t j = s j := va_up_ne _ _ h
theorem g_s1_eq {s : Nat → Nat} {t : Nat} : g_s1 s t (16 * t) = s (16 * t - 16) ^^^ k_S (s (16 * t - 4 + (0 + 1) % 4)) := va_up_self _ _ _
theorem g_turn {key : Nat → Nat} {t k : Nat} (ht : 1 ≤ t) (hk : k < 4) : g_sch key (16 * t - 16 + k) ^^^ k_S (g_sch key (16 * t - 4 + (k + 1) % 4)) = g_s1 (g_sch key) t (16 * t + k) := by
  by_cases h : k = 0
  · subst h
    exact g_s1_eq.symm
  · rw [g_s1_ne (by omega), g_sch_1 (i := 16 * t + k) (by omega) (by omega), if_neg (by omega), Nat.xor_zero]
    rw [show 16 * t + k - 16 = 16 * t - 16 + k by omega, show (16 * t + k) / 4 * 4 - 4 + (16 * t + k + 1) % 4 = 16 * t - 4 + (k + 1) % 4 by omega]
theorem g_turn0 {key : Nat → Nat} {t : Nat} (ht : 1 ≤ t) : g_s1 (g_sch key) t (16 * t) ^^^ g_pw (t - 1) = g_sch key (16 * t) := by
  rw [g_s1_eq, g_sch_1 (i := 16 * t) (by omega) (by omega), if_pos (by omega), Nat.xor_assoc]
  rw [show 16 * t / 4 * 4 - 4 + (16 * t + 1) % 4 = 16 * t - 4 + (0 + 1) % 4 by omega, show 16 * t / 16 = t by omega]
theorem g_turnE {s v0 : Nat → Nat} {t w : Nat} (hw : w = s (16 * t)) : ∀ j, j < 176 → nA (va_up (mx (16 * t + 4) (g_s1 s t) v0) (16 * t) w) j = nA (mx (16 * t + 4) s v0) j := by
  intro j _
  refine congrArg nI ?_
  by_cases h : j = 16 * t
  · subst h
    rw [va_up_self, mx_lt (by omega), hw]
  · rw [va_up_ne _ _ h]
    by_cases h2 : j < 16 * t + 4
    · rw [mx_lt h2, mx_lt h2, g_s1_ne h]
    · rw [mx_ge (by omega), mx_ge (by omega)]
theorem g_turnS {s v0 : Nat → Nat} {t : Nat} : ∀ j, j < 176 → nA (mx (16 * t) s v0) j = nA (mx (16 * t + 0) (g_s1 s t) v0) j := by
  intro j _
  refine congrArg nI ?_
  by_cases h2 : j < 16 * t
  · rw [mx_lt h2, mx_lt (by omega), g_s1_ne (by omega)]
  · rw [mx_ge (by omega), mx_ge (by omega)]
theorem g_cpk {s k0 : Nat → Nat} {key : Nat → Nat} (h : ∀ j, j < 16 → s j = key j) : ∀ j, j < 176 → nA (va_cpy key k0 0 0 16) j = nA (mx (16 * 0 + 16) s k0) j := by
  intro j _
  refine congrArg nI ?_
  by_cases h2 : j < 16
  · rw [pk_cpy_in (Nat.zero_le j) (by omega), mx_lt (by omega), h j h2]
    congr 1; omega
  · rw [pk_cpy_out (by omega), mx_ge (by omega)]
def g_w (v K ctr : Nat → Nat) : Nat → Nat → Nat
  | 0 => v
  | r + 1 => g_sm (g_blk K ctr r)
theorem g_blkA {K ctr : Nat → Nat} {r : Nat} (h : r + 1 < 10) : ∀ j, j < 16 → nA (fun j => g_mc (g_sm (g_blk K ctr r)) j ^^^ K ((r + 1) * 16 + j)) j = nA (g_blk K ctr (r + 1)) j := fun j _ => congrArg nI (by
  show _ = (if r + 1 < 10 then g_mc (g_sm (g_blk K ctr r)) else g_sm (g_blk K ctr r)) j ^^^ K ((r + 1) * 16 + j)
  rw [if_pos h])
theorem g_blkB {K ctr : Nat → Nat} {r : Nat} (h : ¬ r + 1 < 10) : ∀ j, j < 16 → nA (fun j => g_sm (g_blk K ctr r) j ^^^ K ((r + 1) * 16 + j)) j = nA (g_blk K ctr (r + 1)) j := fun j _ => congrArg nI (by
  show _ = (if r + 1 < 10 then g_mc (g_sm (g_blk K ctr r)) else g_sm (g_blk K ctr r)) j ^^^ K ((r + 1) * 16 + j)
  rw [if_neg h])
