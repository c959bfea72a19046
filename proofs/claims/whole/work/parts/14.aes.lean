theorem cp_0 {n : Nat} {f g : Nat → Nat} : ∀ j, j < n → nA (va_cpy f g 0 0 n) j = nA f j := fun j h => congrArg nI (by rw [pk_cpy_in (Nat.zero_le j) (by omega)]; congr 1; omega)
def g_sm (g : Nat → Nat) : Nat → Nat := fun j => k_S (g ((j + 4 * (j % 4)) % 16))
theorem g_sm_bt {g : Nat → Nat} (h : g_bt 16 g) : g_bt 16 (g_sm g) := fun j _ => k_S_lt _ (h _ (by omega))
def g_mc (g : Nat → Nat) : Nat → Nat := fun j => (g (j / 4 * 4 + j % 4) ^^^ (g (j / 4 * 4) ^^^ g (j / 4 * 4 + 1) ^^^ g (j / 4 * 4 + 2) ^^^ g (j / 4 * 4 + 3))) ^^^ g_x2 (g (j / 4 * 4 + j % 4) ^^^ g (j / 4 * 4 + (j + 1) % 4))
theorem g_mc_bt {g : Nat → Nat} (h : g_bt 16 g) : g_bt 16 (g_mc g) := fun j hj => g_xl (g_xl (h _ (by omega)) (g_xl (g_xl (g_xl (h _ (by omega)) (h _ (by omega))) (h _ (by omega))) (h _ (by omega)))) (g_x2_lt _ (g_xl (h _ (by omega)) (h _ (by omega))))
theorem g_mc0 (g : Nat → Nat) (c : Nat) : g_mc g (4 * c) = (g (4 * c) ^^^ (g (4 * c) ^^^ g (4 * c + 1) ^^^ g (4 * c + 2) ^^^ g (4 * c + 3))) ^^^ g_x2 (g (4 * c) ^^^ g (4 * c + 1)) := by
  unfold g_mc
  rw [show 4 * c / 4 * 4 = 4 * c by omega, show 4 * c % 4 = 0 by omega, show (4 * c + 1) % 4 = 1 by omega]
  rfl
theorem g_mc1 (g : Nat → Nat) (c : Nat) : g_mc g (4 * c + 1) = (g (4 * c + 1) ^^^ (g (4 * c) ^^^ g (4 * c + 1) ^^^ g (4 * c + 2) ^^^ g (4 * c + 3))) ^^^ g_x2 (g (4 * c + 1) ^^^ g (4 * c + 2)) := by
  unfold g_mc
  rw [show (4 * c + 1) / 4 * 4 = 4 * c by omega, show (4 * c + 1) % 4 = 1 by omega, show (4 * c + 1 + 1) % 4 = 2 by omega]
theorem g_mc2 (g : Nat → Nat) (c : Nat) : g_mc g (4 * c + 2) = (g (4 * c + 2) ^^^ (g (4 * c) ^^^ g (4 * c + 1) ^^^ g (4 * c + 2) ^^^ g (4 * c + 3))) ^^^ g_x2 (g (4 * c + 2) ^^^ g (4 * c + 3)) := by
  unfold g_mc
  rw [show (4 * c + 2) / 4 * 4 = 4 * c by omega, show (4 * c + 2) % 4 = 2 by omega, show (4 * c + 2 + 1) % 4 = 3 by omega]
theorem g_mc3 (g : Nat → Nat) (c : Nat) : g_mc g (4 * c + 3) = (g (4 * c + 3) ^^^ (g (4 * c) ^^^ g (4 * c + 1) ^^^ g (4 * c + 2) ^^^ g (4 * c + 3))) ^^^ g_x2 (g (4 * c + 3) ^^^ g (4 * c)) := by
  unfold g_mc
  rw [show (4 * c + 3) / 4 * 4 = 4 * c by omega, show (4 * c + 3) % 4 = 3 by omega, show (4 * c + 3 + 1) % 4 = 0 by omega]
  rfl
