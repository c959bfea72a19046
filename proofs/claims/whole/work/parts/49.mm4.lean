theorem c_duF1 {l0 : Nat} {ck lt : Int32} (h : c_du l0 ck lt = 1) (h1 : l0 < 32) : False := by
  unfold c_du at h
  rw [if_neg (by omega)] at h
  cases h
theorem c_duF2 {l0 : Nat} {ck lt : Int32} (h : c_du l0 ck lt = 0) (h1 : 32 ≤ l0) (h2 : lt = -1) : False := by
  unfold c_du at h
  rw [if_pos ⟨h1, Or.inl h2⟩] at h
  cases h
theorem c_duF3 {l0 : Nat} {ck lt : Int32} (h : c_du l0 ck lt = 1) (h2 : ¬ lt = -1) (h3 : ck - lt < nI 100) : False := by
  unfold c_du at h
  rw [if_neg (fun q => q.2.elim h2 (fun z => absurd h3 (Int32.not_lt.mpr z)))] at h
  cases h
theorem c_duF4 {l0 : Nat} {ck lt : Int32} (h : c_du l0 ck lt = 0) (h1 : 32 ≤ l0) (h3 : ¬ ck - lt < nI 100) : False := by
  unfold c_du at h
  rw [if_pos ⟨h1, Or.inr (Int32.not_lt.mp h3)⟩] at h
  cases h
