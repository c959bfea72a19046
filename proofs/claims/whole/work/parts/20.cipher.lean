set_option maxHeartbeats 4000000 in
set_option maxRecDepth 100000 in
theorem q_Ci_timesX (l : Launch) (b : Nat) (hb : b < 256) : xMf l y_Ci_timesX c_Ci_timesX 1 .int ({ frames := 0, cells := 0, slots := 0, locals := 0 }) [.int (nI b)] (nI (g_x2 b)) := by
  refine xMf.by r_Ci (by decide +kernel) (Nat.le_of_ble_eq_true rfl) rfl ?_
  intro p e s m args below meth c ls Q E hl hret
  have hl : lv_has ls 1 [(0, .int (nI b))] := hl
  refine lv_iload_n E.1 E.2.1 d_Ci_timesX_0 rfl (lv_at hl 0 rfl) ?_
  refine lv_sipush (v := nI 128) E.1 E.2.1 d_Ci_timesX_1 (by decide) ?_
  refine x_ge (tgt := 13) E d_Ci_timesX_4 (by decide) (by omega) (by omega) (fun hc => ?_) (fun hc => ?_)
  · refine lv_iload_n E.1 E.2.1 d_Ci_timesX_13 rfl (lv_at hl 0 rfl) ?_
    refine lv_iconst (v := nI 1) E.1 E.2.1 d_Ci_timesX_14 (by decide) ?_
    refine lv_ishl E.1 E.2.1 d_Ci_timesX_15 ?_
    refine x_top (v' := nI (2 * b)) ((b_shl 1 (by decide) (by omega)).trans (congrArg nI (by omega))) ?_
    refine lv_sipush (v := nI 283) E.1 E.2.1 d_Ci_timesX_16 (by decide) ?_
    refine x_ixor E d_Ci_timesX_19 ?_
    exact hret _ _ _ (by unfold g_x2; first | rw [if_pos (by omega)] | rw [if_neg (by omega)]) d_Ci_timesX_20
  · refine lv_iload_n E.1 E.2.1 d_Ci_timesX_7 rfl (lv_at hl 0 rfl) ?_
    refine lv_iconst (v := nI 1) E.1 E.2.1 d_Ci_timesX_8 (by decide) ?_
    refine lv_ishl E.1 E.2.1 d_Ci_timesX_9 ?_
    refine x_top (v' := nI (2 * b)) ((b_shl 1 (by decide) (by omega)).trans (congrArg nI (by omega))) ?_
    refine lv_goto (tgt := 20) E.1 E.2.1 d_Ci_timesX_10 (by decide) ?_
    exact hret _ _ _ (by unfold g_x2; first | rw [if_pos (by omega)] | rw [if_neg (by omega)]) d_Ci_timesX_20
set_option maxHeartbeats 4000000 in
set_option maxRecDepth 100000 in
theorem q_Ci_addRoundKey (G : xG) (l : Launch) (h0 q1 q2 q3 : Nat) (r : Nat) (K g : Nat → Nat) (hr : r ≤ 10) : xMv G l y_Ci_addRoundKey c_Ci_addRoundKey 3 ({ frames := 0, cells := 0, slots := 0, locals := 0 }) [.ref h0, .int (nI r)] [] [(h0, .inr (0, [.ref q1, .ref q2, .ref q3])), (q1, x_N G 176 K), (q2, x_N G 16 g)] Unit (fun _ => True) (fun u => [(h0, .inr (0, [.ref q1, .ref q2, .ref q3])), (q1, x_N G 176 K), (q2, x_N G 16 (fun j => g j ^^^ K (r * 16 + j)))]) 0 0 := by
  refine xMv.by r_Ci (by decide +kernel) (Nat.le_of_ble_eq_true rfl) rfl ?_
  intro p e s m args below meth c A ls Q E hin B hro hl hret
  have hl : lv_has ls 3 [(0, .ref h0), (1, .int (nI r))] := hl
  refine lv_iconst (v := nI 0) E.1 E.2.1 d_Ci_addRoundKey_0 (by decide) ?_
  refine lv_istore_n (lv' := [(2, .int (nI 0)), (0, .ref h0), (1, .int (nI r))]) E.1 E.2.1 d_Ci_addRoundKey_1 rfl hl (by decide) rfl (fun ls hl => ?_)
  have hL2 : ∀ (kf : Nat) (i : Nat), 16 - i < kf → (i ≤ 16) → ∀ (H : Heap) (locs : List Loc) (ls : Array Slot), xB G A s H locs ([(h0, .inr (0, [.ref q1, .ref q2, .ref q3])), (q1, x_N G 176 K), (q2, x_N G 16 (mx i (fun j => g j ^^^ K (r * 16 + j)) g))]) → lv_has ls 3 [(2, .int (nI i)), (0, .ref h0), (1, .int (nI r))] → W p l e ({ frames := 0, cells := 0, slots := 0, locals := 0 }) s m args below meth c H locs 0 0 Q (F0 m 2 ls []) := by
    intro k2
    induction k2 with
    | zero =>
      intro i hk
      exact absurd hk (Nat.not_lt_zero _)
    | succ k2 ih2 =>
      intro i hk2 hi H locs ls B hl
      refine lv_iload_n E.1 E.2.1 d_Ci_addRoundKey_2 rfl (lv_at hl 0 rfl) ?_
      refine lv_bipush (v := nI 16) E.1 E.2.1 d_Ci_addRoundKey_3 (by decide) ?_
      refine x_ge (tgt := 34) E d_Ci_addRoundKey_5 (by decide) (by omega) (by omega) (fun c1 => ?_) (fun c1 => ?_)
      · obtain rfl : i = 16 := by omega
        have B := B.fn 2 rfl (nA (fun j => g j ^^^ K (r * 16 + j))) (mx_e)
        have B : xB G A s _ _ ([(h0, .inr (0, [.ref q1, .ref q2, .ref q3])), (q1, x_N G 176 K), (q2, x_N G 16 (fun j => g j ^^^ K (r * 16 + j)))]) := B
        exact hret () _ _ _ _ B trivial d_Ci_addRoundKey_34
      · refine lv_aload_n E.1 E.2.1 d_Ci_addRoundKey_8 rfl (lv_at hl 1 rfl) ?_
        refine x_get E B 0 rfl k_Ci 1 (by decide) wd_100 rfl d_Ci_addRoundKey_9 ?_
        refine lv_iload_n E.1 E.2.1 d_Ci_addRoundKey_12 rfl (lv_at hl 0 rfl) ?_
        refine lv_dup2_11 E.1 E.2.1 d_Ci_addRoundKey_13 rfl rfl ?_
        refine x_aldN E B 2 rfl (i := i) (by omega) (by decide) d_Ci_addRoundKey_14 ?_
        refine x_top (show nI ((mx i (fun j => g j ^^^ K (r * 16 + j)) g) i) = nI (g i) from congrArg nI (by exact mx_ge (Nat.le_refl i))) ?_
        refine lv_aload_n E.1 E.2.1 d_Ci_addRoundKey_15 rfl (lv_at hl 1 rfl) ?_
        refine x_get E B 0 rfl k_Ci 0 (by decide) wd_99 rfl d_Ci_addRoundKey_16 ?_
        refine lv_iload_n E.1 E.2.1 d_Ci_addRoundKey_19 rfl (lv_at hl 2 rfl) ?_
        refine lv_bipush (v := nI 16) E.1 E.2.1 d_Ci_addRoundKey_20 (by decide) ?_
        refine x_imul E d_Ci_addRoundKey_22 ?_
        refine lv_iload_n E.1 E.2.1 d_Ci_addRoundKey_23 rfl (lv_at hl 0 rfl) ?_
        refine x_iadd E d_Ci_addRoundKey_24 ?_
        refine x_aldN E B 1 rfl (i := (r * 16) + i) (by omega) (by decide) d_Ci_addRoundKey_25 ?_
        refine x_ixor E d_Ci_addRoundKey_26 ?_
        refine x_astN E B 2 rfl (i := i) (v := (g i) ^^^ (K ((r * 16) + i))) (by omega) (by decide) d_Ci_addRoundKey_27 (fun H locs B => ?_)
        have B : xB G A s _ _ ([(h0, .inr (0, [.ref q1, .ref q2, .ref q3])), (q1, x_N G 176 K), (q2, x_N G 16 (va_up (mx i (fun j => g j ^^^ K (r * 16 + j)) g) i ((g i) ^^^ (K ((r * 16) + i)))))]) := B
        have B := B.fn 2 rfl (nA (mx (i + 1) (fun j => g j ^^^ K (r * 16 + j)) g)) (mx_fn rfl)
        have B : xB G A s _ _ ([(h0, .inr (0, [.ref q1, .ref q2, .ref q3])), (q1, x_N G 176 K), (q2, x_N G 16 (mx (i + 1) (fun j => g j ^^^ K (r * 16 + j)) g))]) := B
        refine x_inc E 1 (lv' := [(2, .int (nI (i + 1))), (0, .ref h0), (1, .int (nI r))]) d_Ci_addRoundKey_28 hl (k := 0) rfl rfl (by decide) rfl (fun ls hl => ?_)
        refine lv_goto (tgt := 2) E.1 E.2.1 d_Ci_addRoundKey_31 (by decide) ?_
        exact ih2  (i + 1) (by omega) (by omega) _ _ _ B (lv_sub hl [0, 1, 2] rfl)
  have B := B.fn 2 rfl (nA (mx 0 (fun j => g j ^^^ K (r * 16 + j)) g)) (mx_z _ _)
  have B : xB G A s _ _ ([(h0, .inr (0, [.ref q1, .ref q2, .ref q3])), (q1, x_N G 176 K), (q2, x_N G 16 (mx 0 (fun j => g j ^^^ K (r * 16 + j)) g))]) := B
  exact hL2 (17) 0 (by omega) (by omega) _ _ _ B (lv_sub hl [0, 1, 2] rfl)
set_option maxHeartbeats 4000000 in
set_option maxRecDepth 100000 in
theorem q_Ci_substituteAndMove (G : xG) (l : Launch) (h0 q1 q2 q3 : Nat) (g v : Nat → Nat) (hg : g_bt 16 g) : xMv G l y_Ci_substituteAndMove c_Ci_substituteAndMove 2 ({ frames := 1, cells := 0, slots := 0, locals := 60 }) [.ref h0] [] [(h0, .inr (0, [.ref q1, .ref q2, .ref q3])), (q2, x_N G 16 g), (q3, x_N G 16 v)] Unit (fun _ => True) (fun u => [(h0, .inr (0, [.ref q1, .ref q2, .ref q3])), (q2, x_N G 16 (g_sm g)), (q3, x_N G 16 (g_sm g))]) 0 0 := by
  refine xMv.by r_Ci (by decide +kernel) (Nat.le_of_ble_eq_true rfl) rfl ?_
  intro p e s m args below meth c A ls Q E hin B hro hl hret
  have hl : lv_has ls 2 [(0, .ref h0)] := hl
  refine lv_iconst (v := nI 0) E.1 E.2.1 d_Ci_substituteAndMove_0 (by decide) ?_
  refine lv_istore_n (lv' := [(1, .int (nI 0)), (0, .ref h0)]) E.1 E.2.1 d_Ci_substituteAndMove_1 rfl hl (by decide) rfl (fun ls hl => ?_)
  have hL2 : ∀ (kf : Nat) (i : Nat), 16 - i < kf → (i ≤ 16) → ∀ (H : Heap) (locs : List Loc) (ls : Array Slot), xB G A s H locs ([(h0, .inr (0, [.ref q1, .ref q2, .ref q3])), (q2, x_N G 16 g), (q3, x_N G 16 (mx i (g_sm g) v))]) → lv_has ls 2 [(1, .int (nI i)), (0, .ref h0)] → W p l e ({ frames := 1, cells := 0, slots := 0, locals := 60 }) s m args below meth c H locs 0 0 Q (F0 m 2 ls []) := by
    intro k2
    induction k2 with
    | zero =>
      intro i hk
      exact absurd hk (Nat.not_lt_zero _)
    | succ k2 ih2 =>
      intro i hk2 hi H locs ls B hl
      refine lv_iload_n E.1 E.2.1 d_Ci_substituteAndMove_2 rfl (lv_at hl 0 rfl) ?_
      refine lv_bipush (v := nI 16) E.1 E.2.1 d_Ci_substituteAndMove_3 (by decide) ?_
      refine x_ge (tgt := 39) E d_Ci_substituteAndMove_5 (by decide) (by omega) (by omega) (fun c1 => ?_) (fun c1 => ?_)
      · obtain rfl : i = 16 := by omega
        have B := B.fn 2 rfl (nA (g_sm g)) (mx_e)
        have B : xB G A s _ _ ([(h0, .inr (0, [.ref q1, .ref q2, .ref q3])), (q2, x_N G 16 g), (q3, x_N G 16 (g_sm g))]) := B
        refine lv_aload_n E.1 E.2.1 d_Ci_substituteAndMove_39 rfl (lv_at hl 1 rfl) ?_
        refine x_get E B 0 rfl k_Ci 2 (by decide) wd_101 rfl d_Ci_substituteAndMove_40 ?_
        refine lv_iconst (v := nI 0) E.1 E.2.1 d_Ci_substituteAndMove_43 (by decide) ?_
        refine lv_aload_n E.1 E.2.1 d_Ci_substituteAndMove_44 rfl (lv_at hl 1 rfl) ?_
        refine x_get E B 0 rfl k_Ci 1 (by decide) wd_100 rfl d_Ci_substituteAndMove_45 ?_
        refine lv_iconst (v := nI 0) E.1 E.2.1 d_Ci_substituteAndMove_48 (by decide) ?_
        refine lv_bipush (v := nI 16) E.1 E.2.1 d_Ci_substituteAndMove_49 (by decide) ?_
        refine x_cpy E B wd_297 wd_217 wd_216 wd_41 2 1 (sp := 0) (dp := 0) (n := 16) rfl rfl (by omega) (by omega) (by decide) (by decide) hl.1 (Nat.le_of_ble_eq_true rfl) (Nat.le_of_ble_eq_true rfl) d_Ci_substituteAndMove_51 (fun H locs B => ?_)
        rw [x_cpN] at B
        have B : xB G A s _ _ ([(h0, .inr (0, [.ref q1, .ref q2, .ref q3])), (q2, x_N G 16 (va_cpy (g_sm g) g 0 0 16)), (q3, x_N G 16 (g_sm g))]) := B
        have B := B.fn 1 rfl (nA (g_sm g)) (cp_0)
        have B : xB G A s _ _ ([(h0, .inr (0, [.ref q1, .ref q2, .ref q3])), (q2, x_N G 16 (g_sm g)), (q3, x_N G 16 (g_sm g))]) := B
        exact hret () _ _ _ _ B trivial d_Ci_substituteAndMove_54
      · refine lv_aload_n E.1 E.2.1 d_Ci_substituteAndMove_8 rfl (lv_at hl 1 rfl) ?_
        refine x_get E B 0 rfl k_Ci 2 (by decide) wd_101 rfl d_Ci_substituteAndMove_9 ?_
        refine lv_iload_n E.1 E.2.1 d_Ci_substituteAndMove_12 rfl (lv_at hl 0 rfl) ?_
        refine x_gets E B B.2.2.2.2.1.2.2.1.1 wd_302 d_Ci_substituteAndMove_13 ?_
        refine lv_aload_n E.1 E.2.1 d_Ci_substituteAndMove_16 rfl (lv_at hl 1 rfl) ?_
        refine x_get E B 0 rfl k_Ci 1 (by decide) wd_100 rfl d_Ci_substituteAndMove_17 ?_
        refine lv_iload_n E.1 E.2.1 d_Ci_substituteAndMove_20 rfl (lv_at hl 0 rfl) ?_
        refine lv_iconst (v := nI 4) E.1 E.2.1 d_Ci_substituteAndMove_21 (by decide) ?_
        refine lv_iload_n E.1 E.2.1 d_Ci_substituteAndMove_22 rfl (lv_at hl 0 rfl) ?_
        refine lv_iconst (v := nI 4) E.1 E.2.1 d_Ci_substituteAndMove_23 (by decide) ?_
        refine x_irem E d_Ci_substituteAndMove_24 (by omega) (by decide) (by decide) ?_
        refine x_imul E d_Ci_substituteAndMove_25 ?_
        refine x_iadd E d_Ci_substituteAndMove_26 ?_
        refine lv_bipush (v := nI 16) E.1 E.2.1 d_Ci_substituteAndMove_27 (by decide) ?_
        refine x_irem E d_Ci_substituteAndMove_29 (by omega) (by decide) (by decide) ?_
        refine x_aldN E B 1 rfl (i := (i + (4 * (i % 4))) % 16) (by omega) (by decide) d_Ci_substituteAndMove_30 ?_
        refine x_tld E B B.2.2.2.2.1.2.2.1.2 (i := g ((i + (4 * (i % 4))) % 16)) (hg _ (by omega)) (by decide) d_Ci_substituteAndMove_31 ?_
        refine x_astN E B 2 rfl (i := i) (v := k_S (g ((i + (4 * (i % 4))) % 16))) (by omega) (by decide) d_Ci_substituteAndMove_32 (fun H locs B => ?_)
        have B : xB G A s _ _ ([(h0, .inr (0, [.ref q1, .ref q2, .ref q3])), (q2, x_N G 16 g), (q3, x_N G 16 (va_up (mx i (g_sm g) v) i (k_S (g ((i + (4 * (i % 4))) % 16)))))]) := B
        have B := B.fn 2 rfl (nA (mx (i + 1) (g_sm g) v)) (mx_fn rfl)
        have B : xB G A s _ _ ([(h0, .inr (0, [.ref q1, .ref q2, .ref q3])), (q2, x_N G 16 g), (q3, x_N G 16 (mx (i + 1) (g_sm g) v))]) := B
        refine x_inc E 1 (lv' := [(1, .int (nI (i + 1))), (0, .ref h0)]) d_Ci_substituteAndMove_33 hl (k := 0) rfl rfl (by decide) rfl (fun ls hl => ?_)
        refine lv_goto (tgt := 2) E.1 E.2.1 d_Ci_substituteAndMove_36 (by decide) ?_
        exact ih2  (i + 1) (by omega) (by omega) _ _ _ B (lv_sub hl [0, 1] rfl)
  have B := B.fn 2 rfl (nA (mx 0 (g_sm g) v)) (mx_z _ _)
  have B : xB G A s _ _ ([(h0, .inr (0, [.ref q1, .ref q2, .ref q3])), (q2, x_N G 16 g), (q3, x_N G 16 (mx 0 (g_sm g) v))]) := B
  exact hL2 (17) 0 (by omega) (by omega) _ _ _ B (lv_sub hl [0, 1] rfl)
set_option maxHeartbeats 4000000 in
set_option maxRecDepth 100000 in
theorem q_Ci_mixColumns (G : xG) (l : Launch) (h0 q1 q2 q3 : Nat) (g : Nat → Nat) (hg : g_bt 16 g) : xMv G l y_Ci_mixColumns c_Ci_mixColumns 7 ({ frames := 1, cells := 0, slots := 0, locals := 20 }) [.ref h0] [] [(h0, .inr (0, [.ref q1, .ref q2, .ref q3])), (q2, x_N G 16 g)] Unit (fun _ => True) (fun u => [(h0, .inr (0, [.ref q1, .ref q2, .ref q3])), (q2, x_N G 16 (g_mc g))]) 0 0 := by
  refine xMv.by r_Ci (by decide +kernel) (Nat.le_of_ble_eq_true rfl) rfl ?_
  intro p e s m args below meth c A ls Q E hin B hro hl hret
  have hl : lv_has ls 7 [(0, .ref h0)] := hl
  refine lv_iconst (v := nI 0) E.1 E.2.1 d_Ci_mixColumns_0 (by decide) ?_
  refine lv_istore_n (lv' := [(1, .int (nI 0)), (0, .ref h0)]) E.1 E.2.1 d_Ci_mixColumns_1 rfl hl (by decide) rfl (fun ls hl => ?_)
  have hL2 : ∀ (kf : Nat) (z : Nat), 4 - z < kf → (z ≤ 4) → ∀ (H : Heap) (locs : List Loc) (ls : Array Slot), xB G A s H locs ([(h0, .inr (0, [.ref q1, .ref q2, .ref q3])), (q2, x_N G 16 (mx (4 * z) (g_mc g) g))]) → lv_has ls 7 [(1, .int (nI (4 * z))), (0, .ref h0)] → W p l e ({ frames := 1, cells := 0, slots := 0, locals := 20 }) s m args below meth c H locs 0 0 Q (F0 m 2 ls []) := by
    intro k2
    induction k2 with
    | zero =>
      intro z hk
      exact absurd hk (Nat.not_lt_zero _)
    | succ k2 ih2 =>
      intro z hk2 hz H locs ls B hl
      refine lv_iload_n E.1 E.2.1 d_Ci_mixColumns_2 rfl (lv_at hl 0 rfl) ?_
      refine lv_bipush (v := nI 16) E.1 E.2.1 d_Ci_mixColumns_3 (by decide) ?_
      refine x_ge (tgt := 141) E d_Ci_mixColumns_5 (by decide) (by omega) (by omega) (fun c1 => ?_) (fun c1 => ?_)
      · obtain rfl : z = 4 := by omega
        have B := B.fn 1 rfl (nA (g_mc g)) (mx_e)
        have B : xB G A s _ _ ([(h0, .inr (0, [.ref q1, .ref q2, .ref q3])), (q2, x_N G 16 (g_mc g))]) := B
        exact hret () _ _ _ _ B trivial d_Ci_mixColumns_141
      · refine lv_aload_n E.1 E.2.1 d_Ci_mixColumns_8 rfl (lv_at hl 1 rfl) ?_
        refine x_get E B 0 rfl k_Ci 1 (by decide) wd_100 rfl d_Ci_mixColumns_9 ?_
        refine lv_iload_n E.1 E.2.1 d_Ci_mixColumns_12 rfl (lv_at hl 0 rfl) ?_
        refine x_aldN E B 1 rfl (i := 4 * z) (by omega) (by decide) d_Ci_mixColumns_13 ?_
        refine x_top (show nI ((mx (4 * z) (g_mc g) g) (4 * z)) = nI (g (4 * z)) from congrArg nI (by exact mx_ge (by omega))) ?_
        refine lv_istore_n (lv' := [(2, .int (nI (g (4 * z)))), (1, .int (nI (4 * z))), (0, .ref h0)]) E.1 E.2.1 d_Ci_mixColumns_14 rfl hl (by decide) rfl (fun ls hl => ?_)
        refine lv_aload_n E.1 E.2.1 d_Ci_mixColumns_15 rfl (lv_at hl 2 rfl) ?_
        refine x_get E B 0 rfl k_Ci 1 (by decide) wd_100 rfl d_Ci_mixColumns_16 ?_
        refine lv_iload_n E.1 E.2.1 d_Ci_mixColumns_19 rfl (lv_at hl 1 rfl) ?_
        refine lv_iconst (v := nI 1) E.1 E.2.1 d_Ci_mixColumns_20 (by decide) ?_
        refine x_iadd E d_Ci_mixColumns_21 ?_
        refine x_aldN E B 1 rfl (i := (4 * z) + 1) (by omega) (by decide) d_Ci_mixColumns_22 ?_
        refine x_top (show nI ((mx (4 * z) (g_mc g) g) ((4 * z) + 1)) = nI (g (4 * z + 1)) from congrArg nI (by exact mx_ge (by omega))) ?_
        refine lv_istore_n (lv' := [(3, .int (nI (g (4 * z + 1)))), (2, .int (nI (g (4 * z)))), (1, .int (nI (4 * z))), (0, .ref h0)]) E.1 E.2.1 d_Ci_mixColumns_23 rfl hl (by decide) rfl (fun ls hl => ?_)
        refine lv_aload_n E.1 E.2.1 d_Ci_mixColumns_24 rfl (lv_at hl 3 rfl) ?_
        refine x_get E B 0 rfl k_Ci 1 (by decide) wd_100 rfl d_Ci_mixColumns_25 ?_
        refine lv_iload_n E.1 E.2.1 d_Ci_mixColumns_28 rfl (lv_at hl 2 rfl) ?_
        refine lv_iconst (v := nI 2) E.1 E.2.1 d_Ci_mixColumns_29 (by decide) ?_
        refine x_iadd E d_Ci_mixColumns_30 ?_
        refine x_aldN E B 1 rfl (i := (4 * z) + 2) (by omega) (by decide) d_Ci_mixColumns_31 ?_
        refine x_top (show nI ((mx (4 * z) (g_mc g) g) ((4 * z) + 2)) = nI (g (4 * z + 2)) from congrArg nI (by exact mx_ge (by omega))) ?_
        refine lv_istore (lv' := [(4, .int (nI (g (4 * z + 2)))), (3, .int (nI (g (4 * z + 1)))), (2, .int (nI (g (4 * z)))), (1, .int (nI (4 * z))), (0, .ref h0)]) E.1 E.2.1 d_Ci_mixColumns_32 hl (by decide) rfl (fun ls hl => ?_)
        refine lv_aload_n E.1 E.2.1 d_Ci_mixColumns_34 rfl (lv_at hl 4 rfl) ?_
        refine x_get E B 0 rfl k_Ci 1 (by decide) wd_100 rfl d_Ci_mixColumns_35 ?_
        refine lv_iload_n E.1 E.2.1 d_Ci_mixColumns_38 rfl (lv_at hl 3 rfl) ?_
        refine lv_iconst (v := nI 3) E.1 E.2.1 d_Ci_mixColumns_39 (by decide) ?_
        refine x_iadd E d_Ci_mixColumns_40 ?_
        refine x_aldN E B 1 rfl (i := (4 * z) + 3) (by omega) (by decide) d_Ci_mixColumns_41 ?_
        refine x_top (show nI ((mx (4 * z) (g_mc g) g) ((4 * z) + 3)) = nI (g (4 * z + 3)) from congrArg nI (by exact mx_ge (by omega))) ?_
        refine lv_istore (lv' := [(5, .int (nI (g (4 * z + 3)))), (4, .int (nI (g (4 * z + 2)))), (3, .int (nI (g (4 * z + 1)))), (2, .int (nI (g (4 * z)))), (1, .int (nI (4 * z))), (0, .ref h0)]) E.1 E.2.1 d_Ci_mixColumns_42 hl (by decide) rfl (fun ls hl => ?_)
        refine lv_iload_n E.1 E.2.1 d_Ci_mixColumns_44 rfl (lv_at hl 3 rfl) ?_
        refine lv_iload_n E.1 E.2.1 d_Ci_mixColumns_45 rfl (lv_at hl 2 rfl) ?_
        refine x_ixor E d_Ci_mixColumns_46 ?_
        refine lv_iload E.1 E.2.1 d_Ci_mixColumns_47 (lv_at hl 1 rfl) ?_
        refine x_ixor E d_Ci_mixColumns_49 ?_
        refine lv_iload E.1 E.2.1 d_Ci_mixColumns_50 (lv_at hl 0 rfl) ?_
        refine x_ixor E d_Ci_mixColumns_52 ?_
        refine lv_istore (lv' := [(6, .int (nI ((((g (4 * z)) ^^^ (g (4 * z + 1))) ^^^ (g (4 * z + 2))) ^^^ (g (4 * z + 3))))), (5, .int (nI (g (4 * z + 3)))), (4, .int (nI (g (4 * z + 2)))), (3, .int (nI (g (4 * z + 1)))), (2, .int (nI (g (4 * z)))), (1, .int (nI (4 * z))), (0, .ref h0)]) E.1 E.2.1 d_Ci_mixColumns_53 hl (by decide) rfl (fun ls hl => ?_)
        refine lv_aload_n E.1 E.2.1 d_Ci_mixColumns_55 rfl (lv_at hl 6 rfl) ?_
        refine x_get E B 0 rfl k_Ci 1 (by decide) wd_100 rfl d_Ci_mixColumns_56 ?_
        refine lv_iload_n E.1 E.2.1 d_Ci_mixColumns_59 rfl (lv_at hl 5 rfl) ?_
        refine lv_iload_n E.1 E.2.1 d_Ci_mixColumns_60 rfl (lv_at hl 4 rfl) ?_
        refine lv_iload E.1 E.2.1 d_Ci_mixColumns_61 (lv_at hl 0 rfl) ?_
        refine x_ixor E d_Ci_mixColumns_63 ?_
        refine lv_iload_n E.1 E.2.1 d_Ci_mixColumns_64 rfl (lv_at hl 4 rfl) ?_
        refine lv_iload_n E.1 E.2.1 d_Ci_mixColumns_65 rfl (lv_at hl 3 rfl) ?_
        refine x_ixor E d_Ci_mixColumns_66 ?_
        refine x_cf (x_rS (rest := [.int (nI ((g (4 * z)) ^^^ ((((g (4 * z)) ^^^ (g (4 * z + 1))) ^^^ (g (4 * z + 2))) ^^^ (g (4 * z + 3))))), .int (nI (4 * z)), .ref q2]) E (q_Ci_timesX l ((g (4 * z)) ^^^ (g (4 * z + 1))) (g_xl (hg _ (by omega)) (hg _ (by omega)))) x_pf (gg_S wd_304 wd_305 wd_38 wd_306) p_Ci_timesX rfl rfl ⟨Nat.le_of_ble_eq_true rfl, Nat.le_of_ble_eq_true rfl⟩ rfl hl.1 rfl (Nat.le_of_ble_eq_true rfl) d_Ci_mixColumns_67 ⟨Nat.le_of_ble_eq_true rfl, Nat.le_of_ble_eq_true rfl⟩) ?_
        refine x_ixor E d_Ci_mixColumns_70 ?_
        refine x_astN E B 1 rfl (i := 4 * z) (v := ((g (4 * z)) ^^^ ((((g (4 * z)) ^^^ (g (4 * z + 1))) ^^^ (g (4 * z + 2))) ^^^ (g (4 * z + 3)))) ^^^ (g_x2 ((g (4 * z)) ^^^ (g (4 * z + 1))))) (by omega) (by decide) d_Ci_mixColumns_71 (fun H locs B => ?_)
        have B : xB G A s _ _ ([(h0, .inr (0, [.ref q1, .ref q2, .ref q3])), (q2, x_N G 16 (va_up (mx (4 * z) (g_mc g) g) (4 * z) (((g (4 * z)) ^^^ ((((g (4 * z)) ^^^ (g (4 * z + 1))) ^^^ (g (4 * z + 2))) ^^^ (g (4 * z + 3)))) ^^^ (g_x2 ((g (4 * z)) ^^^ (g (4 * z + 1)))))))]) := B
        have B := B.fn 1 rfl (nA (mx (4 * z + 1) (g_mc g) g)) (mx_fn (g_mc0 g z).symm)
        have B : xB G A s _ _ ([(h0, .inr (0, [.ref q1, .ref q2, .ref q3])), (q2, x_N G 16 (mx (4 * z + 1) (g_mc g) g))]) := B
        refine lv_aload_n E.1 E.2.1 d_Ci_mixColumns_72 rfl (lv_at hl 6 rfl) ?_
        refine x_get E B 0 rfl k_Ci 1 (by decide) wd_100 rfl d_Ci_mixColumns_73 ?_
        refine lv_iload_n E.1 E.2.1 d_Ci_mixColumns_76 rfl (lv_at hl 5 rfl) ?_
        refine lv_iconst (v := nI 1) E.1 E.2.1 d_Ci_mixColumns_77 (by decide) ?_
        refine x_iadd E d_Ci_mixColumns_78 ?_
        refine lv_iload_n E.1 E.2.1 d_Ci_mixColumns_79 rfl (lv_at hl 3 rfl) ?_
        refine lv_iload E.1 E.2.1 d_Ci_mixColumns_80 (lv_at hl 0 rfl) ?_
        refine x_ixor E d_Ci_mixColumns_82 ?_
        refine lv_iload_n E.1 E.2.1 d_Ci_mixColumns_83 rfl (lv_at hl 3 rfl) ?_
        refine lv_iload E.1 E.2.1 d_Ci_mixColumns_84 (lv_at hl 2 rfl) ?_
        refine x_ixor E d_Ci_mixColumns_86 ?_
        refine x_cf (x_rS (rest := [.int (nI ((g (4 * z + 1)) ^^^ ((((g (4 * z)) ^^^ (g (4 * z + 1))) ^^^ (g (4 * z + 2))) ^^^ (g (4 * z + 3))))), .int (nI ((4 * z) + 1)), .ref q2]) E (q_Ci_timesX l ((g (4 * z + 1)) ^^^ (g (4 * z + 2))) (g_xl (hg _ (by omega)) (hg _ (by omega)))) x_pf (gg_S wd_304 wd_305 wd_38 wd_306) p_Ci_timesX rfl rfl ⟨Nat.le_of_ble_eq_true rfl, Nat.le_of_ble_eq_true rfl⟩ rfl hl.1 rfl (Nat.le_of_ble_eq_true rfl) d_Ci_mixColumns_87 ⟨Nat.le_of_ble_eq_true rfl, Nat.le_of_ble_eq_true rfl⟩) ?_
        refine x_ixor E d_Ci_mixColumns_90 ?_
        refine x_astN E B 1 rfl (i := (4 * z) + 1) (v := ((g (4 * z + 1)) ^^^ ((((g (4 * z)) ^^^ (g (4 * z + 1))) ^^^ (g (4 * z + 2))) ^^^ (g (4 * z + 3)))) ^^^ (g_x2 ((g (4 * z + 1)) ^^^ (g (4 * z + 2))))) (by omega) (by decide) d_Ci_mixColumns_91 (fun H locs B => ?_)
        have B : xB G A s _ _ ([(h0, .inr (0, [.ref q1, .ref q2, .ref q3])), (q2, x_N G 16 (va_up (mx (4 * z + 1) (g_mc g) g) ((4 * z) + 1) (((g (4 * z + 1)) ^^^ ((((g (4 * z)) ^^^ (g (4 * z + 1))) ^^^ (g (4 * z + 2))) ^^^ (g (4 * z + 3)))) ^^^ (g_x2 ((g (4 * z + 1)) ^^^ (g (4 * z + 2)))))))]) := B
        have B := B.fn 1 rfl (nA (mx (4 * z + 2) (g_mc g) g)) (mx_fn (g_mc1 g z).symm)
        have B : xB G A s _ _ ([(h0, .inr (0, [.ref q1, .ref q2, .ref q3])), (q2, x_N G 16 (mx (4 * z + 2) (g_mc g) g))]) := B
        refine lv_aload_n E.1 E.2.1 d_Ci_mixColumns_92 rfl (lv_at hl 6 rfl) ?_
        refine x_get E B 0 rfl k_Ci 1 (by decide) wd_100 rfl d_Ci_mixColumns_93 ?_
        refine lv_iload_n E.1 E.2.1 d_Ci_mixColumns_96 rfl (lv_at hl 5 rfl) ?_
        refine lv_iconst (v := nI 2) E.1 E.2.1 d_Ci_mixColumns_97 (by decide) ?_
        refine x_iadd E d_Ci_mixColumns_98 ?_
        refine lv_iload E.1 E.2.1 d_Ci_mixColumns_99 (lv_at hl 2 rfl) ?_
        refine lv_iload E.1 E.2.1 d_Ci_mixColumns_101 (lv_at hl 0 rfl) ?_
        refine x_ixor E d_Ci_mixColumns_103 ?_
        refine lv_iload E.1 E.2.1 d_Ci_mixColumns_104 (lv_at hl 2 rfl) ?_
        refine lv_iload E.1 E.2.1 d_Ci_mixColumns_106 (lv_at hl 1 rfl) ?_
        refine x_ixor E d_Ci_mixColumns_108 ?_
        refine x_cf (x_rS (rest := [.int (nI ((g (4 * z + 2)) ^^^ ((((g (4 * z)) ^^^ (g (4 * z + 1))) ^^^ (g (4 * z + 2))) ^^^ (g (4 * z + 3))))), .int (nI ((4 * z) + 2)), .ref q2]) E (q_Ci_timesX l ((g (4 * z + 2)) ^^^ (g (4 * z + 3))) (g_xl (hg _ (by omega)) (hg _ (by omega)))) x_pf (gg_S wd_304 wd_305 wd_38 wd_306) p_Ci_timesX rfl rfl ⟨Nat.le_of_ble_eq_true rfl, Nat.le_of_ble_eq_true rfl⟩ rfl hl.1 rfl (Nat.le_of_ble_eq_true rfl) d_Ci_mixColumns_109 ⟨Nat.le_of_ble_eq_true rfl, Nat.le_of_ble_eq_true rfl⟩) ?_
        refine x_ixor E d_Ci_mixColumns_112 ?_
        refine x_astN E B 1 rfl (i := (4 * z) + 2) (v := ((g (4 * z + 2)) ^^^ ((((g (4 * z)) ^^^ (g (4 * z + 1))) ^^^ (g (4 * z + 2))) ^^^ (g (4 * z + 3)))) ^^^ (g_x2 ((g (4 * z + 2)) ^^^ (g (4 * z + 3))))) (by omega) (by decide) d_Ci_mixColumns_113 (fun H locs B => ?_)
        have B : xB G A s _ _ ([(h0, .inr (0, [.ref q1, .ref q2, .ref q3])), (q2, x_N G 16 (va_up (mx (4 * z + 2) (g_mc g) g) ((4 * z) + 2) (((g (4 * z + 2)) ^^^ ((((g (4 * z)) ^^^ (g (4 * z + 1))) ^^^ (g (4 * z + 2))) ^^^ (g (4 * z + 3)))) ^^^ (g_x2 ((g (4 * z + 2)) ^^^ (g (4 * z + 3)))))))]) := B
        have B := B.fn 1 rfl (nA (mx (4 * z + 3) (g_mc g) g)) (mx_fn (g_mc2 g z).symm)
        have B : xB G A s _ _ ([(h0, .inr (0, [.ref q1, .ref q2, .ref q3])), (q2, x_N G 16 (mx (4 * z + 3) (g_mc g) g))]) := B
        refine lv_aload_n E.1 E.2.1 d_Ci_mixColumns_114 rfl (lv_at hl 6 rfl) ?_
        refine x_get E B 0 rfl k_Ci 1 (by decide) wd_100 rfl d_Ci_mixColumns_115 ?_
        refine lv_iload_n E.1 E.2.1 d_Ci_mixColumns_118 rfl (lv_at hl 5 rfl) ?_
        refine lv_iconst (v := nI 3) E.1 E.2.1 d_Ci_mixColumns_119 (by decide) ?_
        refine x_iadd E d_Ci_mixColumns_120 ?_
        refine lv_iload E.1 E.2.1 d_Ci_mixColumns_121 (lv_at hl 1 rfl) ?_
        refine lv_iload E.1 E.2.1 d_Ci_mixColumns_123 (lv_at hl 0 rfl) ?_
        refine x_ixor E d_Ci_mixColumns_125 ?_
        refine lv_iload E.1 E.2.1 d_Ci_mixColumns_126 (lv_at hl 1 rfl) ?_
        refine lv_iload_n E.1 E.2.1 d_Ci_mixColumns_128 rfl (lv_at hl 4 rfl) ?_
        refine x_ixor E d_Ci_mixColumns_129 ?_
        refine x_cf (x_rS (rest := [.int (nI ((g (4 * z + 3)) ^^^ ((((g (4 * z)) ^^^ (g (4 * z + 1))) ^^^ (g (4 * z + 2))) ^^^ (g (4 * z + 3))))), .int (nI ((4 * z) + 3)), .ref q2]) E (q_Ci_timesX l ((g (4 * z + 3)) ^^^ (g (4 * z))) (g_xl (hg _ (by omega)) (hg _ (by omega)))) x_pf (gg_S wd_304 wd_305 wd_38 wd_306) p_Ci_timesX rfl rfl ⟨Nat.le_of_ble_eq_true rfl, Nat.le_of_ble_eq_true rfl⟩ rfl hl.1 rfl (Nat.le_of_ble_eq_true rfl) d_Ci_mixColumns_130 ⟨Nat.le_of_ble_eq_true rfl, Nat.le_of_ble_eq_true rfl⟩) ?_
        refine x_ixor E d_Ci_mixColumns_133 ?_
        refine x_astN E B 1 rfl (i := (4 * z) + 3) (v := ((g (4 * z + 3)) ^^^ ((((g (4 * z)) ^^^ (g (4 * z + 1))) ^^^ (g (4 * z + 2))) ^^^ (g (4 * z + 3)))) ^^^ (g_x2 ((g (4 * z + 3)) ^^^ (g (4 * z))))) (by omega) (by decide) d_Ci_mixColumns_134 (fun H locs B => ?_)
        have B : xB G A s _ _ ([(h0, .inr (0, [.ref q1, .ref q2, .ref q3])), (q2, x_N G 16 (va_up (mx (4 * z + 3) (g_mc g) g) ((4 * z) + 3) (((g (4 * z + 3)) ^^^ ((((g (4 * z)) ^^^ (g (4 * z + 1))) ^^^ (g (4 * z + 2))) ^^^ (g (4 * z + 3)))) ^^^ (g_x2 ((g (4 * z + 3)) ^^^ (g (4 * z)))))))]) := B
        have B := B.fn 1 rfl (nA (mx (4 * z + 4) (g_mc g) g)) (mx_fn (g_mc3 g z).symm)
        have B : xB G A s _ _ ([(h0, .inr (0, [.ref q1, .ref q2, .ref q3])), (q2, x_N G 16 (mx (4 * z + 4) (g_mc g) g))]) := B
        refine x_inc E 4 (lv' := [(1, .int (nI ((4 * z) + 4))), (6, .int (nI ((((g (4 * z)) ^^^ (g (4 * z + 1))) ^^^ (g (4 * z + 2))) ^^^ (g (4 * z + 3))))), (5, .int (nI (g (4 * z + 3)))), (4, .int (nI (g (4 * z + 2)))), (3, .int (nI (g (4 * z + 1)))), (2, .int (nI (g (4 * z)))), (0, .ref h0)]) d_Ci_mixColumns_135 hl (k := 5) rfl rfl (by decide) rfl (fun ls hl => ?_)
        refine lv_goto (tgt := 2) E.1 E.2.1 d_Ci_mixColumns_138 (by decide) ?_
        exact ih2  (z + 1) (by omega) (by omega) _ _ _ B (lv_sub hl [0, 6] rfl)
  have B := B.fn 1 rfl (nA (mx (4 * 0) (g_mc g) g)) (mx_z _ _)
  have B : xB G A s _ _ ([(h0, .inr (0, [.ref q1, .ref q2, .ref q3])), (q2, x_N G 16 (mx (4 * 0) (g_mc g) g))]) := B
  exact hL2 (5) 0 (by omega) (by omega) _ _ _ B (lv_sub hl [0, 1] rfl)
set_option maxHeartbeats 4000000 in
set_option maxRecDepth 100000 in
theorem q_Ci_makeTurnedWord (G : xG) (l : Launch) (h0 q1 q2 q3 : Nat) (t : Nat) (key k0 : Nat → Nat) (ht : 1 ≤ t) (ht2 : t ≤ 10) (hk : g_bt 16 key) : xMv G l y_Ci_makeTurnedWord c_Ci_makeTurnedWord 5 ({ frames := 0, cells := 0, slots := 0, locals := 0 }) [.ref h0, .int (nI (16 * t)), .int (nI (g_pw (t - 1)))] [] [(h0, .inr (0, [.ref q1, .ref q2, .ref q3])), (q1, x_N G 176 (mx (16 * t) (g_sch key) k0))] Unit (fun _ => True) (fun u => [(h0, .inr (0, [.ref q1, .ref q2, .ref q3])), (q1, x_N G 176 (mx (16 * t + 4) (g_sch key) k0))]) 0 0 := by
  refine xMv.by r_Ci (by decide +kernel) (Nat.le_of_ble_eq_true rfl) rfl ?_
  intro p e s m args below meth c A ls Q E hin B hro hl hret
  have hl : lv_has ls 5 [(0, .ref h0), (1, .int (nI (16 * t))), (2, .int (nI (g_pw (t - 1))))] := hl
  refine lv_iconst (v := nI 0) E.1 E.2.1 d_Ci_makeTurnedWord_0 (by decide) ?_
  refine lv_istore_n (lv' := [(3, .int (nI 0)), (0, .ref h0), (1, .int (nI (16 * t))), (2, .int (nI (g_pw (t - 1))))]) E.1 E.2.1 d_Ci_makeTurnedWord_1 rfl hl (by decide) rfl (fun ls hl => ?_)
  have hL2 : ∀ (kf : Nat) (k : Nat), 4 - k < kf → (k ≤ 4) → ∀ (H : Heap) (locs : List Loc) (ls : Array Slot), xB G A s H locs ([(h0, .inr (0, [.ref q1, .ref q2, .ref q3])), (q1, x_N G 176 (mx (16 * t + k) (g_s1 (g_sch key) t) k0))]) → lv_has ls 5 [(3, .int (nI k)), (0, .ref h0), (1, .int (nI (16 * t))), (2, .int (nI (g_pw (t - 1))))] → W p l e ({ frames := 0, cells := 0, slots := 0, locals := 0 }) s m args below meth c H locs 0 0 Q (F0 m 2 ls []) := by
    intro k2
    induction k2 with
    | zero =>
      intro k hk
      exact absurd hk (Nat.not_lt_zero _)
    | succ k2 ih2 =>
      intro k hk2 hi H locs ls B hl
      refine lv_iload_n E.1 E.2.1 d_Ci_makeTurnedWord_2 rfl (lv_at hl 0 rfl) ?_
      refine lv_iconst (v := nI 4) E.1 E.2.1 d_Ci_makeTurnedWord_3 (by decide) ?_
      refine x_ge (tgt := 55) E d_Ci_makeTurnedWord_4 (by decide) (by omega) (by omega) (fun c1 => ?_) (fun c1 => ?_)
      · obtain rfl : k = 4 := by omega
        refine lv_aload_n E.1 E.2.1 d_Ci_makeTurnedWord_55 rfl (lv_at hl 1 rfl) ?_
        refine x_get E B 0 rfl k_Ci 0 (by decide) wd_99 rfl d_Ci_makeTurnedWord_56 ?_
        refine lv_iload_n E.1 E.2.1 d_Ci_makeTurnedWord_59 rfl (lv_at hl 2 rfl) ?_
        refine lv_dup2_11 E.1 E.2.1 d_Ci_makeTurnedWord_60 rfl rfl ?_
        refine x_aldN E B 1 rfl (i := 16 * t) (by omega) (by decide) d_Ci_makeTurnedWord_61 ?_
        refine x_top (show nI ((mx (16 * t + 4) (g_s1 (g_sch key) t) k0) (16 * t)) = nI (g_s1 (g_sch key) t (16 * t)) from congrArg nI (by exact mx_lt (by omega))) ?_
        refine lv_iload_n E.1 E.2.1 d_Ci_makeTurnedWord_62 rfl (lv_at hl 3 rfl) ?_
        refine x_ixor E d_Ci_makeTurnedWord_63 ?_
        refine x_astN E B 1 rfl (i := 16 * t) (v := (g_s1 (g_sch key) t (16 * t)) ^^^ (g_pw (t - 1))) (by omega) (by decide) d_Ci_makeTurnedWord_64 (fun H locs B => ?_)
        have B : xB G A s _ _ ([(h0, .inr (0, [.ref q1, .ref q2, .ref q3])), (q1, x_N G 176 (va_up (mx (16 * t + 4) (g_s1 (g_sch key) t) k0) (16 * t) ((g_s1 (g_sch key) t (16 * t)) ^^^ (g_pw (t - 1)))))]) := B
        have B := B.fn 1 rfl (nA (mx (16 * t + 4) (g_sch key) k0)) (g_turnE (g_turn0 ht))
        have B : xB G A s _ _ ([(h0, .inr (0, [.ref q1, .ref q2, .ref q3])), (q1, x_N G 176 (mx (16 * t + 4) (g_sch key) k0))]) := B
        exact hret () _ _ _ _ B trivial d_Ci_makeTurnedWord_65
      · refine x_gets E B B.2.2.2.2.1.2.2.1.1 wd_302 d_Ci_makeTurnedWord_7 ?_
        refine lv_aload_n E.1 E.2.1 d_Ci_makeTurnedWord_10 rfl (lv_at hl 1 rfl) ?_
        refine x_get E B 0 rfl k_Ci 0 (by decide) wd_99 rfl d_Ci_makeTurnedWord_11 ?_
        refine lv_iload_n E.1 E.2.1 d_Ci_makeTurnedWord_14 rfl (lv_at hl 2 rfl) ?_
        refine lv_iconst (v := nI 4) E.1 E.2.1 d_Ci_makeTurnedWord_15 (by decide) ?_
        refine x_isub E d_Ci_makeTurnedWord_16 (by omega) ?_
        refine lv_iload_n E.1 E.2.1 d_Ci_makeTurnedWord_17 rfl (lv_at hl 0 rfl) ?_
        refine lv_iconst (v := nI 1) E.1 E.2.1 d_Ci_makeTurnedWord_18 (by decide) ?_
        refine x_iadd E d_Ci_makeTurnedWord_19 ?_
        refine lv_iconst (v := nI 4) E.1 E.2.1 d_Ci_makeTurnedWord_20 (by decide) ?_
        refine x_irem E d_Ci_makeTurnedWord_21 (by omega) (by decide) (by decide) ?_
        refine x_iadd E d_Ci_makeTurnedWord_22 ?_
        refine x_aldN E B 1 rfl (i := ((16 * t) - 4) + ((k + 1) % 4)) (by omega) (by decide) d_Ci_makeTurnedWord_23 ?_
        refine x_top (show nI ((mx (16 * t + k) (g_s1 (g_sch key) t) k0) (((16 * t) - 4) + ((k + 1) % 4))) = nI (g_sch key (16 * t - 4 + (k + 1) % 4)) from congrArg nI (by rw [mx_lt (by omega), g_s1_ne (by omega)])) ?_
        refine x_tld E B B.2.2.2.2.1.2.2.1.2 (i := g_sch key (16 * t - 4 + (k + 1) % 4)) (g_sch_bt hk _) (by decide) d_Ci_makeTurnedWord_24 ?_
        refine lv_istore (lv' := [(4, .int (nI (k_S (g_sch key (16 * t - 4 + (k + 1) % 4))))), (3, .int (nI k)), (0, .ref h0), (1, .int (nI (16 * t))), (2, .int (nI (g_pw (t - 1))))]) E.1 E.2.1 d_Ci_makeTurnedWord_25 hl (by decide) rfl (fun ls hl => ?_)
        refine lv_aload_n E.1 E.2.1 d_Ci_makeTurnedWord_27 rfl (lv_at hl 2 rfl) ?_
        refine x_get E B 0 rfl k_Ci 0 (by decide) wd_99 rfl d_Ci_makeTurnedWord_28 ?_
        refine lv_iload_n E.1 E.2.1 d_Ci_makeTurnedWord_31 rfl (lv_at hl 3 rfl) ?_
        refine lv_iload_n E.1 E.2.1 d_Ci_makeTurnedWord_32 rfl (lv_at hl 1 rfl) ?_
        refine x_iadd E d_Ci_makeTurnedWord_33 ?_
        refine lv_aload_n E.1 E.2.1 d_Ci_makeTurnedWord_34 rfl (lv_at hl 2 rfl) ?_
        refine x_get E B 0 rfl k_Ci 0 (by decide) wd_99 rfl d_Ci_makeTurnedWord_35 ?_
        refine lv_iload_n E.1 E.2.1 d_Ci_makeTurnedWord_38 rfl (lv_at hl 3 rfl) ?_
        refine lv_bipush (v := nI 16) E.1 E.2.1 d_Ci_makeTurnedWord_39 (by decide) ?_
        refine x_isub E d_Ci_makeTurnedWord_41 (by omega) ?_
        refine lv_iload_n E.1 E.2.1 d_Ci_makeTurnedWord_42 rfl (lv_at hl 1 rfl) ?_
        refine x_iadd E d_Ci_makeTurnedWord_43 ?_
        refine x_aldN E B 1 rfl (i := ((16 * t) - 16) + k) (by omega) (by decide) d_Ci_makeTurnedWord_44 ?_
        refine x_top (show nI ((mx (16 * t + k) (g_s1 (g_sch key) t) k0) (((16 * t) - 16) + k)) = nI (g_sch key (16 * t - 16 + k)) from congrArg nI (by rw [mx_lt (by omega), g_s1_ne (by omega)])) ?_
        refine lv_iload E.1 E.2.1 d_Ci_makeTurnedWord_45 (lv_at hl 0 rfl) ?_
        refine x_ixor E d_Ci_makeTurnedWord_47 ?_
        refine x_astN E B 1 rfl (i := (16 * t) + k) (v := (g_sch key (16 * t - 16 + k)) ^^^ (k_S (g_sch key (16 * t - 4 + (k + 1) % 4)))) (by omega) (by decide) d_Ci_makeTurnedWord_48 (fun H locs B => ?_)
        have B : xB G A s _ _ ([(h0, .inr (0, [.ref q1, .ref q2, .ref q3])), (q1, x_N G 176 (va_up (mx (16 * t + k) (g_s1 (g_sch key) t) k0) ((16 * t) + k) ((g_sch key (16 * t - 16 + k)) ^^^ (k_S (g_sch key (16 * t - 4 + (k + 1) % 4))))))]) := B
        have B := B.fn 1 rfl (nA (mx (16 * t + (k + 1)) (g_s1 (g_sch key) t) k0)) (mx_fn (g_turn ht (by omega)))
        have B : xB G A s _ _ ([(h0, .inr (0, [.ref q1, .ref q2, .ref q3])), (q1, x_N G 176 (mx (16 * t + (k + 1)) (g_s1 (g_sch key) t) k0))]) := B
        refine x_inc E 1 (lv' := [(3, .int (nI (k + 1))), (4, .int (nI (k_S (g_sch key (16 * t - 4 + (k + 1) % 4))))), (0, .ref h0), (1, .int (nI (16 * t))), (2, .int (nI (g_pw (t - 1))))]) d_Ci_makeTurnedWord_49 hl (k := 1) rfl rfl (by decide) rfl (fun ls hl => ?_)
        refine lv_goto (tgt := 2) E.1 E.2.1 d_Ci_makeTurnedWord_52 (by decide) ?_
        exact ih2  (k + 1) (by omega) (by omega) _ _ _ B (lv_sub hl [0, 2, 3, 4] rfl)
  have B := B.fn 1 rfl (nA (mx (16 * t + 0) (g_s1 (g_sch key) t) k0)) (g_turnS)
  have B : xB G A s _ _ ([(h0, .inr (0, [.ref q1, .ref q2, .ref q3])), (q1, x_N G 176 (mx (16 * t + 0) (g_s1 (g_sch key) t) k0))]) := B
  exact hL2 (5) 0 (by omega) (by omega) _ _ _ B (lv_sub hl [0, 1, 2, 3] rfl)
set_option maxHeartbeats 4000000 in
set_option maxRecDepth 100000 in
theorem q_Ci_takeKey (G : xG) (l : Launch) (h0 q1 q2 q3 : Nat) (kq : Nat) (key k0 : Nat → Nat) (hk : g_bt 16 key) : xMv G l y_Ci_takeKey c_Ci_takeKey 5 ({ frames := 1, cells := 0, slots := 0, locals := 60 }) [.ref h0, .ref kq] [(kq, 16, nA key)] [(h0, .inr (0, [.ref q1, .ref q2, .ref q3])), (q1, x_N G 176 k0)] Unit (fun _ => True) (fun u => [(h0, .inr (0, [.ref q1, .ref q2, .ref q3])), (q1, x_N G 176 (g_sch key))]) 0 0 := by
  refine xMv.by r_Ci (by decide +kernel) (Nat.le_of_ble_eq_true rfl) rfl ?_
  intro p e s m args below meth c A ls Q E hin B hro hl hret
  have hl : lv_has ls 5 [(0, .ref h0), (1, .ref kq)] := hl
  have hR0 : x_R A s s.heap kq 16 (nA key) := hro _ (List.mem_of_getElem? (i := 0) rfl)
  refine lv_aload_n E.1 E.2.1 d_Ci_takeKey_0 rfl (lv_at hl 1 rfl) ?_
  refine lv_iconst (v := nI 0) E.1 E.2.1 d_Ci_takeKey_1 (by decide) ?_
  refine lv_aload_n E.1 E.2.1 d_Ci_takeKey_2 rfl (lv_at hl 0 rfl) ?_
  refine x_get E B 0 rfl k_Ci 0 (by decide) wd_99 rfl d_Ci_takeKey_3 ?_
  refine lv_iconst (v := nI 0) E.1 E.2.1 d_Ci_takeKey_6 (by decide) ?_
  refine lv_bipush (v := nI 16) E.1 E.2.1 d_Ci_takeKey_7 (by decide) ?_
  refine x_cpt E B wd_297 wd_217 wd_216 wd_41 hR0 1 (sp := 0) (dp := 0) (n := 16) rfl (by omega) (by omega) (by decide) (by decide) hl.1 (Nat.le_of_ble_eq_true rfl) (Nat.le_of_ble_eq_true rfl) d_Ci_takeKey_9 (fun H locs B => ?_)
  rw [x_cpN] at B
  have B : xB G A s _ _ ([(h0, .inr (0, [.ref q1, .ref q2, .ref q3])), (q1, x_N G 176 (va_cpy key k0 0 0 16))]) := B
  have B := B.fn 1 rfl (nA (mx (16 * 0 + 16) (g_sch key) k0)) (g_cpk (fun j h => g_sch_0 h))
  have B : xB G A s _ _ ([(h0, .inr (0, [.ref q1, .ref q2, .ref q3])), (q1, x_N G 176 (mx (16 * 0 + 16) (g_sch key) k0))]) := B
  refine lv_iconst (v := nI 1) E.1 E.2.1 d_Ci_takeKey_12 (by decide) ?_
  refine lv_istore_n (lv' := [(2, .int (nI 1)), (0, .ref h0), (1, .ref kq)]) E.1 E.2.1 d_Ci_takeKey_13 rfl hl (by decide) rfl (fun ls hl => ?_)
  refine lv_bipush (v := nI 16) E.1 E.2.1 d_Ci_takeKey_14 (by decide) ?_
  refine lv_istore_n (lv' := [(3, .int (nI 16)), (2, .int (nI 1)), (0, .ref h0), (1, .ref kq)]) E.1 E.2.1 d_Ci_takeKey_16 rfl hl (by decide) rfl (fun ls hl => ?_)
  have hL17 : ∀ (kf : Nat) (t : Nat), 10 - t < kf → (t ≤ 10) → ∀ (H : Heap) (locs : List Loc) (ls : Array Slot), xB G A s H locs ([(h0, .inr (0, [.ref q1, .ref q2, .ref q3])), (q1, x_N G 176 (mx (16 * t + 16) (g_sch key) k0))]) → lv_has ls 5 [(3, .int (nI (16 * t + 16))), (2, .int (nI (g_pw t))), (0, .ref h0), (1, .ref kq)] → W p l e ({ frames := 1, cells := 0, slots := 0, locals := 60 }) s m args below meth c H locs 0 0 Q (F0 m 17 ls []) := by
    intro k17
    induction k17 with
    | zero =>
      intro t hk
      exact absurd hk (Nat.not_lt_zero _)
    | succ k17 ih17 =>
      intro t hk17 ht H locs ls B hl
      refine lv_iload_n E.1 E.2.1 d_Ci_takeKey_17 rfl (lv_at hl 0 rfl) ?_
      refine lv_aload_n E.1 E.2.1 d_Ci_takeKey_18 rfl (lv_at hl 2 rfl) ?_
      refine x_get E B 0 rfl k_Ci 0 (by decide) wd_99 rfl d_Ci_takeKey_19 ?_
      refine x_alen E B 1 rfl d_Ci_takeKey_22 ?_
      refine x_ge (tgt := 90) E d_Ci_takeKey_23 (by decide) (by omega) (by omega) (fun c1 => ?_) (fun c1 => ?_)
      · obtain rfl : t = 10 := by omega
        have B := B.fn 1 rfl (nA (g_sch key)) (mx_e)
        have B : xB G A s _ _ ([(h0, .inr (0, [.ref q1, .ref q2, .ref q3])), (q1, x_N G 176 (g_sch key))]) := B
        exact hret () _ _ _ _ B trivial d_Ci_takeKey_90
      · refine lv_aload_n E.1 E.2.1 d_Ci_takeKey_26 rfl (lv_at hl 2 rfl) ?_
        refine lv_iload_n E.1 E.2.1 d_Ci_takeKey_27 rfl (lv_at hl 0 rfl) ?_
        refine lv_iload_n E.1 E.2.1 d_Ci_takeKey_28 rfl (lv_at hl 1 rfl) ?_
        refine x_cv (ws' := (fun u => [(h0, .inr (0, [.ref q1, .ref q2, .ref q3])), (q1, x_N G 176 (mx (16 * (t + 1) + 4) (g_sch key) k0))])) (wr := []) B (x_rV (rest := []) E B (q_Ci_makeTurnedWord G l h0 q1 q2 q3 (t + 1) key k0 (by omega) (by omega) (hk) _) (x_pre B [0, 1] rfl (by decide) x_ro0) 0 rfl k_Ci (gg_V wd_298 wd_300 wd_9 wd_38 wd_301) ⟨rfl, p_Ci_makeTurnedWord⟩ rfl rfl ⟨Nat.le_of_ble_eq_true rfl, Nat.le_of_ble_eq_true rfl⟩ rfl hl.1 rfl (Nat.le_of_ble_eq_true rfl) d_Ci_takeKey_29 ⟨Nat.le_of_ble_eq_true rfl, Nat.le_of_ble_eq_true rfl⟩) [0, 1] [] [0, 1] rfl rfl (by decide) (by decide) (by decide) (fun _ => rfl) (fun u29 H locs hw29 B => ?_)
        have B : xB G A s _ _ ([(h0, .inr (0, [.ref q1, .ref q2, .ref q3])), (q1, x_N G 176 (mx (16 * (t + 1) + 4) (g_sch key) k0))]) := B
        refine lv_iload_n E.1 E.2.1 d_Ci_takeKey_32 rfl (lv_at hl 0 rfl) ?_
        refine lv_iconst (v := nI 4) E.1 E.2.1 d_Ci_takeKey_33 (by decide) ?_
        refine x_iadd E d_Ci_takeKey_34 ?_
        refine lv_istore (lv' := [(4, .int (nI ((16 * t + 16) + 4))), (3, .int (nI (16 * t + 16))), (2, .int (nI (g_pw t))), (0, .ref h0), (1, .ref kq)]) E.1 E.2.1 d_Ci_takeKey_35 hl (by decide) rfl (fun ls hl => ?_)
        have hL37 : ∀ (kf : Nat) (i : Nat), 16 * t + 32 - i < kf → (16 * t + 20 ≤ i) → (i ≤ 16 * t + 16 + 16) → ∀ (H : Heap) (locs : List Loc) (ls : Array Slot), xB G A s H locs ([(h0, .inr (0, [.ref q1, .ref q2, .ref q3])), (q1, x_N G 176 (mx i (g_sch key) k0))]) → lv_has ls 5 [(4, .int (nI i)), (3, .int (nI (16 * t + 16))), (2, .int (nI (g_pw t))), (0, .ref h0), (1, .ref kq)] → W p l e ({ frames := 1, cells := 0, slots := 0, locals := 60 }) s m args below meth c H locs 0 0 Q (F0 m 37 ls []) := by
          intro k37
          induction k37 with
          | zero =>
            intro i hk
            exact absurd hk (Nat.not_lt_zero _)
          | succ k37 ih37 =>
            intro i hk37 hi hi2 H locs ls B hl
            refine lv_iload E.1 E.2.1 d_Ci_takeKey_37 (lv_at hl 0 rfl) ?_
            refine lv_iload_n E.1 E.2.1 d_Ci_takeKey_39 rfl (lv_at hl 1 rfl) ?_
            refine lv_bipush (v := nI 16) E.1 E.2.1 d_Ci_takeKey_40 (by decide) ?_
            refine x_iadd E d_Ci_takeKey_42 ?_
            refine x_ge (tgt := 79) E d_Ci_takeKey_43 (by decide) (by omega) (by omega) (fun c2 => ?_) (fun c2 => ?_)
            · obtain rfl : i = 16 * t + 16 + 16 := by omega
              refine lv_iload_n E.1 E.2.1 d_Ci_takeKey_79 rfl (lv_at hl 2 rfl) ?_
              refine x_cf (x_rS (rest := []) E (q_Ci_timesX l (g_pw t) (g_pw_lt _)) x_pf (gg_S wd_304 wd_305 wd_38 wd_306) p_Ci_timesX rfl rfl ⟨Nat.le_of_ble_eq_true rfl, Nat.le_of_ble_eq_true rfl⟩ rfl hl.1 rfl (Nat.le_of_ble_eq_true rfl) d_Ci_takeKey_80 ⟨Nat.le_of_ble_eq_true rfl, Nat.le_of_ble_eq_true rfl⟩) ?_
              refine lv_istore_n (lv' := [(2, .int (nI (g_x2 (g_pw t)))), (4, .int (nI (16 * t + 16 + 16))), (3, .int (nI (16 * t + 16))), (0, .ref h0), (1, .ref kq)]) E.1 E.2.1 d_Ci_takeKey_83 rfl hl (by decide) rfl (fun ls hl => ?_)
              refine x_inc E 16 (lv' := [(3, .int (nI ((16 * t + 16) + 16))), (2, .int (nI (g_x2 (g_pw t)))), (4, .int (nI (16 * t + 16 + 16))), (0, .ref h0), (1, .ref kq)]) d_Ci_takeKey_84 hl (k := 2) rfl rfl (by decide) rfl (fun ls hl => ?_)
              refine lv_goto (tgt := 17) E.1 E.2.1 d_Ci_takeKey_87 (by decide) ?_
              exact ih17  (t + 1) (by omega) (by omega) _ _ _ B (lv_sub hl [0, 1, 3, 4] rfl)
            · refine lv_aload_n E.1 E.2.1 d_Ci_takeKey_46 rfl (lv_at hl 3 rfl) ?_
              refine x_get E B 0 rfl k_Ci 0 (by decide) wd_99 rfl d_Ci_takeKey_47 ?_
              refine lv_iload E.1 E.2.1 d_Ci_takeKey_50 (lv_at hl 0 rfl) ?_
              refine lv_aload_n E.1 E.2.1 d_Ci_takeKey_52 rfl (lv_at hl 3 rfl) ?_
              refine x_get E B 0 rfl k_Ci 0 (by decide) wd_99 rfl d_Ci_takeKey_53 ?_
              refine lv_iload E.1 E.2.1 d_Ci_takeKey_56 (lv_at hl 0 rfl) ?_
              refine lv_bipush (v := nI 16) E.1 E.2.1 d_Ci_takeKey_58 (by decide) ?_
              refine x_isub E d_Ci_takeKey_60 (by omega) ?_
              refine x_aldN E B 1 rfl (i := i - 16) (by omega) (by decide) d_Ci_takeKey_61 ?_
              refine x_top (show nI ((mx i (g_sch key) k0) (i - 16)) = nI (g_sch key (i - 16)) from congrArg nI (by exact mx_lt (by omega))) ?_
              refine lv_aload_n E.1 E.2.1 d_Ci_takeKey_62 rfl (lv_at hl 3 rfl) ?_
              refine x_get E B 0 rfl k_Ci 0 (by decide) wd_99 rfl d_Ci_takeKey_63 ?_
              refine lv_iload E.1 E.2.1 d_Ci_takeKey_66 (lv_at hl 0 rfl) ?_
              refine lv_iconst (v := nI 4) E.1 E.2.1 d_Ci_takeKey_68 (by decide) ?_
              refine x_isub E d_Ci_takeKey_69 (by omega) ?_
              refine x_aldN E B 1 rfl (i := i - 4) (by omega) (by decide) d_Ci_takeKey_70 ?_
              refine x_top (show nI ((mx i (g_sch key) k0) (i - 4)) = nI (g_sch key (i - 4)) from congrArg nI (by exact mx_lt (by omega))) ?_
              refine x_ixor E d_Ci_takeKey_71 ?_
              refine x_astN E B 1 rfl (i := i) (v := (g_sch key (i - 16)) ^^^ (g_sch key (i - 4))) (by omega) (by decide) d_Ci_takeKey_72 (fun H locs B => ?_)
              have B : xB G A s _ _ ([(h0, .inr (0, [.ref q1, .ref q2, .ref q3])), (q1, x_N G 176 (va_up (mx i (g_sch key) k0) i ((g_sch key (i - 16)) ^^^ (g_sch key (i - 4)))))]) := B
              have B := B.fn 1 rfl (nA (mx (i + 1) (g_sch key) k0)) (mx_fn (g_sch_2 (by omega) (by omega)).symm)
              have B : xB G A s _ _ ([(h0, .inr (0, [.ref q1, .ref q2, .ref q3])), (q1, x_N G 176 (mx (i + 1) (g_sch key) k0))]) := B
              refine x_inc E 1 (lv' := [(4, .int (nI (i + 1))), (3, .int (nI (16 * t + 16))), (2, .int (nI (g_pw t))), (0, .ref h0), (1, .ref kq)]) d_Ci_takeKey_73 hl (k := 0) rfl rfl (by decide) rfl (fun ls hl => ?_)
              refine lv_goto (tgt := 37) E.1 E.2.1 d_Ci_takeKey_76 (by decide) ?_
              exact ih37  (i + 1) (by omega) (by omega) (by omega) _ _ _ B (lv_sub hl [0, 1, 2, 3, 4] rfl)
        exact hL37 (13) (16 * t + 16 + 4) (by omega) (by omega) (by omega) _ _ _ B (lv_sub hl [0, 1, 2, 3, 4] rfl)
  exact hL17 (11) 0 (by omega) (by omega) _ _ _ B (lv_sub hl [0, 1, 2, 3] rfl)
set_option maxHeartbeats 4000000 in
set_option maxRecDepth 100000 in
theorem q_Ci_encrypt (G : xG) (l : Launch) (h0 q1 q2 q3 : Nat) (bq iq ni at_ : Nat) (K g v gi ctr : Nat → Nat) (hK : ∀ j, K j < 256) (hc : g_bt 16 ctr) (ha : at_ + 16 ≤ ni) (hni : ni < 100000) : xMv G l y_Ci_encrypt c_Ci_encrypt 5 ({ frames := 2, cells := 0, slots := 0, locals := 81 }) [.ref h0, .ref bq, .ref iq, .int (nI at_)] [(bq, 16, nA ctr)] [(h0, .inr (0, [.ref q1, .ref q2, .ref q3])), (q1, x_N G 176 K), (q2, x_N G 16 g), (q3, x_N G 16 v), (iq, x_N G ni gi)] Unit (fun _ => True) (fun u => [(h0, .inr (0, [.ref q1, .ref q2, .ref q3])), (q1, x_N G 176 K), (q2, x_N G 16 (g_blk K ctr 10)), (q3, x_N G 16 (g_sm (g_blk K ctr 9))), (iq, x_N G ni (va_cpy (g_blk K ctr 10) gi 0 at_ 16))]) 0 0 := by
  refine xMv.by r_Ci (by decide +kernel) (Nat.le_of_ble_eq_true rfl) rfl ?_
  intro p e s m args below meth c A ls Q E hin B hro hl hret
  have hl : lv_has ls 5 [(0, .ref h0), (1, .ref bq), (2, .ref iq), (3, .int (nI at_))] := hl
  have hR0 : x_R A s s.heap bq 16 (nA ctr) := hro _ (List.mem_of_getElem? (i := 0) rfl)
  refine lv_aload_n E.1 E.2.1 d_Ci_encrypt_0 rfl (lv_at hl 1 rfl) ?_
  refine lv_iconst (v := nI 0) E.1 E.2.1 d_Ci_encrypt_1 (by decide) ?_
  refine lv_aload_n E.1 E.2.1 d_Ci_encrypt_2 rfl (lv_at hl 0 rfl) ?_
  refine x_get E B 0 rfl k_Ci 1 (by decide) wd_100 rfl d_Ci_encrypt_3 ?_
  refine lv_iconst (v := nI 0) E.1 E.2.1 d_Ci_encrypt_6 (by decide) ?_
  refine lv_bipush (v := nI 16) E.1 E.2.1 d_Ci_encrypt_7 (by decide) ?_
  refine x_cpt E B wd_297 wd_217 wd_216 wd_41 hR0 2 (sp := 0) (dp := 0) (n := 16) rfl (by omega) (by omega) (by decide) (by decide) hl.1 (Nat.le_of_ble_eq_true rfl) (Nat.le_of_ble_eq_true rfl) d_Ci_encrypt_9 (fun H locs B => ?_)
  rw [x_cpN] at B
  have B : xB G A s _ _ ([(h0, .inr (0, [.ref q1, .ref q2, .ref q3])), (q1, x_N G 176 K), (q2, x_N G 16 (va_cpy ctr g 0 0 16)), (q3, x_N G 16 v), (iq, x_N G ni gi)]) := B
  have B := B.fn 2 rfl (nA ctr) (cp_0)
  have B : xB G A s _ _ ([(h0, .inr (0, [.ref q1, .ref q2, .ref q3])), (q1, x_N G 176 K), (q2, x_N G 16 ctr), (q3, x_N G 16 v), (iq, x_N G ni gi)]) := B
  refine lv_aload_n E.1 E.2.1 d_Ci_encrypt_12 rfl (lv_at hl 0 rfl) ?_
  refine lv_iconst (v := nI 0) E.1 E.2.1 d_Ci_encrypt_13 (by decide) ?_
  refine x_cv (ws' := (fun u => [(h0, .inr (0, [.ref q1, .ref q2, .ref q3])), (q1, x_N G 176 K), (q2, x_N G 16 (fun j => ctr j ^^^ K (0 * 16 + j))), (q3, x_N G 16 v), (iq, x_N G ni gi)])) (wr := [(q3, x_N G 16 v), (iq, x_N G ni gi)]) B (x_rV (rest := []) E B (q_Ci_addRoundKey G l h0 q1 q2 q3 0 K ctr (by omega) _) (x_pre B [0, 1, 2] rfl (by decide) x_ro0) 0 rfl k_Ci (gg_V wd_311 wd_313 wd_10 wd_38 wd_314) ⟨rfl, p_Ci_addRoundKey⟩ rfl rfl ⟨Nat.le_of_ble_eq_true rfl, Nat.le_of_ble_eq_true rfl⟩ rfl hl.1 rfl (Nat.le_of_ble_eq_true rfl) d_Ci_encrypt_14 ⟨Nat.le_of_ble_eq_true rfl, Nat.le_of_ble_eq_true rfl⟩) [0, 1, 2] [3, 4] [2, 3, 4, 0, 1] rfl rfl (by decide) (by decide) (by decide) (fun _ => rfl) (fun u14 H locs hw14 B => ?_)
  have B : xB G A s _ _ ([(h0, .inr (0, [.ref q1, .ref q2, .ref q3])), (q1, x_N G 176 K), (q2, x_N G 16 (fun j => ctr j ^^^ K (0 * 16 + j))), (q3, x_N G 16 v), (iq, x_N G ni gi)]) := B
  refine lv_iconst (v := nI 1) E.1 E.2.1 d_Ci_encrypt_17 (by decide) ?_
  refine lv_istore (lv' := [(4, .int (nI 1)), (0, .ref h0), (1, .ref bq), (2, .ref iq), (3, .int (nI at_))]) E.1 E.2.1 d_Ci_encrypt_18 hl (by decide) rfl (fun ls hl => ?_)
  have hL20 : ∀ (kf : Nat) (r : Nat), 10 - r < kf → (r ≤ 10) → ∀ (H : Heap) (locs : List Loc) (ls : Array Slot), xB G A s H locs ([(h0, .inr (0, [.ref q1, .ref q2, .ref q3])), (q1, x_N G 176 K), (q2, x_N G 16 (g_blk K ctr r)), (q3, x_N G 16 (g_w v K ctr r)), (iq, x_N G ni gi)]) → lv_has ls 5 [(4, .int (nI (r + 1))), (0, .ref h0), (1, .ref bq), (2, .ref iq), (3, .int (nI at_))] → W p l e ({ frames := 2, cells := 0, slots := 0, locals := 81 }) s m args below meth c H locs 0 0 Q (F0 m 20 ls []) := by
    intro k20
    induction k20 with
    | zero =>
      intro r hk
      exact absurd hk (Nat.not_lt_zero _)
    | succ k20 ih20 =>
      intro r hk20 hr H locs ls B hl
      refine lv_iload E.1 E.2.1 d_Ci_encrypt_20 (lv_at hl 0 rfl) ?_
      refine lv_bipush (v := nI 10) E.1 E.2.1 d_Ci_encrypt_22 (by decide) ?_
      refine x_gt (tgt := 54) E d_Ci_encrypt_24 (by decide) (by omega) (by omega) (fun c1 => ?_) (fun c1 => ?_)
      · obtain rfl : r = 10 := by omega
        have B := B.fn 3 rfl (nA (g_sm (g_blk K ctr 9))) (fun _ _ => rfl)
        have B : xB G A s _ _ ([(h0, .inr (0, [.ref q1, .ref q2, .ref q3])), (q1, x_N G 176 K), (q2, x_N G 16 (g_blk K ctr 10)), (q3, x_N G 16 (g_sm (g_blk K ctr 9))), (iq, x_N G ni gi)]) := B
        refine lv_aload_n E.1 E.2.1 d_Ci_encrypt_54 rfl (lv_at hl 1 rfl) ?_
        refine x_get E B 0 rfl k_Ci 1 (by decide) wd_100 rfl d_Ci_encrypt_55 ?_
        refine lv_iconst (v := nI 0) E.1 E.2.1 d_Ci_encrypt_58 (by decide) ?_
        refine lv_aload_n E.1 E.2.1 d_Ci_encrypt_59 rfl (lv_at hl 3 rfl) ?_
        refine lv_iload_n E.1 E.2.1 d_Ci_encrypt_60 rfl (lv_at hl 4 rfl) ?_
        refine lv_bipush (v := nI 16) E.1 E.2.1 d_Ci_encrypt_61 (by decide) ?_
        refine x_cpy E B wd_297 wd_217 wd_216 wd_41 2 4 (sp := 0) (dp := at_) (n := 16) rfl rfl (by omega) (by omega) (by decide) (by omega) hl.1 (Nat.le_of_ble_eq_true rfl) (Nat.le_of_ble_eq_true rfl) d_Ci_encrypt_63 (fun H locs B => ?_)
        rw [x_cpN] at B
        have B : xB G A s _ _ ([(h0, .inr (0, [.ref q1, .ref q2, .ref q3])), (q1, x_N G 176 K), (q2, x_N G 16 (g_blk K ctr 10)), (q3, x_N G 16 (g_sm (g_blk K ctr 9))), (iq, x_N G ni (va_cpy (g_blk K ctr 10) gi 0 at_ 16))]) := B
        exact hret () _ _ _ _ B trivial d_Ci_encrypt_66
      · refine lv_aload_n E.1 E.2.1 d_Ci_encrypt_27 rfl (lv_at hl 1 rfl) ?_
        refine x_cv (ws' := (fun u => [(h0, .inr (0, [.ref q1, .ref q2, .ref q3])), (q1, x_N G 176 K), (q2, x_N G 16 (g_sm (g_blk K ctr r))), (q3, x_N G 16 (g_sm (g_blk K ctr r))), (iq, x_N G ni gi)])) (wr := [(q1, x_N G 176 K), (iq, x_N G ni gi)]) B (x_rV (rest := []) E B (q_Ci_substituteAndMove G l h0 q1 q2 q3 (g_blk K ctr r) (g_w v K ctr r) (g_blk_bt hK hc r) _) (x_pre B [0, 2, 3] rfl (by decide) x_ro0) 0 rfl k_Ci (gg_V wd_315 wd_317 wd_11 wd_38 wd_318) ⟨rfl, p_Ci_substituteAndMove⟩ rfl rfl ⟨Nat.le_of_ble_eq_true rfl, Nat.le_of_ble_eq_true rfl⟩ rfl hl.1 rfl (Nat.le_of_ble_eq_true rfl) d_Ci_encrypt_28 ⟨Nat.le_of_ble_eq_true rfl, Nat.le_of_ble_eq_true rfl⟩) [0, 2, 3] [1, 4] [2, 0, 3, 4, 1] rfl rfl (by decide) (by decide) (by decide) (fun _ => rfl) (fun u28 H locs hw28 B => ?_)
        have B : xB G A s _ _ ([(h0, .inr (0, [.ref q1, .ref q2, .ref q3])), (q1, x_N G 176 K), (q2, x_N G 16 (g_sm (g_blk K ctr r))), (q3, x_N G 16 (g_sm (g_blk K ctr r))), (iq, x_N G ni gi)]) := B
        refine lv_iload E.1 E.2.1 d_Ci_encrypt_31 (lv_at hl 0 rfl) ?_
        refine lv_bipush (v := nI 10) E.1 E.2.1 d_Ci_encrypt_33 (by decide) ?_
        refine x_ge (tgt := 42) E d_Ci_encrypt_35 (by decide) (by omega) (by omega) (fun hr9 => ?_) (fun hr9 => ?_)
        · refine lv_aload_n E.1 E.2.1 d_Ci_encrypt_42 rfl (lv_at hl 1 rfl) ?_
          refine lv_iload E.1 E.2.1 d_Ci_encrypt_43 (lv_at hl 0 rfl) ?_
          refine x_cv (ws' := (fun u => [(h0, .inr (0, [.ref q1, .ref q2, .ref q3])), (q1, x_N G 176 K), (q2, x_N G 16 (fun j => (g_sm (g_blk K ctr r)) j ^^^ K ((r + 1) * 16 + j))), (q3, x_N G 16 (g_sm (g_blk K ctr r))), (iq, x_N G ni gi)])) (wr := [(q3, x_N G 16 (g_sm (g_blk K ctr r))), (iq, x_N G ni gi)]) B (x_rV (rest := []) E B (q_Ci_addRoundKey G l h0 q1 q2 q3 (r + 1) K (g_sm (g_blk K ctr r)) (by omega) _) (x_pre B [0, 1, 2] rfl (by decide) x_ro0) 0 rfl k_Ci (gg_V wd_311 wd_313 wd_10 wd_38 wd_314) ⟨rfl, p_Ci_addRoundKey⟩ rfl rfl ⟨Nat.le_of_ble_eq_true rfl, Nat.le_of_ble_eq_true rfl⟩ rfl hl.1 rfl (Nat.le_of_ble_eq_true rfl) d_Ci_encrypt_45 ⟨Nat.le_of_ble_eq_true rfl, Nat.le_of_ble_eq_true rfl⟩) [0, 1, 2] [3, 4] [2, 3, 4, 0, 1] rfl rfl (by decide) (by decide) (by decide) (fun _ => rfl) (fun u45 H locs hw45 B => ?_)
          have B : xB G A s _ _ ([(h0, .inr (0, [.ref q1, .ref q2, .ref q3])), (q1, x_N G 176 K), (q2, x_N G 16 (fun j => (g_sm (g_blk K ctr r)) j ^^^ K ((r + 1) * 16 + j))), (q3, x_N G 16 (g_sm (g_blk K ctr r))), (iq, x_N G ni gi)]) := B
          refine x_inc E 1 (lv' := [(4, .int (nI ((r + 1) + 1))), (0, .ref h0), (1, .ref bq), (2, .ref iq), (3, .int (nI at_))]) d_Ci_encrypt_48 hl (k := 0) rfl rfl (by decide) rfl (fun ls hl => ?_)
          refine lv_goto (tgt := 20) E.1 E.2.1 d_Ci_encrypt_51 (by decide) ?_
          have B := B.fn 2 rfl (nA (g_blk K ctr (r + 1))) (by first | exact g_blkA (by omega) | exact g_blkB (by omega))
          have B : xB G A s _ _ ([(h0, .inr (0, [.ref q1, .ref q2, .ref q3])), (q1, x_N G 176 K), (q2, x_N G 16 (g_blk K ctr (r + 1))), (q3, x_N G 16 (g_sm (g_blk K ctr r))), (iq, x_N G ni gi)]) := B
          have B := B.fn 3 rfl (nA (g_w v K ctr (r + 1))) (fun _ _ => rfl)
          have B : xB G A s _ _ ([(h0, .inr (0, [.ref q1, .ref q2, .ref q3])), (q1, x_N G 176 K), (q2, x_N G 16 (g_blk K ctr (r + 1))), (q3, x_N G 16 (g_w v K ctr (r + 1))), (iq, x_N G ni gi)]) := B
          exact ih20  (r + 1) (by omega) (by omega) _ _ _ B (lv_sub hl [0, 1, 2, 3, 4] rfl)
        · refine lv_aload_n E.1 E.2.1 d_Ci_encrypt_38 rfl (lv_at hl 1 rfl) ?_
          refine x_cv (ws' := (fun u => [(h0, .inr (0, [.ref q1, .ref q2, .ref q3])), (q1, x_N G 176 K), (q2, x_N G 16 (g_mc (g_sm (g_blk K ctr r)))), (q3, x_N G 16 (g_sm (g_blk K ctr r))), (iq, x_N G ni gi)])) (wr := [(q1, x_N G 176 K), (q3, x_N G 16 (g_sm (g_blk K ctr r))), (iq, x_N G ni gi)]) B (x_rV (rest := []) E B (q_Ci_mixColumns G l h0 q1 q2 q3 (g_sm (g_blk K ctr r)) (g_sm_bt (g_blk_bt hK hc r)) _) (x_pre B [0, 2] rfl (by decide) x_ro0) 0 rfl k_Ci (gg_V wd_319 wd_321 wd_12 wd_38 wd_322) ⟨rfl, p_Ci_mixColumns⟩ rfl rfl ⟨Nat.le_of_ble_eq_true rfl, Nat.le_of_ble_eq_true rfl⟩ rfl hl.1 rfl (Nat.le_of_ble_eq_true rfl) d_Ci_encrypt_39 ⟨Nat.le_of_ble_eq_true rfl, Nat.le_of_ble_eq_true rfl⟩) [0, 2] [1, 3, 4] [3, 0, 4, 1, 2] rfl rfl (by decide) (by decide) (by decide) (fun _ => rfl) (fun u39 H locs hw39 B => ?_)
          have B : xB G A s _ _ ([(h0, .inr (0, [.ref q1, .ref q2, .ref q3])), (q1, x_N G 176 K), (q2, x_N G 16 (g_mc (g_sm (g_blk K ctr r)))), (q3, x_N G 16 (g_sm (g_blk K ctr r))), (iq, x_N G ni gi)]) := B
          refine lv_aload_n E.1 E.2.1 d_Ci_encrypt_42 rfl (lv_at hl 1 rfl) ?_
          refine lv_iload E.1 E.2.1 d_Ci_encrypt_43 (lv_at hl 0 rfl) ?_
          refine x_cv (ws' := (fun u => [(h0, .inr (0, [.ref q1, .ref q2, .ref q3])), (q1, x_N G 176 K), (q2, x_N G 16 (fun j => (g_mc (g_sm (g_blk K ctr r))) j ^^^ K ((r + 1) * 16 + j))), (q3, x_N G 16 (g_sm (g_blk K ctr r))), (iq, x_N G ni gi)])) (wr := [(q3, x_N G 16 (g_sm (g_blk K ctr r))), (iq, x_N G ni gi)]) B (x_rV (rest := []) E B (q_Ci_addRoundKey G l h0 q1 q2 q3 (r + 1) K (g_mc (g_sm (g_blk K ctr r))) (by omega) _) (x_pre B [0, 1, 2] rfl (by decide) x_ro0) 0 rfl k_Ci (gg_V wd_311 wd_313 wd_10 wd_38 wd_314) ⟨rfl, p_Ci_addRoundKey⟩ rfl rfl ⟨Nat.le_of_ble_eq_true rfl, Nat.le_of_ble_eq_true rfl⟩ rfl hl.1 rfl (Nat.le_of_ble_eq_true rfl) d_Ci_encrypt_45 ⟨Nat.le_of_ble_eq_true rfl, Nat.le_of_ble_eq_true rfl⟩) [0, 1, 2] [3, 4] [2, 3, 4, 0, 1] rfl rfl (by decide) (by decide) (by decide) (fun _ => rfl) (fun u45 H locs hw45 B => ?_)
          have B : xB G A s _ _ ([(h0, .inr (0, [.ref q1, .ref q2, .ref q3])), (q1, x_N G 176 K), (q2, x_N G 16 (fun j => (g_mc (g_sm (g_blk K ctr r))) j ^^^ K ((r + 1) * 16 + j))), (q3, x_N G 16 (g_sm (g_blk K ctr r))), (iq, x_N G ni gi)]) := B
          refine x_inc E 1 (lv' := [(4, .int (nI ((r + 1) + 1))), (0, .ref h0), (1, .ref bq), (2, .ref iq), (3, .int (nI at_))]) d_Ci_encrypt_48 hl (k := 0) rfl rfl (by decide) rfl (fun ls hl => ?_)
          refine lv_goto (tgt := 20) E.1 E.2.1 d_Ci_encrypt_51 (by decide) ?_
          have B := B.fn 2 rfl (nA (g_blk K ctr (r + 1))) (by first | exact g_blkA (by omega) | exact g_blkB (by omega))
          have B : xB G A s _ _ ([(h0, .inr (0, [.ref q1, .ref q2, .ref q3])), (q1, x_N G 176 K), (q2, x_N G 16 (g_blk K ctr (r + 1))), (q3, x_N G 16 (g_sm (g_blk K ctr r))), (iq, x_N G ni gi)]) := B
          have B := B.fn 3 rfl (nA (g_w v K ctr (r + 1))) (fun _ _ => rfl)
          have B : xB G A s _ _ ([(h0, .inr (0, [.ref q1, .ref q2, .ref q3])), (q1, x_N G 176 K), (q2, x_N G 16 (g_blk K ctr (r + 1))), (q3, x_N G 16 (g_w v K ctr (r + 1))), (iq, x_N G ni gi)]) := B
          exact ih20  (r + 1) (by omega) (by omega) _ _ _ B (lv_sub hl [0, 1, 2, 3, 4] rfl)
  have B := B.fn 2 rfl (nA (g_blk K ctr 0)) (fun _ _ => rfl)
  have B : xB G A s _ _ ([(h0, .inr (0, [.ref q1, .ref q2, .ref q3])), (q1, x_N G 176 K), (q2, x_N G 16 (g_blk K ctr 0)), (q3, x_N G 16 v), (iq, x_N G ni gi)]) := B
  have B := B.fn 3 rfl (nA (g_w v K ctr 0)) (fun _ _ => rfl)
  have B : xB G A s _ _ ([(h0, .inr (0, [.ref q1, .ref q2, .ref q3])), (q1, x_N G 176 K), (q2, x_N G 16 (g_blk K ctr 0)), (q3, x_N G 16 (g_w v K ctr 0)), (iq, x_N G ni gi)]) := B
  exact hL20 (11) 0 (by omega) (by omega) _ _ _ B (lv_sub hl [0, 1, 2, 3, 4] rfl)
set_option maxHeartbeats 4000000 in
set_option maxRecDepth 100000 in
theorem q_Ci_new (G : xG) (l : Launch) (h0 : Nat)  : xMv G l y_Ci_new c_Ci_new 1 ({ frames := 1, cells := 3, slots := 208, locals := 20 }) [.ref h0] [] [(h0, .inr (0, [.null, .null, .null]))] (Nat × Nat × Nat) (fun _ => True) (fun u => [(h0, .inr (0, [.ref u.1, .ref u.2.1, .ref u.2.2])), (u.1, x_N G 176 (fun _ => 0)), (u.2.1, x_N G 16 (fun _ => 0)), (u.2.2, x_N G 16 (fun _ => 0))]) 3 208 := by
  refine xMv.by r_Ci (by decide +kernel) (Nat.le_of_ble_eq_true rfl) rfl ?_
  intro p e s m args below meth c A ls Q E hin B hro hl hret
  have hl : lv_has ls 1 [(0, .ref h0)] := hl
  refine lv_aload_n E.1 E.2.1 d_Ci_new_0 rfl (lv_at hl 0 rfl) ?_
  refine x_oi E wd_98 wd_49 wd_50 hl.1 d_Ci_new_1 (Nat.le_of_ble_eq_true rfl) (Nat.le_of_ble_eq_true rfl) ?_
  refine lv_aload_n E.1 E.2.1 d_Ci_new_4 rfl (lv_at hl 0 rfl) ?_
  refine lv_sipush (v := nI 176) E.1 E.2.1 d_Ci_new_5 (by decide) ?_
  refine x_newa E B wd_74 (n := 176) (by decide) (Nat.le_of_ble_eq_true rfl) (Nat.le_of_ble_eq_true rfl) d_Ci_new_8 (fun q1 H B => ?_)
  have B : xB G A s _ _ ([(h0, .inr (0, [.null, .null, .null])), (q1, x_N G 176 (fun _ => 0))]) := B
  refine x_putF E hin B 0 rfl k_Ci 0 (by decide) wd_99 rfl rfl rfl rfl (Nat.le_of_ble_eq_true rfl) d_Ci_new_10 (fun H locs B => ?_)
  have B : xB G A s _ _ ([(h0, .inr (0, [.ref q1, .null, .null])), (q1, x_N G 176 (fun _ => 0))]) := B
  refine lv_aload_n E.1 E.2.1 d_Ci_new_13 rfl (lv_at hl 0 rfl) ?_
  refine lv_bipush (v := nI 16) E.1 E.2.1 d_Ci_new_14 (by decide) ?_
  refine x_newa E B wd_74 (n := 16) (by decide) (Nat.le_of_ble_eq_true rfl) (Nat.le_of_ble_eq_true rfl) d_Ci_new_16 (fun q2 H B => ?_)
  have B : xB G A s _ _ ([(h0, .inr (0, [.ref q1, .null, .null])), (q1, x_N G 176 (fun _ => 0)), (q2, x_N G 16 (fun _ => 0))]) := B
  refine x_putF E hin B 0 rfl k_Ci 1 (by decide) wd_100 rfl rfl rfl rfl (Nat.le_of_ble_eq_true rfl) d_Ci_new_18 (fun H locs B => ?_)
  have B : xB G A s _ _ ([(h0, .inr (0, [.ref q1, .ref q2, .null])), (q1, x_N G 176 (fun _ => 0)), (q2, x_N G 16 (fun _ => 0))]) := B
  refine lv_aload_n E.1 E.2.1 d_Ci_new_21 rfl (lv_at hl 0 rfl) ?_
  refine lv_bipush (v := nI 16) E.1 E.2.1 d_Ci_new_22 (by decide) ?_
  refine x_newa E B wd_74 (n := 16) (by decide) (Nat.le_of_ble_eq_true rfl) (Nat.le_of_ble_eq_true rfl) d_Ci_new_24 (fun q3 H B => ?_)
  have B : xB G A s _ _ ([(h0, .inr (0, [.ref q1, .ref q2, .null])), (q1, x_N G 176 (fun _ => 0)), (q2, x_N G 16 (fun _ => 0)), (q3, x_N G 16 (fun _ => 0))]) := B
  refine x_putF E hin B 0 rfl k_Ci 2 (by decide) wd_101 rfl rfl rfl rfl (Nat.le_of_ble_eq_true rfl) d_Ci_new_26 (fun H locs B => ?_)
  have B : xB G A s _ _ ([(h0, .inr (0, [.ref q1, .ref q2, .ref q3])), (q1, x_N G 176 (fun _ => 0)), (q2, x_N G 16 (fun _ => 0)), (q3, x_N G 16 (fun _ => 0))]) := B
  exact hret (q1, q2, q3) _ _ _ _ B trivial d_Ci_new_29
