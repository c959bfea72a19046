set_option maxHeartbeats 4000000 in
set_option maxRecDepth 100000 in
theorem q_Mo_times (l : Launch) (a_ b_ : Nat) (ha : a_ < 256) (hb : b_ < 256) : xMf l y_Mo_times c_Mo_times 5 .int ({ frames := 0, cells := 0, slots := 0, locals := 0 }) [.int (nI a_), .int (nI b_)] (nI (g_tm a_ b_)) := by
  refine xMf.by r_Mo (by decide +kernel) (Nat.le_of_ble_eq_true rfl) rfl ?_
  intro p e s m args below meth c ls Q E hl hret
  have hl : lv_has ls 5 [(0, .int (nI a_)), (1, .int (nI b_))] := hl
  refine lv_iconst (v := nI 0) E.1 E.2.1 d_Mo_times_0 (by decide) ?_
  refine lv_istore_n (lv' := [(2, .int (nI 0)), (0, .int (nI a_)), (1, .int (nI b_))]) E.1 E.2.1 d_Mo_times_1 rfl hl (by decide) rfl (fun ls hl => ?_)
  refine lv_iload_n E.1 E.2.1 d_Mo_times_2 rfl (lv_at hl 1 rfl) ?_
  refine lv_istore_n (lv' := [(3, .int (nI a_)), (2, .int (nI 0)), (0, .int (nI a_)), (1, .int (nI b_))]) E.1 E.2.1 d_Mo_times_3 rfl hl (by decide) rfl (fun ls hl => ?_)
  refine lv_iload_n E.1 E.2.1 d_Mo_times_4 rfl (lv_at hl 3 rfl) ?_
  refine lv_istore (lv' := [(4, .int (nI b_)), (3, .int (nI a_)), (2, .int (nI 0)), (0, .int (nI a_)), (1, .int (nI b_))]) E.1 E.2.1 d_Mo_times_5 hl (by decide) rfl (fun ls hl => ?_)
  have hL7 : ∀ (kf : Nat) (j sm x k : Nat), k < kf → (j ≤ 8) → (k < 2 ^ j) → (x < 256) → (sm < 256) → (g_tmk j sm x k = g_tm a_ b_) → ∀ (ls : Array Slot), lv_has ls 5 [(4, .int (nI k)), (3, .int (nI x)), (2, .int (nI sm)), (0, .int (nI a_)), (1, .int (nI b_))] → W p l e ({ frames := 0, cells := 0, slots := 0, locals := 0 }) s m args below meth c s.heap [] 0 0 Q (F0 m 7 ls []) := by
    intro k7
    induction k7 with
    | zero =>
      intro j sm x k hk
      exact absurd hk (Nat.not_lt_zero _)
    | succ k7 ih7 =>
      intro j sm x k hk7 hj hk hx hsm hE ls hl
      refine lv_iload E.1 E.2.1 d_Mo_times_7 (lv_at hl 0 rfl) ?_
      refine x_ifle (tgt := 57) E d_Mo_times_9 (by decide) (by have h8 : 2 ^ j ≤ 2 ^ 8 := Nat.pow_le_pow_right (by decide) hj; omega) (fun hz => ?_) (fun hz => ?_)
      · refine lv_iload_n E.1 E.2.1 d_Mo_times_57 rfl (lv_at hl 2 rfl) ?_
        exact hret _ _ _ (by rw [← hE, hz, g_tmk_0]) d_Mo_times_58
      · refine lv_iload_n E.1 E.2.1 d_Mo_times_12 rfl (lv_at hl 2 rfl) ?_
        refine lv_iload E.1 E.2.1 d_Mo_times_13 (lv_at hl 0 rfl) ?_
        refine lv_iconst (v := nI 1) E.1 E.2.1 d_Mo_times_15 (by decide) ?_
        refine lv_iand E.1 E.2.1 d_Mo_times_16 ?_
        refine x_top (v' := nI (k % 2)) (b_and1 (by have h8 : 2 ^ j ≤ 2 ^ 8 := Nat.pow_le_pow_right (by decide) hj; omega)) ?_
        refine lv_iconst (v := nI 1) E.1 E.2.1 d_Mo_times_17 (by decide) ?_
        refine x_ne (tgt := 25) E d_Mo_times_18 (by decide) (by omega) (by omega) (fun hb1 => ?_) (fun hb1 => ?_)
        · refine lv_iconst (v := nI 0) E.1 E.2.1 d_Mo_times_25 (by decide) ?_
          refine x_ixor E d_Mo_times_26 ?_
          refine lv_istore_n (lv' := [(2, .int (nI (sm ^^^ 0))), (4, .int (nI k)), (3, .int (nI x)), (0, .int (nI a_)), (1, .int (nI b_))]) E.1 E.2.1 d_Mo_times_27 rfl hl (by decide) rfl (fun ls hl => ?_)
          refine lv_iload_n E.1 E.2.1 d_Mo_times_28 rfl (lv_at hl 2 rfl) ?_
          refine lv_bipush (v := nI 127) E.1 E.2.1 d_Mo_times_29 (by decide) ?_
          refine x_le (tgt := 44) E d_Mo_times_31 (by decide) (by omega) (by omega) (fun hx1 => ?_) (fun hx1 => ?_)
          · refine lv_iconst (v := nI 2) E.1 E.2.1 d_Mo_times_44 (by decide) ?_
            refine lv_iload_n E.1 E.2.1 d_Mo_times_45 rfl (lv_at hl 2 rfl) ?_
            refine x_imul E d_Mo_times_46 ?_
            refine lv_istore_n (lv' := [(3, .int (nI (2 * x))), (2, .int (nI (sm ^^^ 0))), (4, .int (nI k)), (0, .int (nI a_)), (1, .int (nI b_))]) E.1 E.2.1 d_Mo_times_47 rfl hl (by decide) rfl (fun ls hl => ?_)
            refine lv_iload E.1 E.2.1 d_Mo_times_48 (lv_at hl 2 rfl) ?_
            refine lv_iconst (v := nI 1) E.1 E.2.1 d_Mo_times_50 (by decide) ?_
            refine lv_ishr E.1 E.2.1 d_Mo_times_51 ?_
            refine x_top (v' := nI (k / 2)) (b_shr 1 (by decide) (by have h8 : 2 ^ j ≤ 2 ^ 8 := Nat.pow_le_pow_right (by decide) hj; omega)) ?_
            refine lv_istore (lv' := [(4, .int (nI (k / 2))), (3, .int (nI (2 * x))), (2, .int (nI (sm ^^^ 0))), (0, .int (nI a_)), (1, .int (nI b_))]) E.1 E.2.1 d_Mo_times_52 hl (by decide) rfl (fun ls hl => ?_)
            refine lv_goto (tgt := 7) E.1 E.2.1 d_Mo_times_54 (by decide) ?_
            have hjp := g_tmP hk hz
            have hxx : g_x2 x < 256 := g_x2_lt x hx
            exact ih7  (j - 1) _ _ (k / 2) (by omega) (by omega) (g_tmH hk hjp) (by unfold g_x2 at hxx; first | (rw [if_pos (by omega)] at hxx; exact hxx) | (rw [if_neg (by omega)] at hxx; exact hxx)) (by first | exact g_xl hsm hx | exact g_xl hsm (by decide)) (g_tmN hE hjp hx (by first | rw [hb1, Nat.one_mul] | rw [show k % 2 = 0 by omega, Nat.zero_mul]) (by unfold g_x2; first | rw [if_pos (by omega)] | rw [if_neg (by omega)])) _ (lv_sub hl [0, 1, 2, 3, 4] rfl)
          · refine lv_iconst (v := nI 2) E.1 E.2.1 d_Mo_times_34 (by decide) ?_
            refine lv_iload_n E.1 E.2.1 d_Mo_times_35 rfl (lv_at hl 2 rfl) ?_
            refine x_imul E d_Mo_times_36 ?_
            refine lv_sipush (v := nI 283) E.1 E.2.1 d_Mo_times_37 (by decide) ?_
            refine x_ixor E d_Mo_times_40 ?_
            refine lv_goto (tgt := 47) E.1 E.2.1 d_Mo_times_41 (by decide) ?_
            refine lv_istore_n (lv' := [(3, .int (nI ((2 * x) ^^^ 283))), (2, .int (nI (sm ^^^ 0))), (4, .int (nI k)), (0, .int (nI a_)), (1, .int (nI b_))]) E.1 E.2.1 d_Mo_times_47 rfl hl (by decide) rfl (fun ls hl => ?_)
            refine lv_iload E.1 E.2.1 d_Mo_times_48 (lv_at hl 2 rfl) ?_
            refine lv_iconst (v := nI 1) E.1 E.2.1 d_Mo_times_50 (by decide) ?_
            refine lv_ishr E.1 E.2.1 d_Mo_times_51 ?_
            refine x_top (v' := nI (k / 2)) (b_shr 1 (by decide) (by have h8 : 2 ^ j ≤ 2 ^ 8 := Nat.pow_le_pow_right (by decide) hj; omega)) ?_
            refine lv_istore (lv' := [(4, .int (nI (k / 2))), (3, .int (nI ((2 * x) ^^^ 283))), (2, .int (nI (sm ^^^ 0))), (0, .int (nI a_)), (1, .int (nI b_))]) E.1 E.2.1 d_Mo_times_52 hl (by decide) rfl (fun ls hl => ?_)
            refine lv_goto (tgt := 7) E.1 E.2.1 d_Mo_times_54 (by decide) ?_
            have hjp := g_tmP hk hz
            have hxx : g_x2 x < 256 := g_x2_lt x hx
            exact ih7  (j - 1) _ _ (k / 2) (by omega) (by omega) (g_tmH hk hjp) (by unfold g_x2 at hxx; first | (rw [if_pos (by omega)] at hxx; exact hxx) | (rw [if_neg (by omega)] at hxx; exact hxx)) (by first | exact g_xl hsm hx | exact g_xl hsm (by decide)) (g_tmN hE hjp hx (by first | rw [hb1, Nat.one_mul] | rw [show k % 2 = 0 by omega, Nat.zero_mul]) (by unfold g_x2; first | rw [if_pos (by omega)] | rw [if_neg (by omega)])) _ (lv_sub hl [0, 1, 2, 3, 4] rfl)
        · refine lv_iload_n E.1 E.2.1 d_Mo_times_21 rfl (lv_at hl 1 rfl) ?_
          refine lv_goto (tgt := 26) E.1 E.2.1 d_Mo_times_22 (by decide) ?_
          refine x_ixor E d_Mo_times_26 ?_
          refine lv_istore_n (lv' := [(2, .int (nI (sm ^^^ x))), (4, .int (nI k)), (3, .int (nI x)), (0, .int (nI a_)), (1, .int (nI b_))]) E.1 E.2.1 d_Mo_times_27 rfl hl (by decide) rfl (fun ls hl => ?_)
          refine lv_iload_n E.1 E.2.1 d_Mo_times_28 rfl (lv_at hl 2 rfl) ?_
          refine lv_bipush (v := nI 127) E.1 E.2.1 d_Mo_times_29 (by decide) ?_
          refine x_le (tgt := 44) E d_Mo_times_31 (by decide) (by omega) (by omega) (fun hx1 => ?_) (fun hx1 => ?_)
          · refine lv_iconst (v := nI 2) E.1 E.2.1 d_Mo_times_44 (by decide) ?_
            refine lv_iload_n E.1 E.2.1 d_Mo_times_45 rfl (lv_at hl 2 rfl) ?_
            refine x_imul E d_Mo_times_46 ?_
            refine lv_istore_n (lv' := [(3, .int (nI (2 * x))), (2, .int (nI (sm ^^^ x))), (4, .int (nI k)), (0, .int (nI a_)), (1, .int (nI b_))]) E.1 E.2.1 d_Mo_times_47 rfl hl (by decide) rfl (fun ls hl => ?_)
            refine lv_iload E.1 E.2.1 d_Mo_times_48 (lv_at hl 2 rfl) ?_
            refine lv_iconst (v := nI 1) E.1 E.2.1 d_Mo_times_50 (by decide) ?_
            refine lv_ishr E.1 E.2.1 d_Mo_times_51 ?_
            refine x_top (v' := nI (k / 2)) (b_shr 1 (by decide) (by have h8 : 2 ^ j ≤ 2 ^ 8 := Nat.pow_le_pow_right (by decide) hj; omega)) ?_
            refine lv_istore (lv' := [(4, .int (nI (k / 2))), (3, .int (nI (2 * x))), (2, .int (nI (sm ^^^ x))), (0, .int (nI a_)), (1, .int (nI b_))]) E.1 E.2.1 d_Mo_times_52 hl (by decide) rfl (fun ls hl => ?_)
            refine lv_goto (tgt := 7) E.1 E.2.1 d_Mo_times_54 (by decide) ?_
            have hjp := g_tmP hk hz
            have hxx : g_x2 x < 256 := g_x2_lt x hx
            exact ih7  (j - 1) _ _ (k / 2) (by omega) (by omega) (g_tmH hk hjp) (by unfold g_x2 at hxx; first | (rw [if_pos (by omega)] at hxx; exact hxx) | (rw [if_neg (by omega)] at hxx; exact hxx)) (by first | exact g_xl hsm hx | exact g_xl hsm (by decide)) (g_tmN hE hjp hx (by first | rw [hb1, Nat.one_mul] | rw [show k % 2 = 0 by omega, Nat.zero_mul]) (by unfold g_x2; first | rw [if_pos (by omega)] | rw [if_neg (by omega)])) _ (lv_sub hl [0, 1, 2, 3, 4] rfl)
          · refine lv_iconst (v := nI 2) E.1 E.2.1 d_Mo_times_34 (by decide) ?_
            refine lv_iload_n E.1 E.2.1 d_Mo_times_35 rfl (lv_at hl 2 rfl) ?_
            refine x_imul E d_Mo_times_36 ?_
            refine lv_sipush (v := nI 283) E.1 E.2.1 d_Mo_times_37 (by decide) ?_
            refine x_ixor E d_Mo_times_40 ?_
            refine lv_goto (tgt := 47) E.1 E.2.1 d_Mo_times_41 (by decide) ?_
            refine lv_istore_n (lv' := [(3, .int (nI ((2 * x) ^^^ 283))), (2, .int (nI (sm ^^^ x))), (4, .int (nI k)), (0, .int (nI a_)), (1, .int (nI b_))]) E.1 E.2.1 d_Mo_times_47 rfl hl (by decide) rfl (fun ls hl => ?_)
            refine lv_iload E.1 E.2.1 d_Mo_times_48 (lv_at hl 2 rfl) ?_
            refine lv_iconst (v := nI 1) E.1 E.2.1 d_Mo_times_50 (by decide) ?_
            refine lv_ishr E.1 E.2.1 d_Mo_times_51 ?_
            refine x_top (v' := nI (k / 2)) (b_shr 1 (by decide) (by have h8 : 2 ^ j ≤ 2 ^ 8 := Nat.pow_le_pow_right (by decide) hj; omega)) ?_
            refine lv_istore (lv' := [(4, .int (nI (k / 2))), (3, .int (nI ((2 * x) ^^^ 283))), (2, .int (nI (sm ^^^ x))), (0, .int (nI a_)), (1, .int (nI b_))]) E.1 E.2.1 d_Mo_times_52 hl (by decide) rfl (fun ls hl => ?_)
            refine lv_goto (tgt := 7) E.1 E.2.1 d_Mo_times_54 (by decide) ?_
            have hjp := g_tmP hk hz
            have hxx : g_x2 x < 256 := g_x2_lt x hx
            exact ih7  (j - 1) _ _ (k / 2) (by omega) (by omega) (g_tmH hk hjp) (by unfold g_x2 at hxx; first | (rw [if_pos (by omega)] at hxx; exact hxx) | (rw [if_neg (by omega)] at hxx; exact hxx)) (by first | exact g_xl hsm hx | exact g_xl hsm (by decide)) (g_tmN hE hjp hx (by first | rw [hb1, Nat.one_mul] | rw [show k % 2 = 0 by omega, Nat.zero_mul]) (by unfold g_x2; first | rw [if_pos (by omega)] | rw [if_neg (by omega)])) _ (lv_sub hl [0, 1, 2, 3, 4] rfl)
  exact hL7 (b_ + 1) 8 0 a_ b_ (by omega) (by omega) (hb) (ha) (by decide) (rfl) _ (lv_sub hl [0, 1, 2, 3, 4] rfl)
set_option maxHeartbeats 4000000 in
set_option maxRecDepth 100000 in
theorem q_Mo_turned (l : Launch) (b_ : Nat) (hb : b_ < 256) : xMf l y_Mo_turned c_Mo_turned 5 .int ({ frames := 1, cells := 0, slots := 0, locals := 24 }) [.int (nI b_)] (nI (k_S b_)) := by
  refine xMf.by r_Mo (by decide +kernel) (Nat.le_of_ble_eq_true rfl) rfl ?_
  intro p e s m args below meth c ls Q E hl hret
  have hl : lv_has ls 5 [(0, .int (nI b_))] := hl
  refine lv_iconst (v := nI 1) E.1 E.2.1 d_Mo_turned_0 (by decide) ?_
  refine lv_istore_n (lv' := [(1, .int (nI 1)), (0, .int (nI b_))]) E.1 E.2.1 d_Mo_turned_1 rfl hl (by decide) rfl (fun ls hl => ?_)
  refine lv_iconst (v := nI 0) E.1 E.2.1 d_Mo_turned_2 (by decide) ?_
  refine lv_istore_n (lv' := [(2, .int (nI 0)), (1, .int (nI 1)), (0, .int (nI b_))]) E.1 E.2.1 d_Mo_turned_3 rfl hl (by decide) rfl (fun ls hl => ?_)
  have hL4 : ∀ (kf : Nat) (k : Nat), 254 - k < kf → (k ≤ 254) → ∀ (ls : Array Slot), lv_has ls 5 [(2, .int (nI k)), (1, .int (nI (g_pwr b_ k))), (0, .int (nI b_))] → W p l e ({ frames := 1, cells := 0, slots := 0, locals := 24 }) s m args below meth c s.heap [] 0 0 Q (F0 m 4 ls []) := by
    intro k4
    induction k4 with
    | zero =>
      intro k hk
      exact absurd hk (Nat.not_lt_zero _)
    | succ k4 ih4 =>
      intro k hk4 hk ls hl
      refine lv_iload_n E.1 E.2.1 d_Mo_turned_4 rfl (lv_at hl 0 rfl) ?_
      refine lv_sipush (v := nI 254) E.1 E.2.1 d_Mo_turned_5 (by decide) ?_
      refine x_ge (tgt := 23) E d_Mo_turned_8 (by decide) (by omega) (by omega) (fun c1 => ?_) (fun c1 => ?_)
      · have hp := g_pwr_lt b_ k
        obtain ⟨z, hzk⟩ : ∃ z, z = k := ⟨k, rfl⟩
        refine lv_iconst (v := nI 0) E.1 E.2.1 d_Mo_turned_23 (by decide) ?_
        refine lv_istore_n (lv' := [(2, .int (nI 0)), (1, .int (nI (g_pwr b_ k))), (0, .int (nI b_))]) E.1 E.2.1 d_Mo_turned_24 rfl hl (by decide) rfl (fun ls hl => ?_)
        refine lv_iconst (v := nI 0) E.1 E.2.1 d_Mo_turned_25 (by decide) ?_
        refine lv_istore_n (lv' := [(3, .int (nI 0)), (2, .int (nI 0)), (1, .int (nI (g_pwr b_ k))), (0, .int (nI b_))]) E.1 E.2.1 d_Mo_turned_26 rfl hl (by decide) rfl (fun ls hl => ?_)
        have hL27 : ∀ (kf : Nat) (i : Nat), 8 - i < kf → (i ≤ 8) → ∀ (ls : Array Slot), lv_has ls 5 [(3, .int (nI i)), (2, .int (nI (g_ts (g_pwr b_ k) i))), (1, .int (nI (g_pwr b_ k))), (0, .int (nI b_))] → W p l e ({ frames := 1, cells := 0, slots := 0, locals := 24 }) s m args below meth c s.heap [] 0 0 Q (F0 m 27 ls []) := by
          intro k27
          induction k27 with
          | zero =>
            intro i hk
            exact absurd hk (Nat.not_lt_zero _)
          | succ k27 ih27 =>
            intro i hk27 hi ls hl
            refine lv_iload_n E.1 E.2.1 d_Mo_turned_27 rfl (lv_at hl 0 rfl) ?_
            refine lv_bipush (v := nI 8) E.1 E.2.1 d_Mo_turned_28 (by decide) ?_
            refine x_ge (tgt := 96) E d_Mo_turned_30 (by decide) (by omega) (by omega) (fun c2 => ?_) (fun c2 => ?_)
            · refine lv_iload_n E.1 E.2.1 d_Mo_turned_96 rfl (lv_at hl 1 rfl) ?_
              exact hret _ _ _ (g_tuE hb (by omega) (by omega)) d_Mo_turned_97
            · refine lv_iload_n E.1 E.2.1 d_Mo_turned_33 rfl (lv_at hl 2 rfl) ?_
              refine lv_iload_n E.1 E.2.1 d_Mo_turned_34 rfl (lv_at hl 0 rfl) ?_
              refine lv_ishr E.1 E.2.1 d_Mo_turned_35 ?_
              refine x_top (v' := nI (g_pwr b_ k / 2 ^ i)) (b_shr _ (by omega) (by omega)) ?_
              refine lv_iload_n E.1 E.2.1 d_Mo_turned_36 rfl (lv_at hl 2 rfl) ?_
              refine lv_iload_n E.1 E.2.1 d_Mo_turned_37 rfl (lv_at hl 0 rfl) ?_
              refine lv_iconst (v := nI 4) E.1 E.2.1 d_Mo_turned_38 (by decide) ?_
              refine x_iadd E d_Mo_turned_39 ?_
              refine lv_bipush (v := nI 8) E.1 E.2.1 d_Mo_turned_40 (by decide) ?_
              refine x_irem E d_Mo_turned_42 (by omega) (by decide) (by decide) ?_
              refine lv_ishr E.1 E.2.1 d_Mo_turned_43 ?_
              refine x_top (v' := nI (g_pwr b_ k / 2 ^ ((i + 4) % 8))) (b_shr _ (by omega) (by omega)) ?_
              refine x_ixor E d_Mo_turned_44 ?_
              refine lv_iload_n E.1 E.2.1 d_Mo_turned_45 rfl (lv_at hl 2 rfl) ?_
              refine lv_iload_n E.1 E.2.1 d_Mo_turned_46 rfl (lv_at hl 0 rfl) ?_
              refine lv_iconst (v := nI 5) E.1 E.2.1 d_Mo_turned_47 (by decide) ?_
              refine x_iadd E d_Mo_turned_48 ?_
              refine lv_bipush (v := nI 8) E.1 E.2.1 d_Mo_turned_49 (by decide) ?_
              refine x_irem E d_Mo_turned_51 (by omega) (by decide) (by decide) ?_
              refine lv_ishr E.1 E.2.1 d_Mo_turned_52 ?_
              refine x_top (v' := nI (g_pwr b_ k / 2 ^ ((i + 5) % 8))) (b_shr _ (by omega) (by omega)) ?_
              refine x_ixor E d_Mo_turned_53 ?_
              refine lv_iload_n E.1 E.2.1 d_Mo_turned_54 rfl (lv_at hl 2 rfl) ?_
              refine lv_iload_n E.1 E.2.1 d_Mo_turned_55 rfl (lv_at hl 0 rfl) ?_
              refine lv_bipush (v := nI 6) E.1 E.2.1 d_Mo_turned_56 (by decide) ?_
              refine x_iadd E d_Mo_turned_58 ?_
              refine lv_bipush (v := nI 8) E.1 E.2.1 d_Mo_turned_59 (by decide) ?_
              refine x_irem E d_Mo_turned_61 (by omega) (by decide) (by decide) ?_
              refine lv_ishr E.1 E.2.1 d_Mo_turned_62 ?_
              refine x_top (v' := nI (g_pwr b_ k / 2 ^ ((i + 6) % 8))) (b_shr _ (by omega) (by omega)) ?_
              refine x_ixor E d_Mo_turned_63 ?_
              refine lv_iload_n E.1 E.2.1 d_Mo_turned_64 rfl (lv_at hl 2 rfl) ?_
              refine lv_iload_n E.1 E.2.1 d_Mo_turned_65 rfl (lv_at hl 0 rfl) ?_
              refine lv_bipush (v := nI 7) E.1 E.2.1 d_Mo_turned_66 (by decide) ?_
              refine x_iadd E d_Mo_turned_68 ?_
              refine lv_bipush (v := nI 8) E.1 E.2.1 d_Mo_turned_69 (by decide) ?_
              refine x_irem E d_Mo_turned_71 (by omega) (by decide) (by decide) ?_
              refine lv_ishr E.1 E.2.1 d_Mo_turned_72 ?_
              refine x_top (v' := nI (g_pwr b_ k / 2 ^ ((i + 7) % 8))) (b_shr _ (by omega) (by omega)) ?_
              refine x_ixor E d_Mo_turned_73 ?_
              refine lv_bipush (v := nI 99) E.1 E.2.1 d_Mo_turned_74 (by decide) ?_
              refine lv_iload_n E.1 E.2.1 d_Mo_turned_76 rfl (lv_at hl 0 rfl) ?_
              refine lv_ishr E.1 E.2.1 d_Mo_turned_77 ?_
              refine x_top (v' := nI (99 / 2 ^ i)) (b_shr _ (by omega) (by decide)) ?_
              refine x_ixor E d_Mo_turned_78 ?_
              refine lv_istore (lv' := [(4, .int (nI ((((((g_pwr b_ k / 2 ^ i) ^^^ (g_pwr b_ k / 2 ^ ((i + 4) % 8))) ^^^ (g_pwr b_ k / 2 ^ ((i + 5) % 8))) ^^^ (g_pwr b_ k / 2 ^ ((i + 6) % 8))) ^^^ (g_pwr b_ k / 2 ^ ((i + 7) % 8))) ^^^ (99 / 2 ^ i)))), (3, .int (nI i)), (2, .int (nI (g_ts (g_pwr b_ k) i))), (1, .int (nI (g_pwr b_ k))), (0, .int (nI b_))]) E.1 E.2.1 d_Mo_turned_79 hl (by decide) rfl (fun ls hl => ?_)
              refine lv_iload_n E.1 E.2.1 d_Mo_turned_81 rfl (lv_at hl 2 rfl) ?_
              refine lv_iload E.1 E.2.1 d_Mo_turned_82 (lv_at hl 0 rfl) ?_
              refine lv_iconst (v := nI 1) E.1 E.2.1 d_Mo_turned_84 (by decide) ?_
              refine lv_iand E.1 E.2.1 d_Mo_turned_85 ?_
              refine x_top (v' := nI (((((((g_pwr b_ k / 2 ^ i) ^^^ (g_pwr b_ k / 2 ^ ((i + 4) % 8))) ^^^ (g_pwr b_ k / 2 ^ ((i + 5) % 8))) ^^^ (g_pwr b_ k / 2 ^ ((i + 6) % 8))) ^^^ (g_pwr b_ k / 2 ^ ((i + 7) % 8))) ^^^ (99 / 2 ^ i)) % 2)) (b_and1 (Nat.lt_of_lt_of_le (g_b5 hp i) (by decide))) ?_
              refine lv_iload_n E.1 E.2.1 d_Mo_turned_86 rfl (lv_at hl 1 rfl) ?_
              refine lv_ishl E.1 E.2.1 d_Mo_turned_87 ?_
              refine x_top (v' := nI ((((((((g_pwr b_ k / 2 ^ i) ^^^ (g_pwr b_ k / 2 ^ ((i + 4) % 8))) ^^^ (g_pwr b_ k / 2 ^ ((i + 5) % 8))) ^^^ (g_pwr b_ k / 2 ^ ((i + 6) % 8))) ^^^ (g_pwr b_ k / 2 ^ ((i + 7) % 8))) ^^^ (99 / 2 ^ i)) % 2) * 2 ^ i)) (b_shl _ (by omega) (g_shb _ (by omega))) ?_
              refine x_iadd E d_Mo_turned_88 ?_
              refine lv_istore_n (lv' := [(2, .int (nI ((g_ts (g_pwr b_ k) i) + ((((((((g_pwr b_ k / 2 ^ i) ^^^ (g_pwr b_ k / 2 ^ ((i + 4) % 8))) ^^^ (g_pwr b_ k / 2 ^ ((i + 5) % 8))) ^^^ (g_pwr b_ k / 2 ^ ((i + 6) % 8))) ^^^ (g_pwr b_ k / 2 ^ ((i + 7) % 8))) ^^^ (99 / 2 ^ i)) % 2) * 2 ^ i)))), (4, .int (nI ((((((g_pwr b_ k / 2 ^ i) ^^^ (g_pwr b_ k / 2 ^ ((i + 4) % 8))) ^^^ (g_pwr b_ k / 2 ^ ((i + 5) % 8))) ^^^ (g_pwr b_ k / 2 ^ ((i + 6) % 8))) ^^^ (g_pwr b_ k / 2 ^ ((i + 7) % 8))) ^^^ (99 / 2 ^ i)))), (3, .int (nI i)), (1, .int (nI (g_pwr b_ k))), (0, .int (nI b_))]) E.1 E.2.1 d_Mo_turned_89 rfl hl (by decide) rfl (fun ls hl => ?_)
              refine x_inc E 1 (lv' := [(3, .int (nI (i + 1))), (2, .int (nI ((g_ts (g_pwr b_ k) i) + ((((((((g_pwr b_ k / 2 ^ i) ^^^ (g_pwr b_ k / 2 ^ ((i + 4) % 8))) ^^^ (g_pwr b_ k / 2 ^ ((i + 5) % 8))) ^^^ (g_pwr b_ k / 2 ^ ((i + 6) % 8))) ^^^ (g_pwr b_ k / 2 ^ ((i + 7) % 8))) ^^^ (99 / 2 ^ i)) % 2) * 2 ^ i)))), (4, .int (nI ((((((g_pwr b_ k / 2 ^ i) ^^^ (g_pwr b_ k / 2 ^ ((i + 4) % 8))) ^^^ (g_pwr b_ k / 2 ^ ((i + 5) % 8))) ^^^ (g_pwr b_ k / 2 ^ ((i + 6) % 8))) ^^^ (g_pwr b_ k / 2 ^ ((i + 7) % 8))) ^^^ (99 / 2 ^ i)))), (1, .int (nI (g_pwr b_ k))), (0, .int (nI b_))]) d_Mo_turned_90 hl (k := 2) rfl rfl (by decide) rfl (fun ls hl => ?_)
              refine lv_goto (tgt := 27) E.1 E.2.1 d_Mo_turned_93 (by decide) ?_
              exact ih27  (i + 1) (by omega) (by omega) _ (lv_sub hl [0, 1, 3, 4] rfl)
        exact hL27 (9) 0 (by omega) (by omega) _ (lv_sub hl [0, 1, 2, 3] rfl)
      · refine lv_iload_n E.1 E.2.1 d_Mo_turned_11 rfl (lv_at hl 1 rfl) ?_
        refine lv_iload_n E.1 E.2.1 d_Mo_turned_12 rfl (lv_at hl 2 rfl) ?_
        refine x_cf (x_rS (rest := []) E (q_Mo_times l (g_pwr b_ k) b_ (g_pwr_lt _ _) (hb)) x_pf (gg_S wd_629 wd_630 wd_40 wd_631) p_Mo_times rfl rfl ⟨Nat.le_of_ble_eq_true rfl, Nat.le_of_ble_eq_true rfl⟩ rfl hl.1 rfl (Nat.le_of_ble_eq_true rfl) d_Mo_turned_13 ⟨Nat.le_of_ble_eq_true rfl, Nat.le_of_ble_eq_true rfl⟩) ?_
        refine lv_istore_n (lv' := [(1, .int (nI (g_tm (g_pwr b_ k) b_))), (2, .int (nI k)), (0, .int (nI b_))]) E.1 E.2.1 d_Mo_turned_16 rfl hl (by decide) rfl (fun ls hl => ?_)
        refine x_inc E 1 (lv' := [(2, .int (nI (k + 1))), (1, .int (nI (g_tm (g_pwr b_ k) b_))), (0, .int (nI b_))]) d_Mo_turned_17 hl (k := 1) rfl rfl (by decide) rfl (fun ls hl => ?_)
        refine lv_goto (tgt := 4) E.1 E.2.1 d_Mo_turned_20 (by decide) ?_
        exact ih4  (k + 1) (by omega) (by omega) _ (lv_sub hl [0, 1, 2] rfl)
  exact hL4 (255) 0 (by omega) (by omega) _ (lv_sub hl [0, 1, 2] rfl)
set_option maxHeartbeats 4000000 in
set_option maxRecDepth 100000 in
theorem q_Mo_s (G : xG) (l : Launch) (h0 cd kq cq rs lq pq oq os bq rq ln wq hq dq nq aq xq yq sq tq rd : Nat) (ck lt tc wr : Int32) (b_ : Nat) (tt : Nat → Nat) (hb : b_ < 256) (hrd : g_rd rd tt) : xMi G l y_Mo_s c_Mo_s 3 .int ({ frames := 2, cells := 0, slots := 0, locals := 48 }) [.ref h0, .int (nI b_)] [] [(h0, .inr (6, [.int (nI cd), .ref kq, .ref cq, .int (nI rs), .int ck, .int lt, .ref lq, .ref pq, .ref oq, .int (nI os), .ref bq, .int tc, .int wr, .ref rq, .int (nI ln), .ref wq, .ref hq, .ref dq, .ref nq, .ref aq, .ref xq, .ref yq, .ref sq, .ref tq, .int (nI rd)])), (tq, x_N G 256 tt)] Unit (fun r _ => r = nI (k_S b_)) (fun u => [(h0, .inr (6, [.int (nI cd), .ref kq, .ref cq, .int (nI rs), .int ck, .int lt, .ref lq, .ref pq, .ref oq, .int (nI os), .ref bq, .int tc, .int wr, .ref rq, .int (nI ln), .ref wq, .ref hq, .ref dq, .ref nq, .ref aq, .ref xq, .ref yq, .ref sq, .ref tq, .int (nI 1)])), (tq, x_N G 256 k_S)]) 0 0 := by
  refine xMi.by r_Mo (by decide +kernel) (Nat.le_of_ble_eq_true rfl) rfl ?_
  intro p e s m args below meth c A ls Q E B hro hl hret
  have hl : lv_has ls 3 [(0, .ref h0), (1, .int (nI b_))] := hl
  refine lv_iconst (v := nI 0) E.1 E.2.1 d_Mo_s_0 (by decide) ?_
  refine lv_istore_n (lv' := [(2, .int (nI 0)), (0, .ref h0), (1, .int (nI b_))]) E.1 E.2.1 d_Mo_s_1 rfl hl (by decide) rfl (fun ls hl => ?_)
  have hL2 : ∀ (kf : Nat) (i : Nat), 256 - i < kf → (i ≤ 256) → (rd = 0 ∨ i = 0) → ∀ (H : Heap) (locs : List Loc) (ls : Array Slot), xB G A s H locs ([(h0, .inr (6, [.int (nI cd), .ref kq, .ref cq, .int (nI rs), .int ck, .int lt, .ref lq, .ref pq, .ref oq, .int (nI os), .ref bq, .int tc, .int wr, .ref rq, .int (nI ln), .ref wq, .ref hq, .ref dq, .ref nq, .ref aq, .ref xq, .ref yq, .ref sq, .ref tq, .int (nI rd)])), (tq, x_N G 256 (mx i k_S tt))]) → lv_has ls 3 [(2, .int (nI i)), (0, .ref h0), (1, .int (nI b_))] → W p l e ({ frames := 2, cells := 0, slots := 0, locals := 48 }) s m args below meth c H locs 0 0 Q (F0 m 2 ls []) := by
    intro k2
    induction k2 with
    | zero =>
      intro i hk
      exact absurd hk (Nat.not_lt_zero _)
    | succ k2 ih2 =>
      intro i hk2 hi hm H locs ls B hl
      refine lv_iload_n E.1 E.2.1 d_Mo_s_2 rfl (lv_at hl 0 rfl) ?_
      refine lv_sipush (v := nI 256) E.1 E.2.1 d_Mo_s_3 (by decide) ?_
      refine x_ge (tgt := 32) E d_Mo_s_6 (by decide) (by omega) (by omega) (fun hc6 => ?_) (fun hc6 => ?_)
      · have B := B.fn 1 rfl (nA k_S) (by first | exact (fun j hj => congrArg nI (mx_lt (by omega))) | exact (fun j hj => congrArg nI (by rcases hrd with h | h; exact absurd h hr1; rcases hm with h2 | h2; exact absurd h2 hr1; rw [h2, mx_0]; exact h.2 j hj)))
        have B : xB G A s _ _ ([(h0, .inr (6, [.int (nI cd), .ref kq, .ref cq, .int (nI rs), .int ck, .int lt, .ref lq, .ref pq, .ref oq, .int (nI os), .ref bq, .int tc, .int wr, .ref rq, .int (nI ln), .ref wq, .ref hq, .ref dq, .ref nq, .ref aq, .ref xq, .ref yq, .ref sq, .ref tq, .int (nI rd)])), (tq, x_N G 256 k_S)]) := B
        refine lv_aload_n E.1 E.2.1 d_Mo_s_32 rfl (lv_at hl 1 rfl) ?_
        refine lv_iconst (v := nI 1) E.1 E.2.1 d_Mo_s_33 (by decide) ?_
        refine x_put E B 0 rfl k_Mo 24 (by decide) wd_417 rfl rfl rfl (Nat.le_of_ble_eq_true rfl) d_Mo_s_34 (fun H locs B => ?_)
        have B : xB G A s _ _ ([(h0, .inr (6, [.int (nI cd), .ref kq, .ref cq, .int (nI rs), .int ck, .int lt, .ref lq, .ref pq, .ref oq, .int (nI os), .ref bq, .int tc, .int wr, .ref rq, .int (nI ln), .ref wq, .ref hq, .ref dq, .ref nq, .ref aq, .ref xq, .ref yq, .ref sq, .ref tq, .int (nI 1)])), (tq, x_N G 256 k_S)]) := B
        refine lv_aload_n E.1 E.2.1 d_Mo_s_37 rfl (lv_at hl 1 rfl) ?_
        refine x_get E B 0 rfl k_Mo 23 (by decide) wd_416 rfl d_Mo_s_38 ?_
        refine lv_iload_n E.1 E.2.1 d_Mo_s_41 rfl (lv_at hl 2 rfl) ?_
        refine x_aldN E B 1 rfl (i := b_) (by omega) (by decide) d_Mo_s_42 ?_
        exact hret _ () _ _ _ _ B (rfl) d_Mo_s_43
      · refine lv_aload_n E.1 E.2.1 d_Mo_s_9 rfl (lv_at hl 1 rfl) ?_
        refine x_get E B 0 rfl k_Mo 24 (by decide) wd_417 rfl d_Mo_s_10 ?_
        refine x_ifn (tgt := 32) E d_Mo_s_13 (by decide) (by rcases hrd with h | h <;> omega) (fun hr1 => ?_) (fun hr1 => ?_)
        · have B := B.fn 1 rfl (nA k_S) (by first | exact (fun j hj => congrArg nI (mx_lt (by omega))) | exact (fun j hj => congrArg nI (by rcases hrd with h | h; exact absurd h hr1; rcases hm with h2 | h2; exact absurd h2 hr1; rw [h2, mx_0]; exact h.2 j hj)))
          have B : xB G A s _ _ ([(h0, .inr (6, [.int (nI cd), .ref kq, .ref cq, .int (nI rs), .int ck, .int lt, .ref lq, .ref pq, .ref oq, .int (nI os), .ref bq, .int tc, .int wr, .ref rq, .int (nI ln), .ref wq, .ref hq, .ref dq, .ref nq, .ref aq, .ref xq, .ref yq, .ref sq, .ref tq, .int (nI rd)])), (tq, x_N G 256 k_S)]) := B
          refine lv_aload_n E.1 E.2.1 d_Mo_s_32 rfl (lv_at hl 1 rfl) ?_
          refine lv_iconst (v := nI 1) E.1 E.2.1 d_Mo_s_33 (by decide) ?_
          refine x_put E B 0 rfl k_Mo 24 (by decide) wd_417 rfl rfl rfl (Nat.le_of_ble_eq_true rfl) d_Mo_s_34 (fun H locs B => ?_)
          have B : xB G A s _ _ ([(h0, .inr (6, [.int (nI cd), .ref kq, .ref cq, .int (nI rs), .int ck, .int lt, .ref lq, .ref pq, .ref oq, .int (nI os), .ref bq, .int tc, .int wr, .ref rq, .int (nI ln), .ref wq, .ref hq, .ref dq, .ref nq, .ref aq, .ref xq, .ref yq, .ref sq, .ref tq, .int (nI 1)])), (tq, x_N G 256 k_S)]) := B
          refine lv_aload_n E.1 E.2.1 d_Mo_s_37 rfl (lv_at hl 1 rfl) ?_
          refine x_get E B 0 rfl k_Mo 23 (by decide) wd_416 rfl d_Mo_s_38 ?_
          refine lv_iload_n E.1 E.2.1 d_Mo_s_41 rfl (lv_at hl 2 rfl) ?_
          refine x_aldN E B 1 rfl (i := b_) (by omega) (by decide) d_Mo_s_42 ?_
          exact hret _ () _ _ _ _ B (rfl) d_Mo_s_43
        · refine lv_aload_n E.1 E.2.1 d_Mo_s_16 rfl (lv_at hl 1 rfl) ?_
          refine x_get E B 0 rfl k_Mo 23 (by decide) wd_416 rfl d_Mo_s_17 ?_
          refine lv_iload_n E.1 E.2.1 d_Mo_s_20 rfl (lv_at hl 0 rfl) ?_
          refine lv_iload_n E.1 E.2.1 d_Mo_s_21 rfl (lv_at hl 0 rfl) ?_
          refine x_cf (x_rS (rest := [.int (nI i), .ref tq]) E (q_Mo_turned l i (by omega)) x_pf (gg_S wd_626 wd_627 wd_40 wd_628) p_Mo_turned rfl rfl ⟨Nat.le_of_ble_eq_true rfl, Nat.le_of_ble_eq_true rfl⟩ rfl hl.1 rfl (Nat.le_of_ble_eq_true rfl) d_Mo_s_22 ⟨Nat.le_of_ble_eq_true rfl, Nat.le_of_ble_eq_true rfl⟩) ?_
          refine x_astN E B 1 rfl (i := i) (v := k_S i) (by omega) (by decide) d_Mo_s_25 (fun H locs B => ?_)
          have B : xB G A s _ _ ([(h0, .inr (6, [.int (nI cd), .ref kq, .ref cq, .int (nI rs), .int ck, .int lt, .ref lq, .ref pq, .ref oq, .int (nI os), .ref bq, .int tc, .int wr, .ref rq, .int (nI ln), .ref wq, .ref hq, .ref dq, .ref nq, .ref aq, .ref xq, .ref yq, .ref sq, .ref tq, .int (nI rd)])), (tq, x_N G 256 (va_up (mx i k_S tt) i (k_S i)))]) := B
          have B := B.fn 1 rfl (nA (mx (i + 1) k_S tt)) (mx_fn rfl)
          have B : xB G A s _ _ ([(h0, .inr (6, [.int (nI cd), .ref kq, .ref cq, .int (nI rs), .int ck, .int lt, .ref lq, .ref pq, .ref oq, .int (nI os), .ref bq, .int tc, .int wr, .ref rq, .int (nI ln), .ref wq, .ref hq, .ref dq, .ref nq, .ref aq, .ref xq, .ref yq, .ref sq, .ref tq, .int (nI rd)])), (tq, x_N G 256 (mx (i + 1) k_S tt))]) := B
          refine x_inc E 1 (lv' := [(2, .int (nI (i + 1))), (0, .ref h0), (1, .int (nI b_))]) d_Mo_s_26 hl (k := 0) rfl rfl (by decide) rfl (fun ls hl => ?_)
          refine lv_goto (tgt := 2) E.1 E.2.1 d_Mo_s_29 (by decide) ?_
          exact ih2  (i + 1) (by omega) (by omega) (Or.inl hr1) _ _ _ B (lv_sub hl [0, 1, 2] rfl)
  have B := B.fn 1 rfl (nA (mx 0 k_S tt)) (mx_z _ _)
  have B : xB G A s _ _ ([(h0, .inr (6, [.int (nI cd), .ref kq, .ref cq, .int (nI rs), .int ck, .int lt, .ref lq, .ref pq, .ref oq, .int (nI os), .ref bq, .int tc, .int wr, .ref rq, .int (nI ln), .ref wq, .ref hq, .ref dq, .ref nq, .ref aq, .ref xq, .ref yq, .ref sq, .ref tq, .int (nI rd)])), (tq, x_N G 256 (mx 0 k_S tt))]) := B
  exact hL2 (257) 0 (by omega) (by omega) (Or.inr rfl) _ _ _ B (lv_sub hl [0, 1, 2] rfl)
set_option maxHeartbeats 4000000 in
set_option maxRecDepth 100000 in
theorem q_Mo_schedules (G : xG) (l : Launch) (h0 cd kq cq rs lq pq oq os bq rq ln wq hq dq nq aq xq yq sq tq rd : Nat) (ck lt tc wr : Int32) (key s0 tt : Nat → Nat) (hk : g_bt 16 key) (hrd : g_rd rd tt) : xMv G l y_Mo_schedules c_Mo_schedules 6 ({ frames := 3, cells := 0, slots := 0, locals := 70 }) [.ref h0] [] [(h0, .inr (6, [.int (nI cd), .ref kq, .ref cq, .int (nI rs), .int ck, .int lt, .ref lq, .ref pq, .ref oq, .int (nI os), .ref bq, .int tc, .int wr, .ref rq, .int (nI ln), .ref wq, .ref hq, .ref dq, .ref nq, .ref aq, .ref xq, .ref yq, .ref sq, .ref tq, .int (nI rd)])), (kq, x_N G 16 key), (sq, x_N G 176 s0), (tq, x_N G 256 tt)] (Nat × (Nat → Nat)) (fun u => g_rd u.1 u.2) (fun u => [(h0, .inr (6, [.int (nI cd), .ref kq, .ref cq, .int (nI rs), .int ck, .int lt, .ref lq, .ref pq, .ref oq, .int (nI os), .ref bq, .int tc, .int wr, .ref rq, .int (nI ln), .ref wq, .ref hq, .ref dq, .ref nq, .ref aq, .ref xq, .ref yq, .ref sq, .ref tq, .int (nI u.1)])), (kq, x_N G 16 key), (sq, x_N G 176 (g_sch key)), (tq, x_N G 256 u.2)]) 0 0 := by
  refine xMv.by r_Mo (by decide +kernel) (Nat.le_of_ble_eq_true rfl) rfl ?_
  intro p e s m args below meth c A ls Q E hin B hro hl hret
  have hl : lv_has ls 6 [(0, .ref h0)] := hl
  refine lv_iconst (v := nI 1) E.1 E.2.1 d_Mo_schedules_0 (by decide) ?_
  refine lv_istore_n (lv' := [(1, .int (nI 1)), (0, .ref h0)]) E.1 E.2.1 d_Mo_schedules_1 rfl hl (by decide) rfl (fun ls hl => ?_)
  refine lv_iconst (v := nI 0) E.1 E.2.1 d_Mo_schedules_2 (by decide) ?_
  refine lv_istore_n (lv' := [(2, .int (nI 0)), (1, .int (nI 1)), (0, .ref h0)]) E.1 E.2.1 d_Mo_schedules_3 rfl hl (by decide) rfl (fun ls hl => ?_)
  have hL4 : ∀ (kf : Nat) (i : Nat) (rd_ : Nat) (tt_ : Nat → Nat), 176 - i < kf → (i ≤ 176) → (g_rd rd_ tt_) → ∀ (H : Heap) (locs : List Loc) (ls : Array Slot), xB G A s H locs ([(h0, .inr (6, [.int (nI cd), .ref kq, .ref cq, .int (nI rs), .int ck, .int lt, .ref lq, .ref pq, .ref oq, .int (nI os), .ref bq, .int tc, .int wr, .ref rq, .int (nI ln), .ref wq, .ref hq, .ref dq, .ref nq, .ref aq, .ref xq, .ref yq, .ref sq, .ref tq, .int (nI rd_)])), (kq, x_N G 16 key), (sq, x_N G 176 (mx i (g_sch key) s0)), (tq, x_N G 256 tt_)]) → lv_has ls 6 [(2, .int (nI i)), (1, .int (nI (g_pw ((i + 12) / 16 - 1)))), (0, .ref h0)] → W p l e ({ frames := 3, cells := 0, slots := 0, locals := 70 }) s m args below meth c H locs 0 0 Q (F0 m 4 ls []) := by
    intro k4
    induction k4 with
    | zero =>
      intro i rd_ tt_ hk
      exact absurd hk (Nat.not_lt_zero _)
    | succ k4 ih4 =>
      intro i rd_ tt_ hk4 hi hrd_ H locs ls B hl
      refine lv_iload_n E.1 E.2.1 d_Mo_schedules_4 rfl (lv_at hl 0 rfl) ?_
      refine lv_sipush (v := nI 176) E.1 E.2.1 d_Mo_schedules_5 (by decide) ?_
      refine x_ge (tgt := 131) E d_Mo_schedules_8 (by decide) (by omega) (by omega) (fun c1 => ?_) (fun c1 => ?_)
      · obtain rfl : i = 176 := by omega
        have B := B.fn 2 rfl (nA (g_sch key)) (mx_e)
        have B : xB G A s _ _ ([(h0, .inr (6, [.int (nI cd), .ref kq, .ref cq, .int (nI rs), .int ck, .int lt, .ref lq, .ref pq, .ref oq, .int (nI os), .ref bq, .int tc, .int wr, .ref rq, .int (nI ln), .ref wq, .ref hq, .ref dq, .ref nq, .ref aq, .ref xq, .ref yq, .ref sq, .ref tq, .int (nI rd_)])), (kq, x_N G 16 key), (sq, x_N G 176 (g_sch key)), (tq, x_N G 256 tt_)]) := B
        exact hret (rd_, tt_) _ _ _ _ B hrd_ d_Mo_schedules_131
      · refine lv_iload_n E.1 E.2.1 d_Mo_schedules_11 rfl (lv_at hl 0 rfl) ?_
        refine lv_bipush (v := nI 16) E.1 E.2.1 d_Mo_schedules_12 (by decide) ?_
        refine x_ge (tgt := 32) E d_Mo_schedules_14 (by decide) (by omega) (by omega) (fun c2 => ?_) (fun c2 => ?_)
        · refine lv_iload_n E.1 E.2.1 d_Mo_schedules_32 rfl (lv_at hl 0 rfl) ?_
          refine lv_iconst (v := nI 4) E.1 E.2.1 d_Mo_schedules_33 (by decide) ?_
          refine x_idiv E d_Mo_schedules_34 (by omega) (by decide) (by decide) ?_
          refine lv_istore_n (lv' := [(3, .int (nI (i / 4))), (2, .int (nI i)), (1, .int (nI (g_pw ((i + 12) / 16 - 1)))), (0, .ref h0)]) E.1 E.2.1 d_Mo_schedules_35 rfl hl (by decide) rfl (fun ls hl => ?_)
          refine lv_iload_n E.1 E.2.1 d_Mo_schedules_36 rfl (lv_at hl 1 rfl) ?_
          refine lv_iconst (v := nI 4) E.1 E.2.1 d_Mo_schedules_37 (by decide) ?_
          refine x_irem E d_Mo_schedules_38 (by omega) (by decide) (by decide) ?_
          refine lv_istore (lv' := [(4, .int (nI (i % 4))), (3, .int (nI (i / 4))), (2, .int (nI i)), (1, .int (nI (g_pw ((i + 12) / 16 - 1)))), (0, .ref h0)]) E.1 E.2.1 d_Mo_schedules_39 hl (by decide) rfl (fun ls hl => ?_)
          refine lv_aload_n E.1 E.2.1 d_Mo_schedules_41 rfl (lv_at hl 4 rfl) ?_
          refine x_get E B 0 rfl k_Mo 22 (by decide) wd_415 rfl d_Mo_schedules_42 ?_
          refine lv_iload_n E.1 E.2.1 d_Mo_schedules_45 rfl (lv_at hl 2 rfl) ?_
          refine lv_iconst (v := nI 4) E.1 E.2.1 d_Mo_schedules_46 (by decide) ?_
          refine x_isub E d_Mo_schedules_47 (by omega) ?_
          refine x_aldN E B 2 rfl (i := i - 4) (by omega) (by decide) d_Mo_schedules_48 ?_
          refine x_top (show nI ((mx i (g_sch key) s0) (i - 4)) = nI (g_sch key (i - 4)) from congrArg nI (by exact mx_lt (by omega))) ?_
          refine lv_istore (lv' := [(5, .int (nI (g_sch key (i - 4)))), (4, .int (nI (i % 4))), (3, .int (nI (i / 4))), (2, .int (nI i)), (1, .int (nI (g_pw ((i + 12) / 16 - 1)))), (0, .ref h0)]) E.1 E.2.1 d_Mo_schedules_49 hl (by decide) rfl (fun ls hl => ?_)
          refine lv_iload_n E.1 E.2.1 d_Mo_schedules_51 rfl (lv_at hl 2 rfl) ?_
          refine lv_iconst (v := nI 4) E.1 E.2.1 d_Mo_schedules_52 (by decide) ?_
          refine x_irem E d_Mo_schedules_53 (by omega) (by decide) (by decide) ?_
          refine x_ifn (tgt := 107) E d_Mo_schedules_54 (by decide) (by omega) (fun c3 => ?_) (fun c3 => ?_)
          · refine lv_aload_n E.1 E.2.1 d_Mo_schedules_107 rfl (lv_at hl 5 rfl) ?_
            refine x_get E B 0 rfl k_Mo 22 (by decide) wd_415 rfl d_Mo_schedules_108 ?_
            refine lv_iload_n E.1 E.2.1 d_Mo_schedules_111 rfl (lv_at hl 3 rfl) ?_
            refine lv_aload_n E.1 E.2.1 d_Mo_schedules_112 rfl (lv_at hl 5 rfl) ?_
            refine x_get E B 0 rfl k_Mo 22 (by decide) wd_415 rfl d_Mo_schedules_113 ?_
            refine lv_iload_n E.1 E.2.1 d_Mo_schedules_116 rfl (lv_at hl 3 rfl) ?_
            refine lv_bipush (v := nI 16) E.1 E.2.1 d_Mo_schedules_117 (by decide) ?_
            refine x_isub E d_Mo_schedules_119 (by omega) ?_
            refine x_aldN E B 2 rfl (i := i - 16) (by omega) (by decide) d_Mo_schedules_120 ?_
            refine x_top (show nI ((mx i (g_sch key) s0) (i - 16)) = nI (g_sch key (i - 16)) from congrArg nI (by exact mx_lt (by omega))) ?_
            refine lv_iload E.1 E.2.1 d_Mo_schedules_121 (lv_at hl 0 rfl) ?_
            refine x_ixor E d_Mo_schedules_123 ?_
            refine x_astN E B 2 rfl (i := i) (v := (g_sch key (i - 16)) ^^^ (g_sch key (i - 4))) (by omega) (by decide) d_Mo_schedules_124 (fun H locs B => ?_)
            have B : xB G A s _ _ ([(h0, .inr (6, [.int (nI cd), .ref kq, .ref cq, .int (nI rs), .int ck, .int lt, .ref lq, .ref pq, .ref oq, .int (nI os), .ref bq, .int tc, .int wr, .ref rq, .int (nI ln), .ref wq, .ref hq, .ref dq, .ref nq, .ref aq, .ref xq, .ref yq, .ref sq, .ref tq, .int (nI rd_)])), (kq, x_N G 16 key), (sq, x_N G 176 (va_up (mx i (g_sch key) s0) i ((g_sch key (i - 16)) ^^^ (g_sch key (i - 4))))), (tq, x_N G 256 tt_)]) := B
            have B := B.fn 2 rfl (nA (mx (i + 1) (g_sch key) s0)) (mx_fn (by first | exact g_scA (by omega) (by omega) (by omega) | exact g_scB (by omega) (by omega) (by omega) | exact (g_sch_2 (by omega) (by omega)).symm))
            have B : xB G A s _ _ ([(h0, .inr (6, [.int (nI cd), .ref kq, .ref cq, .int (nI rs), .int ck, .int lt, .ref lq, .ref pq, .ref oq, .int (nI os), .ref bq, .int tc, .int wr, .ref rq, .int (nI ln), .ref wq, .ref hq, .ref dq, .ref nq, .ref aq, .ref xq, .ref yq, .ref sq, .ref tq, .int (nI rd_)])), (kq, x_N G 16 key), (sq, x_N G 176 (mx (i + 1) (g_sch key) s0)), (tq, x_N G 256 tt_)]) := B
            refine x_inc E 1 (lv' := [(2, .int (nI (i + 1))), (5, .int (nI (g_sch key (i - 4)))), (4, .int (nI (i % 4))), (3, .int (nI (i / 4))), (1, .int (nI (g_pw ((i + 12) / 16 - 1)))), (0, .ref h0)]) d_Mo_schedules_125 hl (k := 3) rfl rfl (by decide) rfl (fun ls hl => ?_)
            refine lv_goto (tgt := 4) E.1 E.2.1 d_Mo_schedules_128 (by decide) ?_
            rw [show g_pw ((i + 12) / 16 - 1) = g_pw ((i + 1 + 12) / 16 - 1) from congrArg g_pw (by omega)] at hl
            exact ih4  (i + 1) rd_ tt_ (by omega) (by omega) (hrd_) _ _ _ B (lv_sub hl [0, 4, 5] rfl)
          · refine lv_aload_n E.1 E.2.1 d_Mo_schedules_57 rfl (lv_at hl 5 rfl) ?_
            refine lv_aload_n E.1 E.2.1 d_Mo_schedules_58 rfl (lv_at hl 5 rfl) ?_
            refine x_get E B 0 rfl k_Mo 22 (by decide) wd_415 rfl d_Mo_schedules_59 ?_
            refine lv_iconst (v := nI 4) E.1 E.2.1 d_Mo_schedules_62 (by decide) ?_
            refine lv_iload_n E.1 E.2.1 d_Mo_schedules_63 rfl (lv_at hl 2 rfl) ?_
            refine x_imul E d_Mo_schedules_64 ?_
            refine lv_iconst (v := nI 4) E.1 E.2.1 d_Mo_schedules_65 (by decide) ?_
            refine x_isub E d_Mo_schedules_66 (by omega) ?_
            refine lv_iload E.1 E.2.1 d_Mo_schedules_67 (lv_at hl 1 rfl) ?_
            refine lv_iconst (v := nI 1) E.1 E.2.1 d_Mo_schedules_69 (by decide) ?_
            refine x_iadd E d_Mo_schedules_70 ?_
            refine lv_iconst (v := nI 4) E.1 E.2.1 d_Mo_schedules_71 (by decide) ?_
            refine x_irem E d_Mo_schedules_72 (by omega) (by decide) (by decide) ?_
            refine x_iadd E d_Mo_schedules_73 ?_
            refine x_aldN E B 2 rfl (i := ((4 * (i / 4)) - 4) + (((i % 4) + 1) % 4)) (by omega) (by decide) d_Mo_schedules_74 ?_
            refine x_top (show nI ((mx i (g_sch key) s0) (((4 * (i / 4)) - 4) + (((i % 4) + 1) % 4))) = nI (g_sch key (i / 4 * 4 - 4 + (i + 1) % 4)) from congrArg nI (by rw [mx_lt (by omega)]; congr 1; omega)) ?_
            refine x_ci (ws' := (fun u => [(h0, .inr (6, [.int (nI cd), .ref kq, .ref cq, .int (nI rs), .int ck, .int lt, .ref lq, .ref pq, .ref oq, .int (nI os), .ref bq, .int tc, .int wr, .ref rq, .int (nI ln), .ref wq, .ref hq, .ref dq, .ref nq, .ref aq, .ref xq, .ref yq, .ref sq, .ref tq, .int (nI 1)])), (kq, x_N G 16 key), (sq, x_N G 176 (mx i (g_sch key) s0)), (tq, x_N G 256 k_S)])) (wr := [(kq, x_N G 16 key), (sq, x_N G 176 (mx i (g_sch key) s0))]) B (x_rV (rest := []) E B (q_Mo_s G l h0 cd kq cq rs lq pq oq os bq rq ln wq hq dq nq aq xq yq sq tq rd_ ck lt tc wr (g_sch key (i / 4 * 4 - 4 + (i + 1) % 4)) tt_ (g_sch_bt hk _) (hrd_) _) (x_pre B [0, 3] rfl (by decide) x_ro0) 0 rfl k_Mo (gg_V wd_622 wd_624 wd_30 wd_40 wd_625) ⟨rfl, p_Mo_s⟩ rfl rfl ⟨Nat.le_of_ble_eq_true rfl, Nat.le_of_ble_eq_true rfl⟩ rfl hl.1 rfl (Nat.le_of_ble_eq_true rfl) d_Mo_schedules_75 ⟨Nat.le_of_ble_eq_true rfl, Nat.le_of_ble_eq_true rfl⟩) [0, 3] [1, 2] [2, 0, 1, 3] rfl rfl (by decide) (by decide) (by decide) (fun _ => rfl) (fun r75 u75 H locs hw75 B => ?_)
            subst hw75
            have B : xB G A s _ _ ([(h0, .inr (6, [.int (nI cd), .ref kq, .ref cq, .int (nI rs), .int ck, .int lt, .ref lq, .ref pq, .ref oq, .int (nI os), .ref bq, .int tc, .int wr, .ref rq, .int (nI ln), .ref wq, .ref hq, .ref dq, .ref nq, .ref aq, .ref xq, .ref yq, .ref sq, .ref tq, .int (nI 1)])), (kq, x_N G 16 key), (sq, x_N G 176 (mx i (g_sch key) s0)), (tq, x_N G 256 k_S)]) := B
            refine lv_iload E.1 E.2.1 d_Mo_schedules_78 (lv_at hl 1 rfl) ?_
            refine x_ifn (tgt := 87) E d_Mo_schedules_80 (by decide) (by omega) (fun c4 => ?_) (fun c4 => ?_)
            · refine lv_iconst (v := nI 0) E.1 E.2.1 d_Mo_schedules_87 (by decide) ?_
              refine x_ixor E d_Mo_schedules_88 ?_
              refine lv_istore (lv' := [(5, .int (nI ((k_S (g_sch key (i / 4 * 4 - 4 + (i + 1) % 4))) ^^^ 0))), (4, .int (nI (i % 4))), (3, .int (nI (i / 4))), (2, .int (nI i)), (1, .int (nI (g_pw ((i + 12) / 16 - 1)))), (0, .ref h0)]) E.1 E.2.1 d_Mo_schedules_89 hl (by decide) rfl (fun ls hl => ?_)
              refine lv_iload E.1 E.2.1 d_Mo_schedules_91 (lv_at hl 1 rfl) ?_
              refine lv_iconst (v := nI 3) E.1 E.2.1 d_Mo_schedules_93 (by decide) ?_
              refine x_ne (tgt := 105) E d_Mo_schedules_94 (by decide) (by omega) (by omega) (fun c5 => ?_) (fun c5 => ?_)
              · refine lv_iload_n E.1 E.2.1 d_Mo_schedules_105 rfl (lv_at hl 4 rfl) ?_
                refine lv_istore_n (lv' := [(1, .int (nI (g_pw ((i + 12) / 16 - 1)))), (5, .int (nI ((k_S (g_sch key (i / 4 * 4 - 4 + (i + 1) % 4))) ^^^ 0))), (4, .int (nI (i % 4))), (3, .int (nI (i / 4))), (2, .int (nI i)), (0, .ref h0)]) E.1 E.2.1 d_Mo_schedules_106 rfl hl (by decide) rfl (fun ls hl => ?_)
                refine lv_aload_n E.1 E.2.1 d_Mo_schedules_107 rfl (lv_at hl 5 rfl) ?_
                refine x_get E B 0 rfl k_Mo 22 (by decide) wd_415 rfl d_Mo_schedules_108 ?_
                refine lv_iload_n E.1 E.2.1 d_Mo_schedules_111 rfl (lv_at hl 4 rfl) ?_
                refine lv_aload_n E.1 E.2.1 d_Mo_schedules_112 rfl (lv_at hl 5 rfl) ?_
                refine x_get E B 0 rfl k_Mo 22 (by decide) wd_415 rfl d_Mo_schedules_113 ?_
                refine lv_iload_n E.1 E.2.1 d_Mo_schedules_116 rfl (lv_at hl 4 rfl) ?_
                refine lv_bipush (v := nI 16) E.1 E.2.1 d_Mo_schedules_117 (by decide) ?_
                refine x_isub E d_Mo_schedules_119 (by omega) ?_
                refine x_aldN E B 2 rfl (i := i - 16) (by omega) (by decide) d_Mo_schedules_120 ?_
                refine x_top (show nI ((mx i (g_sch key) s0) (i - 16)) = nI (g_sch key (i - 16)) from congrArg nI (by exact mx_lt (by omega))) ?_
                refine lv_iload E.1 E.2.1 d_Mo_schedules_121 (lv_at hl 1 rfl) ?_
                refine x_ixor E d_Mo_schedules_123 ?_
                refine x_astN E B 2 rfl (i := i) (v := (g_sch key (i - 16)) ^^^ ((k_S (g_sch key (i / 4 * 4 - 4 + (i + 1) % 4))) ^^^ 0)) (by omega) (by decide) d_Mo_schedules_124 (fun H locs B => ?_)
                have B : xB G A s _ _ ([(h0, .inr (6, [.int (nI cd), .ref kq, .ref cq, .int (nI rs), .int ck, .int lt, .ref lq, .ref pq, .ref oq, .int (nI os), .ref bq, .int tc, .int wr, .ref rq, .int (nI ln), .ref wq, .ref hq, .ref dq, .ref nq, .ref aq, .ref xq, .ref yq, .ref sq, .ref tq, .int (nI 1)])), (kq, x_N G 16 key), (sq, x_N G 176 (va_up (mx i (g_sch key) s0) i ((g_sch key (i - 16)) ^^^ ((k_S (g_sch key (i / 4 * 4 - 4 + (i + 1) % 4))) ^^^ 0)))), (tq, x_N G 256 k_S)]) := B
                have B := B.fn 2 rfl (nA (mx (i + 1) (g_sch key) s0)) (mx_fn (by first | exact g_scA (by omega) (by omega) (by omega) | exact g_scB (by omega) (by omega) (by omega) | exact (g_sch_2 (by omega) (by omega)).symm))
                have B : xB G A s _ _ ([(h0, .inr (6, [.int (nI cd), .ref kq, .ref cq, .int (nI rs), .int ck, .int lt, .ref lq, .ref pq, .ref oq, .int (nI os), .ref bq, .int tc, .int wr, .ref rq, .int (nI ln), .ref wq, .ref hq, .ref dq, .ref nq, .ref aq, .ref xq, .ref yq, .ref sq, .ref tq, .int (nI 1)])), (kq, x_N G 16 key), (sq, x_N G 176 (mx (i + 1) (g_sch key) s0)), (tq, x_N G 256 k_S)]) := B
                refine x_inc E 1 (lv' := [(2, .int (nI (i + 1))), (1, .int (nI (g_pw ((i + 12) / 16 - 1)))), (5, .int (nI ((k_S (g_sch key (i / 4 * 4 - 4 + (i + 1) % 4))) ^^^ 0))), (4, .int (nI (i % 4))), (3, .int (nI (i / 4))), (0, .ref h0)]) d_Mo_schedules_125 hl (k := 4) rfl rfl (by decide) rfl (fun ls hl => ?_)
                refine lv_goto (tgt := 4) E.1 E.2.1 d_Mo_schedules_128 (by decide) ?_
                rw [show g_pw ((i + 12) / 16 - 1) = g_pw ((i + 1 + 12) / 16 - 1) from congrArg g_pw (by omega)] at hl
                exact ih4  (i + 1) 1 k_S (by omega) (by omega) (Or.inr ⟨rfl, fun _ _ => rfl⟩) _ _ _ B (lv_sub hl [0, 1, 5] rfl)
              · refine lv_iload_n E.1 E.2.1 d_Mo_schedules_97 rfl (lv_at hl 4 rfl) ?_
                refine lv_iconst (v := nI 2) E.1 E.2.1 d_Mo_schedules_98 (by decide) ?_
                refine x_cf (x_rS (rest := []) E (q_Mo_times l (g_pw ((i + 12) / 16 - 1)) 2 (g_pw_lt _) (by decide)) x_pf (gg_S wd_629 wd_630 wd_40 wd_631) p_Mo_times rfl rfl ⟨Nat.le_of_ble_eq_true rfl, Nat.le_of_ble_eq_true rfl⟩ rfl hl.1 rfl (Nat.le_of_ble_eq_true rfl) d_Mo_schedules_99 ⟨Nat.le_of_ble_eq_true rfl, Nat.le_of_ble_eq_true rfl⟩) ?_
                refine x_top (show nI (g_tm (g_pw ((i + 12) / 16 - 1)) 2) = nI (g_x2 (g_pw ((i + 12) / 16 - 1))) from congrArg nI (by exact g_tm2 _ (g_pw_lt _))) ?_
                refine lv_goto (tgt := 106) E.1 E.2.1 d_Mo_schedules_102 (by decide) ?_
                refine lv_istore_n (lv' := [(1, .int (nI (g_x2 (g_pw ((i + 12) / 16 - 1))))), (5, .int (nI ((k_S (g_sch key (i / 4 * 4 - 4 + (i + 1) % 4))) ^^^ 0))), (4, .int (nI (i % 4))), (3, .int (nI (i / 4))), (2, .int (nI i)), (0, .ref h0)]) E.1 E.2.1 d_Mo_schedules_106 rfl hl (by decide) rfl (fun ls hl => ?_)
                refine lv_aload_n E.1 E.2.1 d_Mo_schedules_107 rfl (lv_at hl 5 rfl) ?_
                refine x_get E B 0 rfl k_Mo 22 (by decide) wd_415 rfl d_Mo_schedules_108 ?_
                refine lv_iload_n E.1 E.2.1 d_Mo_schedules_111 rfl (lv_at hl 4 rfl) ?_
                refine lv_aload_n E.1 E.2.1 d_Mo_schedules_112 rfl (lv_at hl 5 rfl) ?_
                refine x_get E B 0 rfl k_Mo 22 (by decide) wd_415 rfl d_Mo_schedules_113 ?_
                refine lv_iload_n E.1 E.2.1 d_Mo_schedules_116 rfl (lv_at hl 4 rfl) ?_
                refine lv_bipush (v := nI 16) E.1 E.2.1 d_Mo_schedules_117 (by decide) ?_
                refine x_isub E d_Mo_schedules_119 (by omega) ?_
                refine x_aldN E B 2 rfl (i := i - 16) (by omega) (by decide) d_Mo_schedules_120 ?_
                refine x_top (show nI ((mx i (g_sch key) s0) (i - 16)) = nI (g_sch key (i - 16)) from congrArg nI (by exact mx_lt (by omega))) ?_
                refine lv_iload E.1 E.2.1 d_Mo_schedules_121 (lv_at hl 1 rfl) ?_
                refine x_ixor E d_Mo_schedules_123 ?_
                refine x_astN E B 2 rfl (i := i) (v := (g_sch key (i - 16)) ^^^ ((k_S (g_sch key (i / 4 * 4 - 4 + (i + 1) % 4))) ^^^ 0)) (by omega) (by decide) d_Mo_schedules_124 (fun H locs B => ?_)
                have B : xB G A s _ _ ([(h0, .inr (6, [.int (nI cd), .ref kq, .ref cq, .int (nI rs), .int ck, .int lt, .ref lq, .ref pq, .ref oq, .int (nI os), .ref bq, .int tc, .int wr, .ref rq, .int (nI ln), .ref wq, .ref hq, .ref dq, .ref nq, .ref aq, .ref xq, .ref yq, .ref sq, .ref tq, .int (nI 1)])), (kq, x_N G 16 key), (sq, x_N G 176 (va_up (mx i (g_sch key) s0) i ((g_sch key (i - 16)) ^^^ ((k_S (g_sch key (i / 4 * 4 - 4 + (i + 1) % 4))) ^^^ 0)))), (tq, x_N G 256 k_S)]) := B
                have B := B.fn 2 rfl (nA (mx (i + 1) (g_sch key) s0)) (mx_fn (by first | exact g_scA (by omega) (by omega) (by omega) | exact g_scB (by omega) (by omega) (by omega) | exact (g_sch_2 (by omega) (by omega)).symm))
                have B : xB G A s _ _ ([(h0, .inr (6, [.int (nI cd), .ref kq, .ref cq, .int (nI rs), .int ck, .int lt, .ref lq, .ref pq, .ref oq, .int (nI os), .ref bq, .int tc, .int wr, .ref rq, .int (nI ln), .ref wq, .ref hq, .ref dq, .ref nq, .ref aq, .ref xq, .ref yq, .ref sq, .ref tq, .int (nI 1)])), (kq, x_N G 16 key), (sq, x_N G 176 (mx (i + 1) (g_sch key) s0)), (tq, x_N G 256 k_S)]) := B
                refine x_inc E 1 (lv' := [(2, .int (nI (i + 1))), (1, .int (nI (g_x2 (g_pw ((i + 12) / 16 - 1))))), (5, .int (nI ((k_S (g_sch key (i / 4 * 4 - 4 + (i + 1) % 4))) ^^^ 0))), (4, .int (nI (i % 4))), (3, .int (nI (i / 4))), (0, .ref h0)]) d_Mo_schedules_125 hl (k := 4) rfl rfl (by decide) rfl (fun ls hl => ?_)
                refine lv_goto (tgt := 4) E.1 E.2.1 d_Mo_schedules_128 (by decide) ?_
                rw [show g_x2 (g_pw ((i + 12) / 16 - 1)) = g_pw ((i + 1 + 12) / 16 - 1) by rw [show (i + 1 + 12) / 16 - 1 = (i + 12) / 16 - 1 + 1 by omega]; rfl] at hl
                exact ih4  (i + 1) 1 k_S (by omega) (by omega) (Or.inr ⟨rfl, fun _ _ => rfl⟩) _ _ _ B (lv_sub hl [0, 1, 5] rfl)
            · refine lv_iload_n E.1 E.2.1 d_Mo_schedules_83 rfl (lv_at hl 4 rfl) ?_
              refine lv_goto (tgt := 88) E.1 E.2.1 d_Mo_schedules_84 (by decide) ?_
              refine x_ixor E d_Mo_schedules_88 ?_
              refine lv_istore (lv' := [(5, .int (nI ((k_S (g_sch key (i / 4 * 4 - 4 + (i + 1) % 4))) ^^^ (g_pw ((i + 12) / 16 - 1))))), (4, .int (nI (i % 4))), (3, .int (nI (i / 4))), (2, .int (nI i)), (1, .int (nI (g_pw ((i + 12) / 16 - 1)))), (0, .ref h0)]) E.1 E.2.1 d_Mo_schedules_89 hl (by decide) rfl (fun ls hl => ?_)
              refine lv_iload E.1 E.2.1 d_Mo_schedules_91 (lv_at hl 1 rfl) ?_
              refine lv_iconst (v := nI 3) E.1 E.2.1 d_Mo_schedules_93 (by decide) ?_
              refine x_ne (tgt := 105) E d_Mo_schedules_94 (by decide) (by omega) (by omega) (fun c6 => ?_) (fun c6 => ?_)
              · refine lv_iload_n E.1 E.2.1 d_Mo_schedules_105 rfl (lv_at hl 4 rfl) ?_
                refine lv_istore_n (lv' := [(1, .int (nI (g_pw ((i + 12) / 16 - 1)))), (5, .int (nI ((k_S (g_sch key (i / 4 * 4 - 4 + (i + 1) % 4))) ^^^ (g_pw ((i + 12) / 16 - 1))))), (4, .int (nI (i % 4))), (3, .int (nI (i / 4))), (2, .int (nI i)), (0, .ref h0)]) E.1 E.2.1 d_Mo_schedules_106 rfl hl (by decide) rfl (fun ls hl => ?_)
                refine lv_aload_n E.1 E.2.1 d_Mo_schedules_107 rfl (lv_at hl 5 rfl) ?_
                refine x_get E B 0 rfl k_Mo 22 (by decide) wd_415 rfl d_Mo_schedules_108 ?_
                refine lv_iload_n E.1 E.2.1 d_Mo_schedules_111 rfl (lv_at hl 4 rfl) ?_
                refine lv_aload_n E.1 E.2.1 d_Mo_schedules_112 rfl (lv_at hl 5 rfl) ?_
                refine x_get E B 0 rfl k_Mo 22 (by decide) wd_415 rfl d_Mo_schedules_113 ?_
                refine lv_iload_n E.1 E.2.1 d_Mo_schedules_116 rfl (lv_at hl 4 rfl) ?_
                refine lv_bipush (v := nI 16) E.1 E.2.1 d_Mo_schedules_117 (by decide) ?_
                refine x_isub E d_Mo_schedules_119 (by omega) ?_
                refine x_aldN E B 2 rfl (i := i - 16) (by omega) (by decide) d_Mo_schedules_120 ?_
                refine x_top (show nI ((mx i (g_sch key) s0) (i - 16)) = nI (g_sch key (i - 16)) from congrArg nI (by exact mx_lt (by omega))) ?_
                refine lv_iload E.1 E.2.1 d_Mo_schedules_121 (lv_at hl 1 rfl) ?_
                refine x_ixor E d_Mo_schedules_123 ?_
                refine x_astN E B 2 rfl (i := i) (v := (g_sch key (i - 16)) ^^^ ((k_S (g_sch key (i / 4 * 4 - 4 + (i + 1) % 4))) ^^^ (g_pw ((i + 12) / 16 - 1)))) (by omega) (by decide) d_Mo_schedules_124 (fun H locs B => ?_)
                have B : xB G A s _ _ ([(h0, .inr (6, [.int (nI cd), .ref kq, .ref cq, .int (nI rs), .int ck, .int lt, .ref lq, .ref pq, .ref oq, .int (nI os), .ref bq, .int tc, .int wr, .ref rq, .int (nI ln), .ref wq, .ref hq, .ref dq, .ref nq, .ref aq, .ref xq, .ref yq, .ref sq, .ref tq, .int (nI 1)])), (kq, x_N G 16 key), (sq, x_N G 176 (va_up (mx i (g_sch key) s0) i ((g_sch key (i - 16)) ^^^ ((k_S (g_sch key (i / 4 * 4 - 4 + (i + 1) % 4))) ^^^ (g_pw ((i + 12) / 16 - 1)))))), (tq, x_N G 256 k_S)]) := B
                have B := B.fn 2 rfl (nA (mx (i + 1) (g_sch key) s0)) (mx_fn (by first | exact g_scA (by omega) (by omega) (by omega) | exact g_scB (by omega) (by omega) (by omega) | exact (g_sch_2 (by omega) (by omega)).symm))
                have B : xB G A s _ _ ([(h0, .inr (6, [.int (nI cd), .ref kq, .ref cq, .int (nI rs), .int ck, .int lt, .ref lq, .ref pq, .ref oq, .int (nI os), .ref bq, .int tc, .int wr, .ref rq, .int (nI ln), .ref wq, .ref hq, .ref dq, .ref nq, .ref aq, .ref xq, .ref yq, .ref sq, .ref tq, .int (nI 1)])), (kq, x_N G 16 key), (sq, x_N G 176 (mx (i + 1) (g_sch key) s0)), (tq, x_N G 256 k_S)]) := B
                refine x_inc E 1 (lv' := [(2, .int (nI (i + 1))), (1, .int (nI (g_pw ((i + 12) / 16 - 1)))), (5, .int (nI ((k_S (g_sch key (i / 4 * 4 - 4 + (i + 1) % 4))) ^^^ (g_pw ((i + 12) / 16 - 1))))), (4, .int (nI (i % 4))), (3, .int (nI (i / 4))), (0, .ref h0)]) d_Mo_schedules_125 hl (k := 4) rfl rfl (by decide) rfl (fun ls hl => ?_)
                refine lv_goto (tgt := 4) E.1 E.2.1 d_Mo_schedules_128 (by decide) ?_
                rw [show g_pw ((i + 12) / 16 - 1) = g_pw ((i + 1 + 12) / 16 - 1) from congrArg g_pw (by omega)] at hl
                exact ih4  (i + 1) 1 k_S (by omega) (by omega) (Or.inr ⟨rfl, fun _ _ => rfl⟩) _ _ _ B (lv_sub hl [0, 1, 5] rfl)
              · refine lv_iload_n E.1 E.2.1 d_Mo_schedules_97 rfl (lv_at hl 4 rfl) ?_
                refine lv_iconst (v := nI 2) E.1 E.2.1 d_Mo_schedules_98 (by decide) ?_
                refine x_cf (x_rS (rest := []) E (q_Mo_times l (g_pw ((i + 12) / 16 - 1)) 2 (g_pw_lt _) (by decide)) x_pf (gg_S wd_629 wd_630 wd_40 wd_631) p_Mo_times rfl rfl ⟨Nat.le_of_ble_eq_true rfl, Nat.le_of_ble_eq_true rfl⟩ rfl hl.1 rfl (Nat.le_of_ble_eq_true rfl) d_Mo_schedules_99 ⟨Nat.le_of_ble_eq_true rfl, Nat.le_of_ble_eq_true rfl⟩) ?_
                refine x_top (show nI (g_tm (g_pw ((i + 12) / 16 - 1)) 2) = nI (g_x2 (g_pw ((i + 12) / 16 - 1))) from congrArg nI (by exact g_tm2 _ (g_pw_lt _))) ?_
                refine lv_goto (tgt := 106) E.1 E.2.1 d_Mo_schedules_102 (by decide) ?_
                refine lv_istore_n (lv' := [(1, .int (nI (g_x2 (g_pw ((i + 12) / 16 - 1))))), (5, .int (nI ((k_S (g_sch key (i / 4 * 4 - 4 + (i + 1) % 4))) ^^^ (g_pw ((i + 12) / 16 - 1))))), (4, .int (nI (i % 4))), (3, .int (nI (i / 4))), (2, .int (nI i)), (0, .ref h0)]) E.1 E.2.1 d_Mo_schedules_106 rfl hl (by decide) rfl (fun ls hl => ?_)
                refine lv_aload_n E.1 E.2.1 d_Mo_schedules_107 rfl (lv_at hl 5 rfl) ?_
                refine x_get E B 0 rfl k_Mo 22 (by decide) wd_415 rfl d_Mo_schedules_108 ?_
                refine lv_iload_n E.1 E.2.1 d_Mo_schedules_111 rfl (lv_at hl 4 rfl) ?_
                refine lv_aload_n E.1 E.2.1 d_Mo_schedules_112 rfl (lv_at hl 5 rfl) ?_
                refine x_get E B 0 rfl k_Mo 22 (by decide) wd_415 rfl d_Mo_schedules_113 ?_
                refine lv_iload_n E.1 E.2.1 d_Mo_schedules_116 rfl (lv_at hl 4 rfl) ?_
                refine lv_bipush (v := nI 16) E.1 E.2.1 d_Mo_schedules_117 (by decide) ?_
                refine x_isub E d_Mo_schedules_119 (by omega) ?_
                refine x_aldN E B 2 rfl (i := i - 16) (by omega) (by decide) d_Mo_schedules_120 ?_
                refine x_top (show nI ((mx i (g_sch key) s0) (i - 16)) = nI (g_sch key (i - 16)) from congrArg nI (by exact mx_lt (by omega))) ?_
                refine lv_iload E.1 E.2.1 d_Mo_schedules_121 (lv_at hl 1 rfl) ?_
                refine x_ixor E d_Mo_schedules_123 ?_
                refine x_astN E B 2 rfl (i := i) (v := (g_sch key (i - 16)) ^^^ ((k_S (g_sch key (i / 4 * 4 - 4 + (i + 1) % 4))) ^^^ (g_pw ((i + 12) / 16 - 1)))) (by omega) (by decide) d_Mo_schedules_124 (fun H locs B => ?_)
                have B : xB G A s _ _ ([(h0, .inr (6, [.int (nI cd), .ref kq, .ref cq, .int (nI rs), .int ck, .int lt, .ref lq, .ref pq, .ref oq, .int (nI os), .ref bq, .int tc, .int wr, .ref rq, .int (nI ln), .ref wq, .ref hq, .ref dq, .ref nq, .ref aq, .ref xq, .ref yq, .ref sq, .ref tq, .int (nI 1)])), (kq, x_N G 16 key), (sq, x_N G 176 (va_up (mx i (g_sch key) s0) i ((g_sch key (i - 16)) ^^^ ((k_S (g_sch key (i / 4 * 4 - 4 + (i + 1) % 4))) ^^^ (g_pw ((i + 12) / 16 - 1)))))), (tq, x_N G 256 k_S)]) := B
                have B := B.fn 2 rfl (nA (mx (i + 1) (g_sch key) s0)) (mx_fn (by first | exact g_scA (by omega) (by omega) (by omega) | exact g_scB (by omega) (by omega) (by omega) | exact (g_sch_2 (by omega) (by omega)).symm))
                have B : xB G A s _ _ ([(h0, .inr (6, [.int (nI cd), .ref kq, .ref cq, .int (nI rs), .int ck, .int lt, .ref lq, .ref pq, .ref oq, .int (nI os), .ref bq, .int tc, .int wr, .ref rq, .int (nI ln), .ref wq, .ref hq, .ref dq, .ref nq, .ref aq, .ref xq, .ref yq, .ref sq, .ref tq, .int (nI 1)])), (kq, x_N G 16 key), (sq, x_N G 176 (mx (i + 1) (g_sch key) s0)), (tq, x_N G 256 k_S)]) := B
                refine x_inc E 1 (lv' := [(2, .int (nI (i + 1))), (1, .int (nI (g_x2 (g_pw ((i + 12) / 16 - 1))))), (5, .int (nI ((k_S (g_sch key (i / 4 * 4 - 4 + (i + 1) % 4))) ^^^ (g_pw ((i + 12) / 16 - 1))))), (4, .int (nI (i % 4))), (3, .int (nI (i / 4))), (0, .ref h0)]) d_Mo_schedules_125 hl (k := 4) rfl rfl (by decide) rfl (fun ls hl => ?_)
                refine lv_goto (tgt := 4) E.1 E.2.1 d_Mo_schedules_128 (by decide) ?_
                rw [show g_x2 (g_pw ((i + 12) / 16 - 1)) = g_pw ((i + 1 + 12) / 16 - 1) by rw [show (i + 1 + 12) / 16 - 1 = (i + 12) / 16 - 1 + 1 by omega]; rfl] at hl
                exact ih4  (i + 1) 1 k_S (by omega) (by omega) (Or.inr ⟨rfl, fun _ _ => rfl⟩) _ _ _ B (lv_sub hl [0, 1, 5] rfl)
        · refine lv_aload_n E.1 E.2.1 d_Mo_schedules_17 rfl (lv_at hl 2 rfl) ?_
          refine x_get E B 0 rfl k_Mo 22 (by decide) wd_415 rfl d_Mo_schedules_18 ?_
          refine lv_iload_n E.1 E.2.1 d_Mo_schedules_21 rfl (lv_at hl 0 rfl) ?_
          refine lv_aload_n E.1 E.2.1 d_Mo_schedules_22 rfl (lv_at hl 2 rfl) ?_
          refine x_get E B 0 rfl k_Mo 1 (by decide) wd_394 rfl d_Mo_schedules_23 ?_
          refine lv_iload_n E.1 E.2.1 d_Mo_schedules_26 rfl (lv_at hl 0 rfl) ?_
          refine x_aldN E B 1 rfl (i := i) (by omega) (by decide) d_Mo_schedules_27 ?_
          refine x_astN E B 2 rfl (i := i) (v := key i) (by omega) (by decide) d_Mo_schedules_28 (fun H locs B => ?_)
          have B : xB G A s _ _ ([(h0, .inr (6, [.int (nI cd), .ref kq, .ref cq, .int (nI rs), .int ck, .int lt, .ref lq, .ref pq, .ref oq, .int (nI os), .ref bq, .int tc, .int wr, .ref rq, .int (nI ln), .ref wq, .ref hq, .ref dq, .ref nq, .ref aq, .ref xq, .ref yq, .ref sq, .ref tq, .int (nI rd_)])), (kq, x_N G 16 key), (sq, x_N G 176 (va_up (mx i (g_sch key) s0) i (key i))), (tq, x_N G 256 tt_)]) := B
          have B := B.fn 2 rfl (nA (mx (i + 1) (g_sch key) s0)) (mx_fn (g_sch_0 (by omega)).symm)
          have B : xB G A s _ _ ([(h0, .inr (6, [.int (nI cd), .ref kq, .ref cq, .int (nI rs), .int ck, .int lt, .ref lq, .ref pq, .ref oq, .int (nI os), .ref bq, .int tc, .int wr, .ref rq, .int (nI ln), .ref wq, .ref hq, .ref dq, .ref nq, .ref aq, .ref xq, .ref yq, .ref sq, .ref tq, .int (nI rd_)])), (kq, x_N G 16 key), (sq, x_N G 176 (mx (i + 1) (g_sch key) s0)), (tq, x_N G 256 tt_)]) := B
          refine lv_goto (tgt := 125) E.1 E.2.1 d_Mo_schedules_29 (by decide) ?_
          refine x_inc E 1 (lv' := [(2, .int (nI (i + 1))), (1, .int (nI (g_pw ((i + 12) / 16 - 1)))), (0, .ref h0)]) d_Mo_schedules_125 hl (k := 0) rfl rfl (by decide) rfl (fun ls hl => ?_)
          refine lv_goto (tgt := 4) E.1 E.2.1 d_Mo_schedules_128 (by decide) ?_
          rw [show g_pw ((i + 12) / 16 - 1) = g_pw ((i + 1 + 12) / 16 - 1) from congrArg g_pw (by omega)] at hl
          exact ih4  (i + 1) rd_ tt_ (by omega) (by omega) (hrd_) _ _ _ B (lv_sub hl [0, 1, 2] rfl)
  have B := B.fn 2 rfl (nA (mx 0 (g_sch key) s0)) (mx_z _ _)
  have B : xB G A s _ _ ([(h0, .inr (6, [.int (nI cd), .ref kq, .ref cq, .int (nI rs), .int ck, .int lt, .ref lq, .ref pq, .ref oq, .int (nI os), .ref bq, .int tc, .int wr, .ref rq, .int (nI ln), .ref wq, .ref hq, .ref dq, .ref nq, .ref aq, .ref xq, .ref yq, .ref sq, .ref tq, .int (nI rd)])), (kq, x_N G 16 key), (sq, x_N G 176 (mx 0 (g_sch key) s0)), (tq, x_N G 256 tt)]) := B
  exact hL4 (177) 0 rd tt (by omega) (by omega) (hrd) _ _ _ B (lv_sub hl [0, 1, 2] rfl)
set_option maxHeartbeats 4000000 in
set_option maxRecDepth 100000 in
theorem q_Mo_counts (G : xG) (l : Launch) (h0 cd kq cq rs lq pq oq os bq rq ln wq hq dq nq aq xq yq sq tq rd : Nat) (ck lt tc wr : Int32) (ctr : Nat → Nat) (hb : g_bt 16 ctr) : xMv G l y_Mo_counts c_Mo_counts 2 ({ frames := 0, cells := 0, slots := 0, locals := 0 }) [.ref h0] [] [(h0, .inr (6, [.int (nI cd), .ref kq, .ref cq, .int (nI rs), .int ck, .int lt, .ref lq, .ref pq, .ref oq, .int (nI os), .ref bq, .int tc, .int wr, .ref rq, .int (nI ln), .ref wq, .ref hq, .ref dq, .ref nq, .ref aq, .ref xq, .ref yq, .ref sq, .ref tq, .int (nI rd)])), (cq, x_N G 16 ctr)] Unit (fun _ => True) (fun u => [(h0, .inr (6, [.int (nI cd), .ref kq, .ref cq, .int (nI rs), .int ck, .int lt, .ref lq, .ref pq, .ref oq, .int (nI os), .ref bq, .int tc, .int wr, .ref rq, .int (nI ln), .ref wq, .ref hq, .ref dq, .ref nq, .ref aq, .ref xq, .ref yq, .ref sq, .ref tq, .int (nI rd)])), (cq, x_N G 16 (g_ct ctr))]) 0 0 := by
  refine xMv.by r_Mo (by decide +kernel) (Nat.le_of_ble_eq_true rfl) rfl ?_
  intro p e s m args below meth c A ls Q E hin B hro hl hret
  have hl : lv_has ls 2 [(0, .ref h0)] := hl
  refine lv_iconst (v := nI 0) E.1 E.2.1 d_Mo_counts_0 (by decide) ?_
  refine lv_istore_n (lv' := [(1, .int (nI 0)), (0, .ref h0)]) E.1 E.2.1 d_Mo_counts_1 rfl hl (by decide) rfl (fun ls hl => ?_)
  have hL2 : ∀ (kf : Nat) (i : Nat), 16 - i < kf → (g_cE ctr i) → ∀ (H : Heap) (locs : List Loc) (ls : Array Slot), xB G A s H locs ([(h0, .inr (6, [.int (nI cd), .ref kq, .ref cq, .int (nI rs), .int ck, .int lt, .ref lq, .ref pq, .ref oq, .int (nI os), .ref bq, .int tc, .int wr, .ref rq, .int (nI ln), .ref wq, .ref hq, .ref dq, .ref nq, .ref aq, .ref xq, .ref yq, .ref sq, .ref tq, .int (nI rd)])), (cq, x_N G 16 (mx i (fun _ => 0) ctr))]) → lv_has ls 2 [(1, .int (nI i)), (0, .ref h0)] → W p l e ({ frames := 0, cells := 0, slots := 0, locals := 0 }) s m args below meth c H locs 0 0 Q (F0 m 2 ls []) := by
    intro k2
    induction k2 with
    | zero =>
      intro i hk
      exact absurd hk (Nat.not_lt_zero _)
    | succ k2 ih2 =>
      intro i hk2 hE H locs ls B hl
      have hi := hE.1
      refine lv_iload_n E.1 E.2.1 d_Mo_counts_2 rfl (lv_at hl 0 rfl) ?_
      refine lv_bipush (v := nI 16) E.1 E.2.1 d_Mo_counts_3 (by decide) ?_
      refine x_ge (tgt := 33) E d_Mo_counts_5 (by decide) (by omega) (by omega) (fun c1 => ?_) (fun c1 => ?_)
      · refine lv_iload_n E.1 E.2.1 d_Mo_counts_33 rfl (lv_at hl 0 rfl) ?_
        refine lv_bipush (v := nI 16) E.1 E.2.1 d_Mo_counts_34 (by decide) ?_
        refine x_ge (tgt := 49) E d_Mo_counts_36 (by decide) (by omega) (by omega) (fun c2 => ?_) (fun c2 => ?_)
        · obtain rfl : i = 16 := by have := hE.1; omega
          have B := B.fn 1 rfl (nA (g_ct ctr)) (g_ctX hE)
          have B : xB G A s _ _ ([(h0, .inr (6, [.int (nI cd), .ref kq, .ref cq, .int (nI rs), .int ck, .int lt, .ref lq, .ref pq, .ref oq, .int (nI os), .ref bq, .int tc, .int wr, .ref rq, .int (nI ln), .ref wq, .ref hq, .ref dq, .ref nq, .ref aq, .ref xq, .ref yq, .ref sq, .ref tq, .int (nI rd)])), (cq, x_N G 16 (g_ct ctr))]) := B
          exact hret () _ _ _ _ B trivial d_Mo_counts_49
        · exfalso; omega
      · refine lv_aload_n E.1 E.2.1 d_Mo_counts_8 rfl (lv_at hl 1 rfl) ?_
        refine x_get E B 0 rfl k_Mo 2 (by decide) wd_395 rfl d_Mo_counts_9 ?_
        refine lv_iload_n E.1 E.2.1 d_Mo_counts_12 rfl (lv_at hl 0 rfl) ?_
        refine x_aldN E B 1 rfl (i := i) (by omega) (by decide) d_Mo_counts_13 ?_
        refine x_top (show nI ((mx i (fun _ => 0) ctr) i) = nI (ctr i) from congrArg nI (by exact mx_ge (Nat.le_refl i))) ?_
        refine lv_sipush (v := nI 255) E.1 E.2.1 d_Mo_counts_14 (by decide) ?_
        refine x_ne (tgt := 33) E d_Mo_counts_17 (by decide) (by have := hb i (by omega); omega) (by omega) (fun hne => ?_) (fun hne => ?_)
        · refine lv_iload_n E.1 E.2.1 d_Mo_counts_33 rfl (lv_at hl 0 rfl) ?_
          refine lv_bipush (v := nI 16) E.1 E.2.1 d_Mo_counts_34 (by decide) ?_
          refine x_ge (tgt := 49) E d_Mo_counts_36 (by decide) (by omega) (by omega) (fun c4 => ?_) (fun c4 => ?_)
          · exfalso; omega
          · refine lv_aload_n E.1 E.2.1 d_Mo_counts_39 rfl (lv_at hl 1 rfl) ?_
            refine x_get E B 0 rfl k_Mo 2 (by decide) wd_395 rfl d_Mo_counts_40 ?_
            refine lv_iload_n E.1 E.2.1 d_Mo_counts_43 rfl (lv_at hl 0 rfl) ?_
            refine lv_dup2_11 E.1 E.2.1 d_Mo_counts_44 rfl rfl ?_
            refine x_aldN E B 1 rfl (i := i) (by omega) (by decide) d_Mo_counts_45 ?_
            refine x_top (show nI ((mx i (fun _ => 0) ctr) i) = nI (ctr i) from congrArg nI (by exact mx_ge (Nat.le_refl i))) ?_
            refine lv_iconst (v := nI 1) E.1 E.2.1 d_Mo_counts_46 (by decide) ?_
            refine x_iadd E d_Mo_counts_47 ?_
            refine x_astN E B 1 rfl (i := i) (v := (ctr i) + 1) (by omega) (by decide) d_Mo_counts_48 (fun H locs B => ?_)
            have B : xB G A s _ _ ([(h0, .inr (6, [.int (nI cd), .ref kq, .ref cq, .int (nI rs), .int ck, .int lt, .ref lq, .ref pq, .ref oq, .int (nI os), .ref bq, .int tc, .int wr, .ref rq, .int (nI ln), .ref wq, .ref hq, .ref dq, .ref nq, .ref aq, .ref xq, .ref yq, .ref sq, .ref tq, .int (nI rd)])), (cq, x_N G 16 (va_up (mx i (fun _ => 0) ctr) i ((ctr i) + 1)))]) := B
            have B := B.fn 1 rfl (nA (g_ct ctr)) (fun j _ => by rw [g_cE_n hE (by omega) hne])
            have B : xB G A s _ _ ([(h0, .inr (6, [.int (nI cd), .ref kq, .ref cq, .int (nI rs), .int ck, .int lt, .ref lq, .ref pq, .ref oq, .int (nI os), .ref bq, .int tc, .int wr, .ref rq, .int (nI ln), .ref wq, .ref hq, .ref dq, .ref nq, .ref aq, .ref xq, .ref yq, .ref sq, .ref tq, .int (nI rd)])), (cq, x_N G 16 (g_ct ctr))]) := B
            exact hret () _ _ _ _ B trivial d_Mo_counts_49
        · refine lv_aload_n E.1 E.2.1 d_Mo_counts_20 rfl (lv_at hl 1 rfl) ?_
          refine x_get E B 0 rfl k_Mo 2 (by decide) wd_395 rfl d_Mo_counts_21 ?_
          refine lv_iload_n E.1 E.2.1 d_Mo_counts_24 rfl (lv_at hl 0 rfl) ?_
          refine lv_iconst (v := nI 0) E.1 E.2.1 d_Mo_counts_25 (by decide) ?_
          refine x_astN E B 1 rfl (i := i) (v := 0) (by omega) (by decide) d_Mo_counts_26 (fun H locs B => ?_)
          have B : xB G A s _ _ ([(h0, .inr (6, [.int (nI cd), .ref kq, .ref cq, .int (nI rs), .int ck, .int lt, .ref lq, .ref pq, .ref oq, .int (nI os), .ref bq, .int tc, .int wr, .ref rq, .int (nI ln), .ref wq, .ref hq, .ref dq, .ref nq, .ref aq, .ref xq, .ref yq, .ref sq, .ref tq, .int (nI rd)])), (cq, x_N G 16 (va_up (mx i (fun _ => 0) ctr) i 0))]) := B
          have B := B.fn 1 rfl (nA (mx (i + 1) (fun _ => 0) ctr)) (mx_fn rfl)
          have B : xB G A s _ _ ([(h0, .inr (6, [.int (nI cd), .ref kq, .ref cq, .int (nI rs), .int ck, .int lt, .ref lq, .ref pq, .ref oq, .int (nI os), .ref bq, .int tc, .int wr, .ref rq, .int (nI ln), .ref wq, .ref hq, .ref dq, .ref nq, .ref aq, .ref xq, .ref yq, .ref sq, .ref tq, .int (nI rd)])), (cq, x_N G 16 (mx (i + 1) (fun _ => 0) ctr))]) := B
          refine x_inc E 1 (lv' := [(1, .int (nI (i + 1))), (0, .ref h0)]) d_Mo_counts_27 hl (k := 0) rfl rfl (by decide) rfl (fun ls hl => ?_)
          refine lv_goto (tgt := 2) E.1 E.2.1 d_Mo_counts_30 (by decide) ?_
          exact ih2  (i + 1) (by omega) (g_cE_y hE (by omega) hne) _ _ _ B (lv_sub hl [0, 1] rfl)
  have B := B.fn 1 rfl (nA (mx 0 (fun _ => 0) ctr)) (mx_z _ _)
  have B : xB G A s _ _ ([(h0, .inr (6, [.int (nI cd), .ref kq, .ref cq, .int (nI rs), .int ck, .int lt, .ref lq, .ref pq, .ref oq, .int (nI os), .ref bq, .int tc, .int wr, .ref rq, .int (nI ln), .ref wq, .ref hq, .ref dq, .ref nq, .ref aq, .ref xq, .ref yq, .ref sq, .ref tq, .int (nI rd)])), (cq, x_N G 16 (mx 0 (fun _ => 0) ctr))]) := B
  exact hL2 (17) 0 (by omega) (g_cE_0 ctr) _ _ _ B (lv_sub hl [0, 1] rfl)
set_option maxHeartbeats 4000000 in
set_option maxRecDepth 100000 in
theorem q_Mo_isSeeded (G : xG) (l : Launch) (h0 cd kq cq rs lq pq oq os bq rq ln wq hq dq nq aq xq yq sq tq rd : Nat) (ck lt tc wr : Int32) (ctr : Nat → Nat) (hb : g_bt 16 ctr) : xMr G l y_Mo_isSeeded c_Mo_isSeeded 3 .boolean ({ frames := 0, cells := 0, slots := 0, locals := 0 }) [.ref h0] [] [(h0, .inr (6, [.int (nI cd), .ref kq, .ref cq, .int (nI rs), .int ck, .int lt, .ref lq, .ref pq, .ref oq, .int (nI os), .ref bq, .int tc, .int wr, .ref rq, .int (nI ln), .ref wq, .ref hq, .ref dq, .ref nq, .ref aq, .ref xq, .ref yq, .ref sq, .ref tq, .int (nI rd)])), (cq, x_N G 16 ctr)] (nI (g_sd ctr)) := by
  refine xMrz.by r_Mo (by decide +kernel) (Nat.le_of_ble_eq_true rfl) rfl ?_
  intro p e s m args below meth c A ls Q E B hro hl hret
  have hl : lv_has ls 3 [(0, .ref h0)] := hl
  refine lv_iconst (v := nI 0) E.1 E.2.1 d_Mo_isSeeded_0 (by decide) ?_
  refine lv_istore_n (lv' := [(1, .int (nI 0)), (0, .ref h0)]) E.1 E.2.1 d_Mo_isSeeded_1 rfl hl (by decide) rfl (fun ls hl => ?_)
  refine lv_iconst (v := nI 0) E.1 E.2.1 d_Mo_isSeeded_2 (by decide) ?_
  refine lv_istore_n (lv' := [(2, .int (nI 0)), (1, .int (nI 0)), (0, .ref h0)]) E.1 E.2.1 d_Mo_isSeeded_3 rfl hl (by decide) rfl (fun ls hl => ?_)
  have hL4 : ∀ (kf : Nat) (i : Nat), 16 - i < kf → (i ≤ 16) → ∀ (ls : Array Slot), lv_has ls 3 [(2, .int (nI i)), (1, .int (nI (g_sum ctr i))), (0, .ref h0)] → W p l e ({ frames := 0, cells := 0, slots := 0, locals := 0 }) s m args below meth c s.heap [] 0 0 Q (F0 m 4 ls []) := by
    intro k4
    induction k4 with
    | zero =>
      intro i hk
      exact absurd hk (Nat.not_lt_zero _)
    | succ k4 ih4 =>
      intro i hk4 hi ls hl
      refine lv_iload_n E.1 E.2.1 d_Mo_isSeeded_4 rfl (lv_at hl 0 rfl) ?_
      refine lv_bipush (v := nI 16) E.1 E.2.1 d_Mo_isSeeded_5 (by decide) ?_
      refine x_ge (tgt := 25) E d_Mo_isSeeded_7 (by decide) (by omega) (by omega) (fun c1 => ?_) (fun c1 => ?_)
      · refine lv_iload_n E.1 E.2.1 d_Mo_isSeeded_25 rfl (lv_at hl 1 rfl) ?_
        refine x_ifle (tgt := 33) E d_Mo_isSeeded_26 (by decide) (by have := g_sum_le hb i (by omega); omega) (fun hz => ?_) (fun hz => ?_)
        · refine lv_iconst (v := nI 0) E.1 E.2.1 d_Mo_isSeeded_33 (by decide) ?_
          exact hret _ _ _ (by first | exact g_sdA (by omega) hz | exact g_sdB (by omega) hz) rfl d_Mo_isSeeded_34
        · refine lv_iconst (v := nI 1) E.1 E.2.1 d_Mo_isSeeded_29 (by decide) ?_
          refine lv_goto (tgt := 34) E.1 E.2.1 d_Mo_isSeeded_30 (by decide) ?_
          exact hret _ _ _ (by first | exact g_sdA (by omega) hz | exact g_sdB (by omega) hz) rfl d_Mo_isSeeded_34
      · refine lv_iload_n E.1 E.2.1 d_Mo_isSeeded_10 rfl (lv_at hl 1 rfl) ?_
        refine lv_aload_n E.1 E.2.1 d_Mo_isSeeded_11 rfl (lv_at hl 2 rfl) ?_
        refine x_get E B 0 rfl k_Mo 2 (by decide) wd_395 rfl d_Mo_isSeeded_12 ?_
        refine lv_iload_n E.1 E.2.1 d_Mo_isSeeded_15 rfl (lv_at hl 0 rfl) ?_
        refine x_aldN E B 1 rfl (i := i) (by omega) (by decide) d_Mo_isSeeded_16 ?_
        refine x_iadd E d_Mo_isSeeded_17 ?_
        refine lv_istore_n (lv' := [(1, .int (nI ((g_sum ctr i) + (ctr i)))), (2, .int (nI i)), (0, .ref h0)]) E.1 E.2.1 d_Mo_isSeeded_18 rfl hl (by decide) rfl (fun ls hl => ?_)
        refine x_inc E 1 (lv' := [(2, .int (nI (i + 1))), (1, .int (nI ((g_sum ctr i) + (ctr i)))), (0, .ref h0)]) d_Mo_isSeeded_19 hl (k := 1) rfl rfl (by decide) rfl (fun ls hl => ?_)
        refine lv_goto (tgt := 4) E.1 E.2.1 d_Mo_isSeeded_22 (by decide) ?_
        exact ih4  (i + 1) (by omega) (by omega) _ (lv_sub hl [0, 1, 2] rfl)
  exact hL4 (17) 0 (by omega) (by omega) _ (lv_sub hl [0, 1, 2] rfl)
