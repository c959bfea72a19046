set_option maxHeartbeats 4000000 in
set_option maxRecDepth 100000 in
theorem q_In_rotateRight (l : Launch) (x k : Int32)  : xMf l y_In_rotateRight c_In_rotateRight 2 .int ({ frames := 0, cells := 0, slots := 0, locals := 0 }) [.int x, .int k] (h_r x k) := by
  refine xMf.by r_In (by decide +kernel) (Nat.le_of_ble_eq_true rfl) rfl ?_
  intro p e s m args below meth c ls Q E hl hret
  have hl : lv_has ls 2 [(0, .int x), (1, .int k)] := hl
  refine lv_iload_n E.1 E.2.1 d_In_rotateRight_0 rfl (lv_at hl 0 rfl) ?_
  refine lv_iload_n E.1 E.2.1 d_In_rotateRight_1 rfl (lv_at hl 1 rfl) ?_
  refine lv_iushr (v := b_us x k) E.1 E.2.1 d_In_rotateRight_2 rfl ?_
  refine lv_iload_n E.1 E.2.1 d_In_rotateRight_3 rfl (lv_at hl 0 rfl) ?_
  refine lv_iload_n E.1 E.2.1 d_In_rotateRight_4 rfl (lv_at hl 1 rfl) ?_
  refine lv_ineg E.1 E.2.1 d_In_rotateRight_5 ?_
  refine lv_ishl E.1 E.2.1 d_In_rotateRight_6 ?_
  refine lv_ior E.1 E.2.1 d_In_rotateRight_7 ?_
  exact hret _ _ _ (rfl) d_In_rotateRight_8
set_option maxHeartbeats 4000000 in
set_option maxRecDepth 100000 in
theorem q_Dg_filledByte (G : xG) (l : Launch) (rq rn cnt p_ : Nat) (f : Nat → Nat) (hc : cnt ≤ rn) (hn : rn < 100000) (hp : p_ < h_tot cnt) : xMr G l y_Dg_filledByte c_Dg_filledByte 6 .int ({ frames := 0, cells := 0, slots := 0, locals := 0 }) [.ref rq, .int (nI cnt), .int (nI p_), .int (nI (h_tot cnt))] [(rq, rn, nA f)] [] (nI (h_P f cnt p_)) := by
  refine xMr.by r_Dg (by decide +kernel) (Nat.le_of_ble_eq_true rfl) rfl ?_
  intro p e s m args below meth c A ls Q E B hro hl hret
  have hl : lv_has ls 6 [(0, .ref rq), (1, .int (nI cnt)), (2, .int (nI p_)), (3, .int (nI (h_tot cnt)))] := hl
  have hR0 : x_R A s s.heap rq rn (nA f) := hro _ (List.mem_of_getElem? (i := 0) rfl)
  have ht : h_tot cnt = ((cnt + 8) / 64 + 1) * 64 := rfl
  refine lv_iload_n E.1 E.2.1 d_Dg_filledByte_0 rfl (lv_at hl 2 rfl) ?_
  refine lv_iload_n E.1 E.2.1 d_Dg_filledByte_1 rfl (lv_at hl 1 rfl) ?_
  refine x_ge (tgt := 9) E d_Dg_filledByte_2 (by decide) (by omega) (by omega) (fun hc1 => ?_) (fun hc1 => ?_)
  · refine lv_iload_n E.1 E.2.1 d_Dg_filledByte_9 rfl (lv_at hl 2 rfl) ?_
    refine lv_iload_n E.1 E.2.1 d_Dg_filledByte_10 rfl (lv_at hl 1 rfl) ?_
    refine x_ne (tgt := 18) E d_Dg_filledByte_11 (by decide) (by omega) (by omega) (fun hc2 => ?_) (fun hc2 => ?_)
    · refine lv_iload_n E.1 E.2.1 d_Dg_filledByte_18 rfl (lv_at hl 2 rfl) ?_
      refine lv_iload_n E.1 E.2.1 d_Dg_filledByte_19 rfl (lv_at hl 3 rfl) ?_
      refine lv_bipush (v := nI 8) E.1 E.2.1 d_Dg_filledByte_20 (by decide) ?_
      refine x_isub E d_Dg_filledByte_22 (by omega) ?_
      refine x_ge (tgt := 28) E d_Dg_filledByte_23 (by decide) (by omega) (by omega) (fun hc3 => ?_) (fun hc3 => ?_)
      · refine lv_ldc2 E.1 E.2.1 E.2.2.2.1 (E.2.2.2.2 _ wd_258) d_Dg_filledByte_28 ?_
        refine lv_iload_n E.1 E.2.1 d_Dg_filledByte_31 rfl (lv_at hl 1 rfl) ?_
        refine lv_i2l E.1 E.2.1 d_Dg_filledByte_32 rfl ?_
        refine lv_lmul E.1 E.2.1 d_Dg_filledByte_33 ?_
        refine lv_lstore (lv' := [(4, .long ((8) * ((nI cnt).toInt64))), (0, .ref rq), (1, .int (nI cnt)), (2, .int (nI p_)), (3, .int (nI (h_tot cnt)))]) E.1 E.2.1 d_Dg_filledByte_34 hl (by decide) rfl (fun ls hl => ?_)
        refine lv_lload E.1 E.2.1 d_Dg_filledByte_36 (lv_at hl 0 rfl) ?_
        refine lv_bipush (v := nI 8) E.1 E.2.1 d_Dg_filledByte_38 (by decide) ?_
        refine lv_iload_n E.1 E.2.1 d_Dg_filledByte_40 rfl (lv_at hl 4 rfl) ?_
        refine lv_iconst (v := nI 1) E.1 E.2.1 d_Dg_filledByte_41 (by decide) ?_
        refine x_isub E d_Dg_filledByte_42 (by omega) ?_
        refine lv_iload_n E.1 E.2.1 d_Dg_filledByte_43 rfl (lv_at hl 3 rfl) ?_
        refine x_isub E d_Dg_filledByte_44 (by omega) ?_
        refine x_imul E d_Dg_filledByte_45 ?_
        refine lv_lushr E.1 E.2.1 d_Dg_filledByte_46 rfl ?_
        refine lv_l2i E.1 E.2.1 d_Dg_filledByte_47 rfl ?_
        refine lv_sipush (v := nI 255) E.1 E.2.1 d_Dg_filledByte_48 (by decide) ?_
        refine lv_iand E.1 E.2.1 d_Dg_filledByte_51 ?_
        exact hret _ _ _ ((h_len (by omega) (by omega)).trans (congrArg nI (h_P4 (by omega)).symm)) d_Dg_filledByte_52
      · refine lv_iconst (v := nI 0) E.1 E.2.1 d_Dg_filledByte_26 (by decide) ?_
        exact hret _ _ _ (congrArg nI (h_P3 (k := 8) (by omega) (by omega) (by omega)).symm) d_Dg_filledByte_27
    · refine lv_sipush (v := nI 128) E.1 E.2.1 d_Dg_filledByte_14 (by decide) ?_
      exact hret _ _ _ (by rw [hc2, h_P2]) d_Dg_filledByte_17
  · refine lv_aload_n E.1 E.2.1 d_Dg_filledByte_5 rfl (lv_at hl 0 rfl) ?_
    refine lv_iload_n E.1 E.2.1 d_Dg_filledByte_6 rfl (lv_at hl 2 rfl) ?_
    refine x_tld E B hR0 (i := p_) (by omega) (by omega) d_Dg_filledByte_7 ?_
    exact hret _ _ _ (congrArg nI (h_P1 hc1).symm) d_Dg_filledByte_8
set_option maxHeartbeats 4000000 in
set_option maxRecDepth 100000 in
theorem q_Dg_takeWords (G : xG) (l : Launch) (h0 q1 q2 q3 : Nat) (rq rn cnt fr : Nat) (f : Nat → Nat) (w0 : Nat → Int32) (hc : cnt ≤ rn) (hn : rn < 100000) (hp : fr + 64 ≤ h_tot cnt) (hf : ∀ j, j < cnt → f j < 256) : xMv G l y_Dg_takeWords c_Dg_takeWords 8 ({ frames := 1, cells := 0, slots := 0, locals := 25 }) [.ref h0, .ref rq, .int (nI cnt), .int (nI fr), .int (nI (h_tot cnt))] [(rq, rn, nA f)] [(h0, .inr (1, [.ref q1, .ref q2, .ref q3])), (q2, x_I G 64 w0)] Unit (fun _ => True) (fun u => [(h0, .inr (1, [.ref q1, .ref q2, .ref q3])), (q2, x_I G 64 (mx 16 (h_w (h_P f cnt) fr) w0))]) 0 0 := by
  refine xMv.by r_Dg (by decide +kernel) (Nat.le_of_ble_eq_true rfl) rfl ?_
  intro p e s m args below meth c A ls Q E hin B hro hl hret
  have hl : lv_has ls 8 [(0, .ref h0), (1, .ref rq), (2, .int (nI cnt)), (3, .int (nI fr)), (4, .int (nI (h_tot cnt)))] := hl
  have hR0 : x_R A s s.heap rq rn (nA f) := hro _ (List.mem_of_getElem? (i := 0) rfl)
  have ht : h_tot cnt = ((cnt + 8) / 64 + 1) * 64 := rfl
  have hP : ∀ j, h_P f cnt j < 256 := h_P_lt hf
  refine lv_iconst (v := nI 0) E.1 E.2.1 d_Dg_takeWords_0 (by decide) ?_
  refine lv_istore (lv' := [(5, .int (nI 0)), (0, .ref h0), (1, .ref rq), (2, .int (nI cnt)), (3, .int (nI fr)), (4, .int (nI (h_tot cnt)))]) E.1 E.2.1 d_Dg_takeWords_1 hl (by decide) rfl (fun ls hl => ?_)
  have hL3 : ∀ (kf : Nat) (t : Nat), 16 - t < kf → (t ≤ 16) → ∀ (H : Heap) (locs : List Loc) (ls : Array Slot), xB G A s H locs ([(h0, .inr (1, [.ref q1, .ref q2, .ref q3])), (q2, x_I G 64 (mx t (h_w (h_P f cnt) fr) w0))]) → lv_has ls 8 [(5, .int (nI t)), (0, .ref h0), (1, .ref rq), (2, .int (nI cnt)), (3, .int (nI fr)), (4, .int (nI (h_tot cnt)))] → W p l e ({ frames := 1, cells := 0, slots := 0, locals := 25 }) s m args below meth c H locs 0 0 Q (F0 m 3 ls []) := by
    intro k3
    induction k3 with
    | zero =>
      intro t hk
      exact absurd hk (Nat.not_lt_zero _)
    | succ k3 ih3 =>
      intro t hk3 hi H locs ls B hl
      refine lv_iload E.1 E.2.1 d_Dg_takeWords_3 (lv_at hl 0 rfl) ?_
      refine lv_bipush (v := nI 16) E.1 E.2.1 d_Dg_takeWords_5 (by decide) ?_
      refine x_ge (tgt := 67) E d_Dg_takeWords_7 (by decide) (by omega) (by omega) (fun c1 => ?_) (fun c1 => ?_)
      · obtain rfl : t = 16 := by omega
        exact hret () _ _ _ _ B trivial d_Dg_takeWords_67
      · refine lv_iconst (v := nI 0) E.1 E.2.1 d_Dg_takeWords_10 (by decide) ?_
        refine lv_istore (lv' := [(6, .int (nI 0)), (5, .int (nI t)), (0, .ref h0), (1, .ref rq), (2, .int (nI cnt)), (3, .int (nI fr)), (4, .int (nI (h_tot cnt)))]) E.1 E.2.1 d_Dg_takeWords_11 hl (by decide) rfl (fun ls hl => ?_)
        refine lv_iconst (v := nI 0) E.1 E.2.1 d_Dg_takeWords_13 (by decide) ?_
        refine lv_istore (lv' := [(7, .int (nI 0)), (6, .int (nI 0)), (5, .int (nI t)), (0, .ref h0), (1, .ref rq), (2, .int (nI cnt)), (3, .int (nI fr)), (4, .int (nI (h_tot cnt)))]) E.1 E.2.1 d_Dg_takeWords_14 hl (by decide) rfl (fun ls hl => ?_)
        have hL16 : ∀ (kf : Nat) (k : Nat), 4 - k < kf → (k ≤ 4) → ∀ (H : Heap) (locs : List Loc) (ls : Array Slot), xB G A s H locs ([(h0, .inr (1, [.ref q1, .ref q2, .ref q3])), (q2, x_I G 64 (mx t (h_w (h_P f cnt) fr) w0))]) → lv_has ls 8 [(7, .int (nI k)), (6, .int (nI (h_ac (h_P f cnt) (fr + 4 * t) k))), (5, .int (nI t)), (0, .ref h0), (1, .ref rq), (2, .int (nI cnt)), (3, .int (nI fr)), (4, .int (nI (h_tot cnt)))] → W p l e ({ frames := 1, cells := 0, slots := 0, locals := 25 }) s m args below meth c H locs 0 0 Q (F0 m 16 ls []) := by
          intro k16
          induction k16 with
          | zero =>
            intro k hk
            exact absurd hk (Nat.not_lt_zero _)
          | succ k16 ih16 =>
            intro k hk16 hk4 H locs ls B hl
            refine lv_iload E.1 E.2.1 d_Dg_takeWords_16 (lv_at hl 0 rfl) ?_
            refine lv_iconst (v := nI 4) E.1 E.2.1 d_Dg_takeWords_18 (by decide) ?_
            refine x_ge (tgt := 52) E d_Dg_takeWords_19 (by decide) (by omega) (by omega) (fun c2 => ?_) (fun c2 => ?_)
            · obtain rfl : k = 4 := by omega
              refine lv_aload_n E.1 E.2.1 d_Dg_takeWords_52 rfl (lv_at hl 3 rfl) ?_
              refine x_get E B 0 rfl k_Dg 1 (by decide) wd_84 rfl d_Dg_takeWords_53 ?_
              refine lv_iload E.1 E.2.1 d_Dg_takeWords_56 (lv_at hl 2 rfl) ?_
              refine lv_iload E.1 E.2.1 d_Dg_takeWords_58 (lv_at hl 1 rfl) ?_
              refine x_ast E B 1 rfl (i := t) (x := (nI (h_ac (h_P f cnt) (fr + 4 * t) 4))) (by omega) (by decide) d_Dg_takeWords_60 (fun H locs B => ?_)
              have B : xB G A s _ _ ([(h0, .inr (1, [.ref q1, .ref q2, .ref q3])), (q2, x_I G 64 (upd (mx t (h_w (h_P f cnt) fr) w0) t (nI (h_ac (h_P f cnt) (fr + 4 * t) 4))))]) := B
              have B := B.fn 1 rfl (mx (t + 1) (h_w (h_P f cnt) fr) w0) (mx_fi (h_w_0 (by omega)).symm)
              have B : xB G A s _ _ ([(h0, .inr (1, [.ref q1, .ref q2, .ref q3])), (q2, x_I G 64 (mx (t + 1) (h_w (h_P f cnt) fr) w0))]) := B
              refine x_inc E 1 (lv' := [(5, .int (nI (t + 1))), (7, .int (nI 4)), (6, .int (nI (h_ac (h_P f cnt) (fr + 4 * t) 4))), (0, .ref h0), (1, .ref rq), (2, .int (nI cnt)), (3, .int (nI fr)), (4, .int (nI (h_tot cnt)))]) d_Dg_takeWords_61 hl (k := 2) rfl rfl (by decide) rfl (fun ls hl => ?_)
              refine lv_goto (tgt := 3) E.1 E.2.1 d_Dg_takeWords_64 (by decide) ?_
              exact ih3  (t + 1) (by omega) (by omega) _ _ _ B (lv_sub hl [0, 3, 4, 5, 6, 7] rfl)
            · refine lv_iload E.1 E.2.1 d_Dg_takeWords_22 (lv_at hl 1 rfl) ?_
              refine lv_bipush (v := nI 8) E.1 E.2.1 d_Dg_takeWords_24 (by decide) ?_
              refine lv_ishl E.1 E.2.1 d_Dg_takeWords_26 ?_
              refine lv_aload_n E.1 E.2.1 d_Dg_takeWords_27 rfl (lv_at hl 4 rfl) ?_
              refine lv_iload_n E.1 E.2.1 d_Dg_takeWords_28 rfl (lv_at hl 5 rfl) ?_
              refine lv_iload_n E.1 E.2.1 d_Dg_takeWords_29 rfl (lv_at hl 6 rfl) ?_
              refine lv_iconst (v := nI 4) E.1 E.2.1 d_Dg_takeWords_30 (by decide) ?_
              refine lv_iload E.1 E.2.1 d_Dg_takeWords_31 (lv_at hl 2 rfl) ?_
              refine x_imul E d_Dg_takeWords_33 ?_
              refine x_iadd E d_Dg_takeWords_34 ?_
              refine lv_iload E.1 E.2.1 d_Dg_takeWords_35 (lv_at hl 0 rfl) ?_
              refine x_iadd E d_Dg_takeWords_37 ?_
              refine lv_iload E.1 E.2.1 d_Dg_takeWords_38 (lv_at hl 7 rfl) ?_
              refine x_cf (x_rS (rest := [.int ((nI (h_ac (h_P f cnt) (fr + 4 * t) k)) <<< ((nI 8) &&& 31))]) E (q_Dg_filledByte G l rq rn cnt ((fr + (4 * t)) + k) f (hc) (hn) (by omega) _) (x_pre B [] rfl (by decide) (x_ro1 (x_ro_t B hR0 [] rfl))) (gg_S wd_255 wd_256 wd_37 wd_257) p_Dg_filledByte rfl rfl ⟨Nat.le_of_ble_eq_true rfl, Nat.le_of_ble_eq_true rfl⟩ rfl hl.1 rfl (Nat.le_of_ble_eq_true rfl) d_Dg_takeWords_40 ⟨Nat.le_of_ble_eq_true rfl, Nat.le_of_ble_eq_true rfl⟩) ?_
              refine lv_ior E.1 E.2.1 d_Dg_takeWords_43 ?_
              refine x_top (v' := nI (h_ac (h_P f cnt) (fr + 4 * t) (k + 1))) (b_sh8 (Nat.lt_of_lt_of_le (h_ac_lt hP _ k) (by have := Nat.pow_le_pow_right (n := 256) (by decide) (show k ≤ 3 by omega); omega)) (hP _)) ?_
              refine lv_istore (lv' := [(6, .int (nI (h_ac (h_P f cnt) (fr + 4 * t) (k + 1)))), (7, .int (nI k)), (5, .int (nI t)), (0, .ref h0), (1, .ref rq), (2, .int (nI cnt)), (3, .int (nI fr)), (4, .int (nI (h_tot cnt)))]) E.1 E.2.1 d_Dg_takeWords_44 hl (by decide) rfl (fun ls hl => ?_)
              refine x_inc E 1 (lv' := [(7, .int (nI (k + 1))), (6, .int (nI (h_ac (h_P f cnt) (fr + 4 * t) (k + 1)))), (5, .int (nI t)), (0, .ref h0), (1, .ref rq), (2, .int (nI cnt)), (3, .int (nI fr)), (4, .int (nI (h_tot cnt)))]) d_Dg_takeWords_46 hl (k := 1) rfl rfl (by decide) rfl (fun ls hl => ?_)
              refine lv_goto (tgt := 16) E.1 E.2.1 d_Dg_takeWords_49 (by decide) ?_
              exact ih16  (k + 1) (by omega) (by omega) _ _ _ B (lv_sub hl [0, 1, 2, 3, 4, 5, 6, 7] rfl)
        exact hL16 (5) 0 (by omega) (by omega) _ _ _ B (lv_sub hl [0, 1, 2, 3, 4, 5, 6, 7] rfl)
  have B := B.fn 1 rfl (mx 0 (h_w (h_P f cnt) fr) w0) (mx_zi _ _)
  have B : xB G A s _ _ ([(h0, .inr (1, [.ref q1, .ref q2, .ref q3])), (q2, x_I G 64 (mx 0 (h_w (h_P f cnt) fr) w0))]) := B
  exact hL3 (17) 0 (by omega) (by omega) _ _ _ B (lv_sub hl [0, 1, 2, 3, 4, 5] rfl)
set_option maxHeartbeats 4000000 in
set_option maxRecDepth 100000 in
theorem q_Dg_spreadWords (G : xG) (l : Launch) (h0 q1 q2 q3 : Nat) (fr : Nat) (P : Nat → Nat) (w0 : Nat → Int32)  : xMv G l y_Dg_spreadWords c_Dg_spreadWords 6 ({ frames := 1, cells := 0, slots := 0, locals := 21 }) [.ref h0] [] [(h0, .inr (1, [.ref q1, .ref q2, .ref q3])), (q2, x_I G 64 (mx 16 (h_w P fr) w0))] Unit (fun _ => True) (fun u => [(h0, .inr (1, [.ref q1, .ref q2, .ref q3])), (q2, x_I G 64 (h_w P fr))]) 0 0 := by
  refine xMv.by r_Dg (by decide +kernel) (Nat.le_of_ble_eq_true rfl) rfl ?_
  intro p e s m args below meth c A ls Q E hin B hro hl hret
  have hl : lv_has ls 6 [(0, .ref h0)] := hl
  refine lv_bipush (v := nI 16) E.1 E.2.1 d_Dg_spreadWords_0 (by decide) ?_
  refine lv_istore_n (lv' := [(1, .int (nI 16)), (0, .ref h0)]) E.1 E.2.1 d_Dg_spreadWords_2 rfl hl (by decide) rfl (fun ls hl => ?_)
  have hL3 : ∀ (kf : Nat) (t : Nat), 64 - t < kf → (16 ≤ t) → (t ≤ 64) → ∀ (H : Heap) (locs : List Loc) (ls : Array Slot), xB G A s H locs ([(h0, .inr (1, [.ref q1, .ref q2, .ref q3])), (q2, x_I G 64 (mx t (h_w P fr) w0))]) → lv_has ls 6 [(1, .int (nI t)), (0, .ref h0)] → W p l e ({ frames := 1, cells := 0, slots := 0, locals := 21 }) s m args below meth c H locs 0 0 Q (F0 m 3 ls []) := by
    intro k3
    induction k3 with
    | zero =>
      intro t hk
      exact absurd hk (Nat.not_lt_zero _)
    | succ k3 ih3 =>
      intro t hk3 h16 hi H locs ls B hl
      refine lv_iload_n E.1 E.2.1 d_Dg_spreadWords_3 rfl (lv_at hl 0 rfl) ?_
      refine lv_bipush (v := nI 64) E.1 E.2.1 d_Dg_spreadWords_4 (by decide) ?_
      refine x_ge (tgt := 104) E d_Dg_spreadWords_6 (by decide) (by omega) (by omega) (fun c1 => ?_) (fun c1 => ?_)
      · obtain rfl : t = 64 := by omega
        have B := B.fn 1 rfl (h_w P fr) (mx_ei)
        have B : xB G A s _ _ ([(h0, .inr (1, [.ref q1, .ref q2, .ref q3])), (q2, x_I G 64 (h_w P fr))]) := B
        exact hret () _ _ _ _ B trivial d_Dg_spreadWords_104
      · refine lv_aload_n E.1 E.2.1 d_Dg_spreadWords_9 rfl (lv_at hl 1 rfl) ?_
        refine x_get E B 0 rfl k_Dg 1 (by decide) wd_84 rfl d_Dg_spreadWords_10 ?_
        refine lv_iload_n E.1 E.2.1 d_Dg_spreadWords_13 rfl (lv_at hl 0 rfl) ?_
        refine lv_bipush (v := nI 15) E.1 E.2.1 d_Dg_spreadWords_14 (by decide) ?_
        refine x_isub E d_Dg_spreadWords_16 (by omega) ?_
        refine x_ald E B 1 rfl (i := t - 15) (by omega) (by decide) d_Dg_spreadWords_17 ?_
        refine x_top (v' := (h_w P fr (t - 15))) (mx_lt (by omega)) ?_
        refine lv_istore_n (lv' := [(2, .int (h_w P fr (t - 15))), (1, .int (nI t)), (0, .ref h0)]) E.1 E.2.1 d_Dg_spreadWords_18 rfl hl (by decide) rfl (fun ls hl => ?_)
        refine lv_aload_n E.1 E.2.1 d_Dg_spreadWords_19 rfl (lv_at hl 2 rfl) ?_
        refine x_get E B 0 rfl k_Dg 1 (by decide) wd_84 rfl d_Dg_spreadWords_20 ?_
        refine lv_iload_n E.1 E.2.1 d_Dg_spreadWords_23 rfl (lv_at hl 1 rfl) ?_
        refine lv_iconst (v := nI 2) E.1 E.2.1 d_Dg_spreadWords_24 (by decide) ?_
        refine x_isub E d_Dg_spreadWords_25 (by omega) ?_
        refine x_ald E B 1 rfl (i := t - 2) (by omega) (by decide) d_Dg_spreadWords_26 ?_
        refine x_top (v' := (h_w P fr (t - 2))) (mx_lt (by omega)) ?_
        refine lv_istore_n (lv' := [(3, .int (h_w P fr (t - 2))), (2, .int (h_w P fr (t - 15))), (1, .int (nI t)), (0, .ref h0)]) E.1 E.2.1 d_Dg_spreadWords_27 rfl hl (by decide) rfl (fun ls hl => ?_)
        refine lv_iload_n E.1 E.2.1 d_Dg_spreadWords_28 rfl (lv_at hl 1 rfl) ?_
        refine lv_bipush (v := nI 7) E.1 E.2.1 d_Dg_spreadWords_29 (by decide) ?_
        refine x_cf (x_rS (rest := []) E (q_In_rotateRight l (h_w P fr (t - 15)) (nI 7) ) x_pf (gg_S wd_263 wd_264 wd_42 wd_265) p_In_rotateRight rfl rfl ⟨Nat.le_of_ble_eq_true rfl, Nat.le_of_ble_eq_true rfl⟩ rfl hl.1 rfl (Nat.le_of_ble_eq_true rfl) d_Dg_spreadWords_31 ⟨Nat.le_of_ble_eq_true rfl, Nat.le_of_ble_eq_true rfl⟩) ?_
        refine lv_iload_n E.1 E.2.1 d_Dg_spreadWords_34 rfl (lv_at hl 1 rfl) ?_
        refine lv_bipush (v := nI 18) E.1 E.2.1 d_Dg_spreadWords_35 (by decide) ?_
        refine x_cf (x_rS (rest := [.int (h_r (h_w P fr (t - 15)) (nI 7))]) E (q_In_rotateRight l (h_w P fr (t - 15)) (nI 18) ) x_pf (gg_S wd_263 wd_264 wd_42 wd_265) p_In_rotateRight rfl rfl ⟨Nat.le_of_ble_eq_true rfl, Nat.le_of_ble_eq_true rfl⟩ rfl hl.1 rfl (Nat.le_of_ble_eq_true rfl) d_Dg_spreadWords_37 ⟨Nat.le_of_ble_eq_true rfl, Nat.le_of_ble_eq_true rfl⟩) ?_
        refine lv_ixor E.1 E.2.1 d_Dg_spreadWords_40 ?_
        refine lv_iload_n E.1 E.2.1 d_Dg_spreadWords_41 rfl (lv_at hl 1 rfl) ?_
        refine lv_iconst (v := nI 3) E.1 E.2.1 d_Dg_spreadWords_42 (by decide) ?_
        refine lv_iushr (v := b_us (h_w P fr (t - 15)) (nI 3)) E.1 E.2.1 d_Dg_spreadWords_43 rfl ?_
        refine lv_ixor E.1 E.2.1 d_Dg_spreadWords_44 ?_
        refine lv_istore (lv' := [(4, .int (((h_r (h_w P fr (t - 15)) (nI 7)) ^^^ (h_r (h_w P fr (t - 15)) (nI 18))) ^^^ (b_us (h_w P fr (t - 15)) (nI 3)))), (3, .int (h_w P fr (t - 2))), (2, .int (h_w P fr (t - 15))), (1, .int (nI t)), (0, .ref h0)]) E.1 E.2.1 d_Dg_spreadWords_45 hl (by decide) rfl (fun ls hl => ?_)
        refine lv_iload_n E.1 E.2.1 d_Dg_spreadWords_47 rfl (lv_at hl 1 rfl) ?_
        refine lv_bipush (v := nI 17) E.1 E.2.1 d_Dg_spreadWords_48 (by decide) ?_
        refine x_cf (x_rS (rest := []) E (q_In_rotateRight l (h_w P fr (t - 2)) (nI 17) ) x_pf (gg_S wd_263 wd_264 wd_42 wd_265) p_In_rotateRight rfl rfl ⟨Nat.le_of_ble_eq_true rfl, Nat.le_of_ble_eq_true rfl⟩ rfl hl.1 rfl (Nat.le_of_ble_eq_true rfl) d_Dg_spreadWords_50 ⟨Nat.le_of_ble_eq_true rfl, Nat.le_of_ble_eq_true rfl⟩) ?_
        refine lv_iload_n E.1 E.2.1 d_Dg_spreadWords_53 rfl (lv_at hl 1 rfl) ?_
        refine lv_bipush (v := nI 19) E.1 E.2.1 d_Dg_spreadWords_54 (by decide) ?_
        refine x_cf (x_rS (rest := [.int (h_r (h_w P fr (t - 2)) (nI 17))]) E (q_In_rotateRight l (h_w P fr (t - 2)) (nI 19) ) x_pf (gg_S wd_263 wd_264 wd_42 wd_265) p_In_rotateRight rfl rfl ⟨Nat.le_of_ble_eq_true rfl, Nat.le_of_ble_eq_true rfl⟩ rfl hl.1 rfl (Nat.le_of_ble_eq_true rfl) d_Dg_spreadWords_56 ⟨Nat.le_of_ble_eq_true rfl, Nat.le_of_ble_eq_true rfl⟩) ?_
        refine lv_ixor E.1 E.2.1 d_Dg_spreadWords_59 ?_
        refine lv_iload_n E.1 E.2.1 d_Dg_spreadWords_60 rfl (lv_at hl 1 rfl) ?_
        refine lv_bipush (v := nI 10) E.1 E.2.1 d_Dg_spreadWords_61 (by decide) ?_
        refine lv_iushr (v := b_us (h_w P fr (t - 2)) (nI 10)) E.1 E.2.1 d_Dg_spreadWords_63 rfl ?_
        refine lv_ixor E.1 E.2.1 d_Dg_spreadWords_64 ?_
        refine lv_istore (lv' := [(5, .int (((h_r (h_w P fr (t - 2)) (nI 17)) ^^^ (h_r (h_w P fr (t - 2)) (nI 19))) ^^^ (b_us (h_w P fr (t - 2)) (nI 10)))), (4, .int (((h_r (h_w P fr (t - 15)) (nI 7)) ^^^ (h_r (h_w P fr (t - 15)) (nI 18))) ^^^ (b_us (h_w P fr (t - 15)) (nI 3)))), (3, .int (h_w P fr (t - 2))), (2, .int (h_w P fr (t - 15))), (1, .int (nI t)), (0, .ref h0)]) E.1 E.2.1 d_Dg_spreadWords_65 hl (by decide) rfl (fun ls hl => ?_)
        refine lv_aload_n E.1 E.2.1 d_Dg_spreadWords_67 rfl (lv_at hl 5 rfl) ?_
        refine x_get E B 0 rfl k_Dg 1 (by decide) wd_84 rfl d_Dg_spreadWords_68 ?_
        refine lv_iload_n E.1 E.2.1 d_Dg_spreadWords_71 rfl (lv_at hl 4 rfl) ?_
        refine lv_aload_n E.1 E.2.1 d_Dg_spreadWords_72 rfl (lv_at hl 5 rfl) ?_
        refine x_get E B 0 rfl k_Dg 1 (by decide) wd_84 rfl d_Dg_spreadWords_73 ?_
        refine lv_iload_n E.1 E.2.1 d_Dg_spreadWords_76 rfl (lv_at hl 4 rfl) ?_
        refine lv_bipush (v := nI 16) E.1 E.2.1 d_Dg_spreadWords_77 (by decide) ?_
        refine x_isub E d_Dg_spreadWords_79 (by omega) ?_
        refine x_ald E B 1 rfl (i := t - 16) (by omega) (by decide) d_Dg_spreadWords_80 ?_
        refine x_top (v' := (h_w P fr (t - 16))) (mx_lt (by omega)) ?_
        refine lv_iload E.1 E.2.1 d_Dg_spreadWords_81 (lv_at hl 1 rfl) ?_
        refine lv_iadd E.1 E.2.1 d_Dg_spreadWords_83 ?_
        refine lv_aload_n E.1 E.2.1 d_Dg_spreadWords_84 rfl (lv_at hl 5 rfl) ?_
        refine x_get E B 0 rfl k_Dg 1 (by decide) wd_84 rfl d_Dg_spreadWords_85 ?_
        refine lv_iload_n E.1 E.2.1 d_Dg_spreadWords_88 rfl (lv_at hl 4 rfl) ?_
        refine lv_bipush (v := nI 7) E.1 E.2.1 d_Dg_spreadWords_89 (by decide) ?_
        refine x_isub E d_Dg_spreadWords_91 (by omega) ?_
        refine x_ald E B 1 rfl (i := t - 7) (by omega) (by decide) d_Dg_spreadWords_92 ?_
        refine x_top (v' := (h_w P fr (t - 7))) (mx_lt (by omega)) ?_
        refine lv_iadd E.1 E.2.1 d_Dg_spreadWords_93 ?_
        refine lv_iload E.1 E.2.1 d_Dg_spreadWords_94 (lv_at hl 0 rfl) ?_
        refine lv_iadd E.1 E.2.1 d_Dg_spreadWords_96 ?_
        refine x_ast E B 1 rfl (i := t) (x := ((((h_w P fr (t - 16)) + (((h_r (h_w P fr (t - 15)) (nI 7)) ^^^ (h_r (h_w P fr (t - 15)) (nI 18))) ^^^ (b_us (h_w P fr (t - 15)) (nI 3)))) + (h_w P fr (t - 7))) + (((h_r (h_w P fr (t - 2)) (nI 17)) ^^^ (h_r (h_w P fr (t - 2)) (nI 19))) ^^^ (b_us (h_w P fr (t - 2)) (nI 10))))) (by omega) (by decide) d_Dg_spreadWords_97 (fun H locs B => ?_)
        have B : xB G A s _ _ ([(h0, .inr (1, [.ref q1, .ref q2, .ref q3])), (q2, x_I G 64 (upd (mx t (h_w P fr) w0) t ((((h_w P fr (t - 16)) + (((h_r (h_w P fr (t - 15)) (nI 7)) ^^^ (h_r (h_w P fr (t - 15)) (nI 18))) ^^^ (b_us (h_w P fr (t - 15)) (nI 3)))) + (h_w P fr (t - 7))) + (((h_r (h_w P fr (t - 2)) (nI 17)) ^^^ (h_r (h_w P fr (t - 2)) (nI 19))) ^^^ (b_us (h_w P fr (t - 2)) (nI 10))))))]) := B
        have B := B.fn 1 rfl (mx (t + 1) (h_w P fr) w0) (mx_fi (h_w_1 (by omega)).symm)
        have B : xB G A s _ _ ([(h0, .inr (1, [.ref q1, .ref q2, .ref q3])), (q2, x_I G 64 (mx (t + 1) (h_w P fr) w0))]) := B
        refine x_inc E 1 (lv' := [(1, .int (nI (t + 1))), (5, .int (((h_r (h_w P fr (t - 2)) (nI 17)) ^^^ (h_r (h_w P fr (t - 2)) (nI 19))) ^^^ (b_us (h_w P fr (t - 2)) (nI 10)))), (4, .int (((h_r (h_w P fr (t - 15)) (nI 7)) ^^^ (h_r (h_w P fr (t - 15)) (nI 18))) ^^^ (b_us (h_w P fr (t - 15)) (nI 3)))), (3, .int (h_w P fr (t - 2))), (2, .int (h_w P fr (t - 15))), (0, .ref h0)]) d_Dg_spreadWords_98 hl (k := 4) rfl rfl (by decide) rfl (fun ls hl => ?_)
        refine lv_goto (tgt := 3) E.1 E.2.1 d_Dg_spreadWords_101 (by decide) ?_
        exact ih3  (t + 1) (by omega) (by omega) (by omega) _ _ _ B (lv_sub hl [0, 5] rfl)
  exact hL3 (65) 16 (by omega) (by omega) (by omega) _ _ _ B (lv_sub hl [0, 1] rfl)
set_option maxHeartbeats 4000000 in
set_option maxRecDepth 100000 in
theorem q_Dg_mixWords (G : xG) (l : Launch) (h0 q1 q2 q3 : Nat) (Hf Wf : Nat → Int32)  : xMv G l y_Dg_mixWords c_Dg_mixWords 14 ({ frames := 1, cells := 0, slots := 0, locals := 21 }) [.ref h0] [] [(h0, .inr (1, [.ref q1, .ref q2, .ref q3])), (q1, x_I G 8 Hf), (q2, x_I G 64 Wf)] Unit (fun _ => True) (fun u => [(h0, .inr (1, [.ref q1, .ref q2, .ref q3])), (q1, x_I G 8 (h_cp Hf Wf)), (q2, x_I G 64 Wf)]) 0 0 := by
  refine xMv.by r_Dg (by decide +kernel) (Nat.le_of_ble_eq_true rfl) rfl ?_
  intro p e s m args below meth c A ls Q E hin B hro hl hret
  have hl : lv_has ls 14 [(0, .ref h0)] := hl
  refine lv_aload_n E.1 E.2.1 d_Dg_mixWords_0 rfl (lv_at hl 0 rfl) ?_
  refine x_get E B 0 rfl k_Dg 0 (by decide) wd_83 rfl d_Dg_mixWords_1 ?_
  refine lv_iconst (v := nI 0) E.1 E.2.1 d_Dg_mixWords_4 (by decide) ?_
  refine x_ald E B 1 rfl (i := 0) (by omega) (by decide) d_Dg_mixWords_5 ?_
  refine lv_istore_n (lv' := [(1, .int (Hf 0)), (0, .ref h0)]) E.1 E.2.1 d_Dg_mixWords_6 rfl hl (by decide) rfl (fun ls hl => ?_)
  refine lv_aload_n E.1 E.2.1 d_Dg_mixWords_7 rfl (lv_at hl 1 rfl) ?_
  refine x_get E B 0 rfl k_Dg 0 (by decide) wd_83 rfl d_Dg_mixWords_8 ?_
  refine lv_iconst (v := nI 1) E.1 E.2.1 d_Dg_mixWords_11 (by decide) ?_
  refine x_ald E B 1 rfl (i := 1) (by omega) (by decide) d_Dg_mixWords_12 ?_
  refine lv_istore_n (lv' := [(2, .int (Hf 1)), (1, .int (Hf 0)), (0, .ref h0)]) E.1 E.2.1 d_Dg_mixWords_13 rfl hl (by decide) rfl (fun ls hl => ?_)
  refine lv_aload_n E.1 E.2.1 d_Dg_mixWords_14 rfl (lv_at hl 2 rfl) ?_
  refine x_get E B 0 rfl k_Dg 0 (by decide) wd_83 rfl d_Dg_mixWords_15 ?_
  refine lv_iconst (v := nI 2) E.1 E.2.1 d_Dg_mixWords_18 (by decide) ?_
  refine x_ald E B 1 rfl (i := 2) (by omega) (by decide) d_Dg_mixWords_19 ?_
  refine lv_istore_n (lv' := [(3, .int (Hf 2)), (2, .int (Hf 1)), (1, .int (Hf 0)), (0, .ref h0)]) E.1 E.2.1 d_Dg_mixWords_20 rfl hl (by decide) rfl (fun ls hl => ?_)
  refine lv_aload_n E.1 E.2.1 d_Dg_mixWords_21 rfl (lv_at hl 3 rfl) ?_
  refine x_get E B 0 rfl k_Dg 0 (by decide) wd_83 rfl d_Dg_mixWords_22 ?_
  refine lv_iconst (v := nI 3) E.1 E.2.1 d_Dg_mixWords_25 (by decide) ?_
  refine x_ald E B 1 rfl (i := 3) (by omega) (by decide) d_Dg_mixWords_26 ?_
  refine lv_istore (lv' := [(4, .int (Hf 3)), (3, .int (Hf 2)), (2, .int (Hf 1)), (1, .int (Hf 0)), (0, .ref h0)]) E.1 E.2.1 d_Dg_mixWords_27 hl (by decide) rfl (fun ls hl => ?_)
  refine lv_aload_n E.1 E.2.1 d_Dg_mixWords_29 rfl (lv_at hl 4 rfl) ?_
  refine x_get E B 0 rfl k_Dg 0 (by decide) wd_83 rfl d_Dg_mixWords_30 ?_
  refine lv_iconst (v := nI 4) E.1 E.2.1 d_Dg_mixWords_33 (by decide) ?_
  refine x_ald E B 1 rfl (i := 4) (by omega) (by decide) d_Dg_mixWords_34 ?_
  refine lv_istore (lv' := [(5, .int (Hf 4)), (4, .int (Hf 3)), (3, .int (Hf 2)), (2, .int (Hf 1)), (1, .int (Hf 0)), (0, .ref h0)]) E.1 E.2.1 d_Dg_mixWords_35 hl (by decide) rfl (fun ls hl => ?_)
  refine lv_aload_n E.1 E.2.1 d_Dg_mixWords_37 rfl (lv_at hl 5 rfl) ?_
  refine x_get E B 0 rfl k_Dg 0 (by decide) wd_83 rfl d_Dg_mixWords_38 ?_
  refine lv_iconst (v := nI 5) E.1 E.2.1 d_Dg_mixWords_41 (by decide) ?_
  refine x_ald E B 1 rfl (i := 5) (by omega) (by decide) d_Dg_mixWords_42 ?_
  refine lv_istore (lv' := [(6, .int (Hf 5)), (5, .int (Hf 4)), (4, .int (Hf 3)), (3, .int (Hf 2)), (2, .int (Hf 1)), (1, .int (Hf 0)), (0, .ref h0)]) E.1 E.2.1 d_Dg_mixWords_43 hl (by decide) rfl (fun ls hl => ?_)
  refine lv_aload_n E.1 E.2.1 d_Dg_mixWords_45 rfl (lv_at hl 6 rfl) ?_
  refine x_get E B 0 rfl k_Dg 0 (by decide) wd_83 rfl d_Dg_mixWords_46 ?_
  refine lv_bipush (v := nI 6) E.1 E.2.1 d_Dg_mixWords_49 (by decide) ?_
  refine x_ald E B 1 rfl (i := 6) (by omega) (by decide) d_Dg_mixWords_51 ?_
  refine lv_istore (lv' := [(7, .int (Hf 6)), (6, .int (Hf 5)), (5, .int (Hf 4)), (4, .int (Hf 3)), (3, .int (Hf 2)), (2, .int (Hf 1)), (1, .int (Hf 0)), (0, .ref h0)]) E.1 E.2.1 d_Dg_mixWords_52 hl (by decide) rfl (fun ls hl => ?_)
  refine lv_aload_n E.1 E.2.1 d_Dg_mixWords_54 rfl (lv_at hl 7 rfl) ?_
  refine x_get E B 0 rfl k_Dg 0 (by decide) wd_83 rfl d_Dg_mixWords_55 ?_
  refine lv_bipush (v := nI 7) E.1 E.2.1 d_Dg_mixWords_58 (by decide) ?_
  refine x_ald E B 1 rfl (i := 7) (by omega) (by decide) d_Dg_mixWords_60 ?_
  refine lv_istore (lv' := [(8, .int (Hf 7)), (7, .int (Hf 6)), (6, .int (Hf 5)), (5, .int (Hf 4)), (4, .int (Hf 3)), (3, .int (Hf 2)), (2, .int (Hf 1)), (1, .int (Hf 0)), (0, .ref h0)]) E.1 E.2.1 d_Dg_mixWords_61 hl (by decide) rfl (fun ls hl => ?_)
  refine lv_iconst (v := nI 0) E.1 E.2.1 d_Dg_mixWords_63 (by decide) ?_
  refine lv_istore (lv' := [(9, .int (nI 0)), (8, .int (Hf 7)), (7, .int (Hf 6)), (6, .int (Hf 5)), (5, .int (Hf 4)), (4, .int (Hf 3)), (3, .int (Hf 2)), (2, .int (Hf 1)), (1, .int (Hf 0)), (0, .ref h0)]) E.1 E.2.1 d_Dg_mixWords_64 hl (by decide) rfl (fun ls hl => ?_)
  have hL66 : ∀ (kf : Nat) (t : Nat), 64 - t < kf → (t ≤ 64) → ∀ (H : Heap) (locs : List Loc) (ls : Array Slot), xB G A s H locs ([(h0, .inr (1, [.ref q1, .ref q2, .ref q3])), (q1, x_I G 8 Hf), (q2, x_I G 64 Wf)]) → lv_has ls 14 [(9, .int (nI t)), (1, .int (h_rd Hf Wf t 0)), (2, .int (h_rd Hf Wf t 1)), (3, .int (h_rd Hf Wf t 2)), (4, .int (h_rd Hf Wf t 3)), (5, .int (h_rd Hf Wf t 4)), (6, .int (h_rd Hf Wf t 5)), (7, .int (h_rd Hf Wf t 6)), (8, .int (h_rd Hf Wf t 7)), (0, .ref h0)] → W p l e ({ frames := 1, cells := 0, slots := 0, locals := 21 }) s m args below meth c H locs 0 0 Q (F0 m 66 ls []) := by
    intro k66
    induction k66 with
    | zero =>
      intro t hk
      exact absurd hk (Nat.not_lt_zero _)
    | succ k66 ih66 =>
      intro t hk66 hi H locs ls B hl
      refine lv_iload E.1 E.2.1 d_Dg_mixWords_66 (lv_at hl 0 rfl) ?_
      refine lv_bipush (v := nI 64) E.1 E.2.1 d_Dg_mixWords_68 (by decide) ?_
      refine x_ge (tgt := 209) E d_Dg_mixWords_70 (by decide) (by omega) (by omega) (fun c1 => ?_) (fun c1 => ?_)
      · obtain rfl : t = 64 := by omega
        refine lv_aload_n E.1 E.2.1 d_Dg_mixWords_209 rfl (lv_at hl 9 rfl) ?_
        refine x_get E B 0 rfl k_Dg 0 (by decide) wd_83 rfl d_Dg_mixWords_210 ?_
        refine lv_iconst (v := nI 0) E.1 E.2.1 d_Dg_mixWords_213 (by decide) ?_
        refine lv_dup2_11 E.1 E.2.1 d_Dg_mixWords_214 rfl rfl ?_
        refine x_ald E B 1 rfl (i := 0) (by omega) (by decide) d_Dg_mixWords_215 ?_
        refine x_top (v' := (Hf 0)) (rfl) ?_
        refine lv_iload_n E.1 E.2.1 d_Dg_mixWords_216 rfl (lv_at hl 1 rfl) ?_
        refine lv_iadd E.1 E.2.1 d_Dg_mixWords_217 ?_
        refine x_ast E B 1 rfl (i := 0) (x := ((Hf 0) + (h_rd Hf Wf 64 0))) (by omega) (by decide) d_Dg_mixWords_218 (fun H locs B => ?_)
        have B : xB G A s _ _ ([(h0, .inr (1, [.ref q1, .ref q2, .ref q3])), (q1, x_I G 8 (upd Hf 0 ((Hf 0) + (h_rd Hf Wf 64 0)))), (q2, x_I G 64 Wf)]) := B
        refine lv_aload_n E.1 E.2.1 d_Dg_mixWords_219 rfl (lv_at hl 9 rfl) ?_
        refine x_get E B 0 rfl k_Dg 0 (by decide) wd_83 rfl d_Dg_mixWords_220 ?_
        refine lv_iconst (v := nI 1) E.1 E.2.1 d_Dg_mixWords_223 (by decide) ?_
        refine lv_dup2_11 E.1 E.2.1 d_Dg_mixWords_224 rfl rfl ?_
        refine x_ald E B 1 rfl (i := 1) (by omega) (by decide) d_Dg_mixWords_225 ?_
        refine x_top (v' := (Hf 1)) (rfl) ?_
        refine lv_iload_n E.1 E.2.1 d_Dg_mixWords_226 rfl (lv_at hl 2 rfl) ?_
        refine lv_iadd E.1 E.2.1 d_Dg_mixWords_227 ?_
        refine x_ast E B 1 rfl (i := 1) (x := ((Hf 1) + (h_rd Hf Wf 64 1))) (by omega) (by decide) d_Dg_mixWords_228 (fun H locs B => ?_)
        have B : xB G A s _ _ ([(h0, .inr (1, [.ref q1, .ref q2, .ref q3])), (q1, x_I G 8 (upd (upd Hf 0 ((Hf 0) + (h_rd Hf Wf 64 0))) 1 ((Hf 1) + (h_rd Hf Wf 64 1)))), (q2, x_I G 64 Wf)]) := B
        refine lv_aload_n E.1 E.2.1 d_Dg_mixWords_229 rfl (lv_at hl 9 rfl) ?_
        refine x_get E B 0 rfl k_Dg 0 (by decide) wd_83 rfl d_Dg_mixWords_230 ?_
        refine lv_iconst (v := nI 2) E.1 E.2.1 d_Dg_mixWords_233 (by decide) ?_
        refine lv_dup2_11 E.1 E.2.1 d_Dg_mixWords_234 rfl rfl ?_
        refine x_ald E B 1 rfl (i := 2) (by omega) (by decide) d_Dg_mixWords_235 ?_
        refine x_top (v' := (Hf 2)) (rfl) ?_
        refine lv_iload_n E.1 E.2.1 d_Dg_mixWords_236 rfl (lv_at hl 3 rfl) ?_
        refine lv_iadd E.1 E.2.1 d_Dg_mixWords_237 ?_
        refine x_ast E B 1 rfl (i := 2) (x := ((Hf 2) + (h_rd Hf Wf 64 2))) (by omega) (by decide) d_Dg_mixWords_238 (fun H locs B => ?_)
        have B : xB G A s _ _ ([(h0, .inr (1, [.ref q1, .ref q2, .ref q3])), (q1, x_I G 8 (upd (upd (upd Hf 0 ((Hf 0) + (h_rd Hf Wf 64 0))) 1 ((Hf 1) + (h_rd Hf Wf 64 1))) 2 ((Hf 2) + (h_rd Hf Wf 64 2)))), (q2, x_I G 64 Wf)]) := B
        refine lv_aload_n E.1 E.2.1 d_Dg_mixWords_239 rfl (lv_at hl 9 rfl) ?_
        refine x_get E B 0 rfl k_Dg 0 (by decide) wd_83 rfl d_Dg_mixWords_240 ?_
        refine lv_iconst (v := nI 3) E.1 E.2.1 d_Dg_mixWords_243 (by decide) ?_
        refine lv_dup2_11 E.1 E.2.1 d_Dg_mixWords_244 rfl rfl ?_
        refine x_ald E B 1 rfl (i := 3) (by omega) (by decide) d_Dg_mixWords_245 ?_
        refine x_top (v' := (Hf 3)) (rfl) ?_
        refine lv_iload E.1 E.2.1 d_Dg_mixWords_246 (lv_at hl 4 rfl) ?_
        refine lv_iadd E.1 E.2.1 d_Dg_mixWords_248 ?_
        refine x_ast E B 1 rfl (i := 3) (x := ((Hf 3) + (h_rd Hf Wf 64 3))) (by omega) (by decide) d_Dg_mixWords_249 (fun H locs B => ?_)
        have B : xB G A s _ _ ([(h0, .inr (1, [.ref q1, .ref q2, .ref q3])), (q1, x_I G 8 (upd (upd (upd (upd Hf 0 ((Hf 0) + (h_rd Hf Wf 64 0))) 1 ((Hf 1) + (h_rd Hf Wf 64 1))) 2 ((Hf 2) + (h_rd Hf Wf 64 2))) 3 ((Hf 3) + (h_rd Hf Wf 64 3)))), (q2, x_I G 64 Wf)]) := B
        refine lv_aload_n E.1 E.2.1 d_Dg_mixWords_250 rfl (lv_at hl 9 rfl) ?_
        refine x_get E B 0 rfl k_Dg 0 (by decide) wd_83 rfl d_Dg_mixWords_251 ?_
        refine lv_iconst (v := nI 4) E.1 E.2.1 d_Dg_mixWords_254 (by decide) ?_
        refine lv_dup2_11 E.1 E.2.1 d_Dg_mixWords_255 rfl rfl ?_
        refine x_ald E B 1 rfl (i := 4) (by omega) (by decide) d_Dg_mixWords_256 ?_
        refine x_top (v' := (Hf 4)) (rfl) ?_
        refine lv_iload E.1 E.2.1 d_Dg_mixWords_257 (lv_at hl 5 rfl) ?_
        refine lv_iadd E.1 E.2.1 d_Dg_mixWords_259 ?_
        refine x_ast E B 1 rfl (i := 4) (x := ((Hf 4) + (h_rd Hf Wf 64 4))) (by omega) (by decide) d_Dg_mixWords_260 (fun H locs B => ?_)
        have B : xB G A s _ _ ([(h0, .inr (1, [.ref q1, .ref q2, .ref q3])), (q1, x_I G 8 (upd (upd (upd (upd (upd Hf 0 ((Hf 0) + (h_rd Hf Wf 64 0))) 1 ((Hf 1) + (h_rd Hf Wf 64 1))) 2 ((Hf 2) + (h_rd Hf Wf 64 2))) 3 ((Hf 3) + (h_rd Hf Wf 64 3))) 4 ((Hf 4) + (h_rd Hf Wf 64 4)))), (q2, x_I G 64 Wf)]) := B
        refine lv_aload_n E.1 E.2.1 d_Dg_mixWords_261 rfl (lv_at hl 9 rfl) ?_
        refine x_get E B 0 rfl k_Dg 0 (by decide) wd_83 rfl d_Dg_mixWords_262 ?_
        refine lv_iconst (v := nI 5) E.1 E.2.1 d_Dg_mixWords_265 (by decide) ?_
        refine lv_dup2_11 E.1 E.2.1 d_Dg_mixWords_266 rfl rfl ?_
        refine x_ald E B 1 rfl (i := 5) (by omega) (by decide) d_Dg_mixWords_267 ?_
        refine x_top (v' := (Hf 5)) (rfl) ?_
        refine lv_iload E.1 E.2.1 d_Dg_mixWords_268 (lv_at hl 6 rfl) ?_
        refine lv_iadd E.1 E.2.1 d_Dg_mixWords_270 ?_
        refine x_ast E B 1 rfl (i := 5) (x := ((Hf 5) + (h_rd Hf Wf 64 5))) (by omega) (by decide) d_Dg_mixWords_271 (fun H locs B => ?_)
        have B : xB G A s _ _ ([(h0, .inr (1, [.ref q1, .ref q2, .ref q3])), (q1, x_I G 8 (upd (upd (upd (upd (upd (upd Hf 0 ((Hf 0) + (h_rd Hf Wf 64 0))) 1 ((Hf 1) + (h_rd Hf Wf 64 1))) 2 ((Hf 2) + (h_rd Hf Wf 64 2))) 3 ((Hf 3) + (h_rd Hf Wf 64 3))) 4 ((Hf 4) + (h_rd Hf Wf 64 4))) 5 ((Hf 5) + (h_rd Hf Wf 64 5)))), (q2, x_I G 64 Wf)]) := B
        refine lv_aload_n E.1 E.2.1 d_Dg_mixWords_272 rfl (lv_at hl 9 rfl) ?_
        refine x_get E B 0 rfl k_Dg 0 (by decide) wd_83 rfl d_Dg_mixWords_273 ?_
        refine lv_bipush (v := nI 6) E.1 E.2.1 d_Dg_mixWords_276 (by decide) ?_
        refine lv_dup2_11 E.1 E.2.1 d_Dg_mixWords_278 rfl rfl ?_
        refine x_ald E B 1 rfl (i := 6) (by omega) (by decide) d_Dg_mixWords_279 ?_
        refine x_top (v' := (Hf 6)) (rfl) ?_
        refine lv_iload E.1 E.2.1 d_Dg_mixWords_280 (lv_at hl 7 rfl) ?_
        refine lv_iadd E.1 E.2.1 d_Dg_mixWords_282 ?_
        refine x_ast E B 1 rfl (i := 6) (x := ((Hf 6) + (h_rd Hf Wf 64 6))) (by omega) (by decide) d_Dg_mixWords_283 (fun H locs B => ?_)
        have B : xB G A s _ _ ([(h0, .inr (1, [.ref q1, .ref q2, .ref q3])), (q1, x_I G 8 (upd (upd (upd (upd (upd (upd (upd Hf 0 ((Hf 0) + (h_rd Hf Wf 64 0))) 1 ((Hf 1) + (h_rd Hf Wf 64 1))) 2 ((Hf 2) + (h_rd Hf Wf 64 2))) 3 ((Hf 3) + (h_rd Hf Wf 64 3))) 4 ((Hf 4) + (h_rd Hf Wf 64 4))) 5 ((Hf 5) + (h_rd Hf Wf 64 5))) 6 ((Hf 6) + (h_rd Hf Wf 64 6)))), (q2, x_I G 64 Wf)]) := B
        refine lv_aload_n E.1 E.2.1 d_Dg_mixWords_284 rfl (lv_at hl 9 rfl) ?_
        refine x_get E B 0 rfl k_Dg 0 (by decide) wd_83 rfl d_Dg_mixWords_285 ?_
        refine lv_bipush (v := nI 7) E.1 E.2.1 d_Dg_mixWords_288 (by decide) ?_
        refine lv_dup2_11 E.1 E.2.1 d_Dg_mixWords_290 rfl rfl ?_
        refine x_ald E B 1 rfl (i := 7) (by omega) (by decide) d_Dg_mixWords_291 ?_
        refine x_top (v' := (Hf 7)) (rfl) ?_
        refine lv_iload E.1 E.2.1 d_Dg_mixWords_292 (lv_at hl 8 rfl) ?_
        refine lv_iadd E.1 E.2.1 d_Dg_mixWords_294 ?_
        refine x_ast E B 1 rfl (i := 7) (x := ((Hf 7) + (h_rd Hf Wf 64 7))) (by omega) (by decide) d_Dg_mixWords_295 (fun H locs B => ?_)
        have B : xB G A s _ _ ([(h0, .inr (1, [.ref q1, .ref q2, .ref q3])), (q1, x_I G 8 (upd (upd (upd (upd (upd (upd (upd (upd Hf 0 ((Hf 0) + (h_rd Hf Wf 64 0))) 1 ((Hf 1) + (h_rd Hf Wf 64 1))) 2 ((Hf 2) + (h_rd Hf Wf 64 2))) 3 ((Hf 3) + (h_rd Hf Wf 64 3))) 4 ((Hf 4) + (h_rd Hf Wf 64 4))) 5 ((Hf 5) + (h_rd Hf Wf 64 5))) 6 ((Hf 6) + (h_rd Hf Wf 64 6))) 7 ((Hf 7) + (h_rd Hf Wf 64 7)))), (q2, x_I G 64 Wf)]) := B
        have B := B.fn 1 rfl (h_cp Hf Wf) (h_cpE (x := h_rd Hf Wf 64) (fun _ => rfl))
        have B : xB G A s _ _ ([(h0, .inr (1, [.ref q1, .ref q2, .ref q3])), (q1, x_I G 8 (h_cp Hf Wf)), (q2, x_I G 64 Wf)]) := B
        exact hret () _ _ _ _ B trivial d_Dg_mixWords_296
      · refine lv_iload E.1 E.2.1 d_Dg_mixWords_73 (lv_at hl 5 rfl) ?_
        refine lv_bipush (v := nI 6) E.1 E.2.1 d_Dg_mixWords_75 (by decide) ?_
        refine x_cf (x_rS (rest := []) E (q_In_rotateRight l (h_rd Hf Wf t 4) (nI 6) ) x_pf (gg_S wd_263 wd_264 wd_42 wd_265) p_In_rotateRight rfl rfl ⟨Nat.le_of_ble_eq_true rfl, Nat.le_of_ble_eq_true rfl⟩ rfl hl.1 rfl (Nat.le_of_ble_eq_true rfl) d_Dg_mixWords_77 ⟨Nat.le_of_ble_eq_true rfl, Nat.le_of_ble_eq_true rfl⟩) ?_
        refine lv_iload E.1 E.2.1 d_Dg_mixWords_80 (lv_at hl 5 rfl) ?_
        refine lv_bipush (v := nI 11) E.1 E.2.1 d_Dg_mixWords_82 (by decide) ?_
        refine x_cf (x_rS (rest := [.int (h_r (h_rd Hf Wf t 4) (nI 6))]) E (q_In_rotateRight l (h_rd Hf Wf t 4) (nI 11) ) x_pf (gg_S wd_263 wd_264 wd_42 wd_265) p_In_rotateRight rfl rfl ⟨Nat.le_of_ble_eq_true rfl, Nat.le_of_ble_eq_true rfl⟩ rfl hl.1 rfl (Nat.le_of_ble_eq_true rfl) d_Dg_mixWords_84 ⟨Nat.le_of_ble_eq_true rfl, Nat.le_of_ble_eq_true rfl⟩) ?_
        refine lv_ixor E.1 E.2.1 d_Dg_mixWords_87 ?_
        refine lv_iload E.1 E.2.1 d_Dg_mixWords_88 (lv_at hl 5 rfl) ?_
        refine lv_bipush (v := nI 25) E.1 E.2.1 d_Dg_mixWords_90 (by decide) ?_
        refine x_cf (x_rS (rest := [.int ((h_r (h_rd Hf Wf t 4) (nI 6)) ^^^ (h_r (h_rd Hf Wf t 4) (nI 11)))]) E (q_In_rotateRight l (h_rd Hf Wf t 4) (nI 25) ) x_pf (gg_S wd_263 wd_264 wd_42 wd_265) p_In_rotateRight rfl rfl ⟨Nat.le_of_ble_eq_true rfl, Nat.le_of_ble_eq_true rfl⟩ rfl hl.1 rfl (Nat.le_of_ble_eq_true rfl) d_Dg_mixWords_92 ⟨Nat.le_of_ble_eq_true rfl, Nat.le_of_ble_eq_true rfl⟩) ?_
        refine lv_ixor E.1 E.2.1 d_Dg_mixWords_95 ?_
        refine lv_istore (lv' := [(10, .int (((h_r (h_rd Hf Wf t 4) (nI 6)) ^^^ (h_r (h_rd Hf Wf t 4) (nI 11))) ^^^ (h_r (h_rd Hf Wf t 4) (nI 25)))), (9, .int (nI t)), (1, .int (h_rd Hf Wf t 0)), (2, .int (h_rd Hf Wf t 1)), (3, .int (h_rd Hf Wf t 2)), (4, .int (h_rd Hf Wf t 3)), (5, .int (h_rd Hf Wf t 4)), (6, .int (h_rd Hf Wf t 5)), (7, .int (h_rd Hf Wf t 6)), (8, .int (h_rd Hf Wf t 7)), (0, .ref h0)]) E.1 E.2.1 d_Dg_mixWords_96 hl (by decide) rfl (fun ls hl => ?_)
        refine lv_iload_n E.1 E.2.1 d_Dg_mixWords_98 rfl (lv_at hl 2 rfl) ?_
        refine lv_iconst (v := nI 2) E.1 E.2.1 d_Dg_mixWords_99 (by decide) ?_
        refine x_cf (x_rS (rest := []) E (q_In_rotateRight l (h_rd Hf Wf t 0) (nI 2) ) x_pf (gg_S wd_263 wd_264 wd_42 wd_265) p_In_rotateRight rfl rfl ⟨Nat.le_of_ble_eq_true rfl, Nat.le_of_ble_eq_true rfl⟩ rfl hl.1 rfl (Nat.le_of_ble_eq_true rfl) d_Dg_mixWords_100 ⟨Nat.le_of_ble_eq_true rfl, Nat.le_of_ble_eq_true rfl⟩) ?_
        refine lv_iload_n E.1 E.2.1 d_Dg_mixWords_103 rfl (lv_at hl 2 rfl) ?_
        refine lv_bipush (v := nI 13) E.1 E.2.1 d_Dg_mixWords_104 (by decide) ?_
        refine x_cf (x_rS (rest := [.int (h_r (h_rd Hf Wf t 0) (nI 2))]) E (q_In_rotateRight l (h_rd Hf Wf t 0) (nI 13) ) x_pf (gg_S wd_263 wd_264 wd_42 wd_265) p_In_rotateRight rfl rfl ⟨Nat.le_of_ble_eq_true rfl, Nat.le_of_ble_eq_true rfl⟩ rfl hl.1 rfl (Nat.le_of_ble_eq_true rfl) d_Dg_mixWords_106 ⟨Nat.le_of_ble_eq_true rfl, Nat.le_of_ble_eq_true rfl⟩) ?_
        refine lv_ixor E.1 E.2.1 d_Dg_mixWords_109 ?_
        refine lv_iload_n E.1 E.2.1 d_Dg_mixWords_110 rfl (lv_at hl 2 rfl) ?_
        refine lv_bipush (v := nI 22) E.1 E.2.1 d_Dg_mixWords_111 (by decide) ?_
        refine x_cf (x_rS (rest := [.int ((h_r (h_rd Hf Wf t 0) (nI 2)) ^^^ (h_r (h_rd Hf Wf t 0) (nI 13)))]) E (q_In_rotateRight l (h_rd Hf Wf t 0) (nI 22) ) x_pf (gg_S wd_263 wd_264 wd_42 wd_265) p_In_rotateRight rfl rfl ⟨Nat.le_of_ble_eq_true rfl, Nat.le_of_ble_eq_true rfl⟩ rfl hl.1 rfl (Nat.le_of_ble_eq_true rfl) d_Dg_mixWords_113 ⟨Nat.le_of_ble_eq_true rfl, Nat.le_of_ble_eq_true rfl⟩) ?_
        refine lv_ixor E.1 E.2.1 d_Dg_mixWords_116 ?_
        refine lv_istore (lv' := [(11, .int (((h_r (h_rd Hf Wf t 0) (nI 2)) ^^^ (h_r (h_rd Hf Wf t 0) (nI 13))) ^^^ (h_r (h_rd Hf Wf t 0) (nI 22)))), (10, .int (((h_r (h_rd Hf Wf t 4) (nI 6)) ^^^ (h_r (h_rd Hf Wf t 4) (nI 11))) ^^^ (h_r (h_rd Hf Wf t 4) (nI 25)))), (9, .int (nI t)), (1, .int (h_rd Hf Wf t 0)), (2, .int (h_rd Hf Wf t 1)), (3, .int (h_rd Hf Wf t 2)), (4, .int (h_rd Hf Wf t 3)), (5, .int (h_rd Hf Wf t 4)), (6, .int (h_rd Hf Wf t 5)), (7, .int (h_rd Hf Wf t 6)), (8, .int (h_rd Hf Wf t 7)), (0, .ref h0)]) E.1 E.2.1 d_Dg_mixWords_117 hl (by decide) rfl (fun ls hl => ?_)
        refine lv_iload E.1 E.2.1 d_Dg_mixWords_119 (lv_at hl 10 rfl) ?_
        refine lv_iload E.1 E.2.1 d_Dg_mixWords_121 (lv_at hl 1 rfl) ?_
        refine lv_iadd E.1 E.2.1 d_Dg_mixWords_123 ?_
        refine lv_iload E.1 E.2.1 d_Dg_mixWords_124 (lv_at hl 7 rfl) ?_
        refine lv_iload E.1 E.2.1 d_Dg_mixWords_126 (lv_at hl 8 rfl) ?_
        refine lv_iand E.1 E.2.1 d_Dg_mixWords_128 ?_
        refine lv_iload E.1 E.2.1 d_Dg_mixWords_129 (lv_at hl 7 rfl) ?_
        refine lv_iconst (v := -1) E.1 E.2.1 d_Dg_mixWords_131 (by decide) ?_
        refine lv_ixor E.1 E.2.1 d_Dg_mixWords_132 ?_
        refine lv_iload E.1 E.2.1 d_Dg_mixWords_133 (lv_at hl 9 rfl) ?_
        refine lv_iand E.1 E.2.1 d_Dg_mixWords_135 ?_
        refine lv_ixor E.1 E.2.1 d_Dg_mixWords_136 ?_
        refine lv_iadd E.1 E.2.1 d_Dg_mixWords_137 ?_
        refine x_gets E B B.2.2.2.2.1.1.1 wd_270 d_Dg_mixWords_138 ?_
        refine lv_iload E.1 E.2.1 d_Dg_mixWords_141 (lv_at hl 2 rfl) ?_
        refine x_tld E B B.2.2.2.2.1.1.2 (i := t) (by omega) (by decide) d_Dg_mixWords_143 ?_
        refine lv_iadd E.1 E.2.1 d_Dg_mixWords_144 ?_
        refine lv_aload_n E.1 E.2.1 d_Dg_mixWords_145 rfl (lv_at hl 11 rfl) ?_
        refine x_get E B 0 rfl k_Dg 1 (by decide) wd_84 rfl d_Dg_mixWords_146 ?_
        refine lv_iload E.1 E.2.1 d_Dg_mixWords_149 (lv_at hl 2 rfl) ?_
        refine x_ald E B 2 rfl (i := t) (by omega) (by decide) d_Dg_mixWords_151 ?_
        refine lv_iadd E.1 E.2.1 d_Dg_mixWords_152 ?_
        refine lv_istore (lv' := [(12, .int (((((h_rd Hf Wf t 7) + (((h_r (h_rd Hf Wf t 4) (nI 6)) ^^^ (h_r (h_rd Hf Wf t 4) (nI 11))) ^^^ (h_r (h_rd Hf Wf t 4) (nI 25)))) + (((h_rd Hf Wf t 4) &&& (h_rd Hf Wf t 5)) ^^^ (((h_rd Hf Wf t 4) ^^^ (-1)) &&& (h_rd Hf Wf t 6)))) + (k_K t)) + (Wf t))), (11, .int (((h_r (h_rd Hf Wf t 0) (nI 2)) ^^^ (h_r (h_rd Hf Wf t 0) (nI 13))) ^^^ (h_r (h_rd Hf Wf t 0) (nI 22)))), (10, .int (((h_r (h_rd Hf Wf t 4) (nI 6)) ^^^ (h_r (h_rd Hf Wf t 4) (nI 11))) ^^^ (h_r (h_rd Hf Wf t 4) (nI 25)))), (9, .int (nI t)), (1, .int (h_rd Hf Wf t 0)), (2, .int (h_rd Hf Wf t 1)), (3, .int (h_rd Hf Wf t 2)), (4, .int (h_rd Hf Wf t 3)), (5, .int (h_rd Hf Wf t 4)), (6, .int (h_rd Hf Wf t 5)), (7, .int (h_rd Hf Wf t 6)), (8, .int (h_rd Hf Wf t 7)), (0, .ref h0)]) E.1 E.2.1 d_Dg_mixWords_153 hl (by decide) rfl (fun ls hl => ?_)
        refine lv_iload E.1 E.2.1 d_Dg_mixWords_155 (lv_at hl 1 rfl) ?_
        refine lv_iload_n E.1 E.2.1 d_Dg_mixWords_157 rfl (lv_at hl 4 rfl) ?_
        refine lv_iload_n E.1 E.2.1 d_Dg_mixWords_158 rfl (lv_at hl 5 rfl) ?_
        refine lv_iand E.1 E.2.1 d_Dg_mixWords_159 ?_
        refine lv_iload_n E.1 E.2.1 d_Dg_mixWords_160 rfl (lv_at hl 4 rfl) ?_
        refine lv_iload_n E.1 E.2.1 d_Dg_mixWords_161 rfl (lv_at hl 6 rfl) ?_
        refine lv_iand E.1 E.2.1 d_Dg_mixWords_162 ?_
        refine lv_ixor E.1 E.2.1 d_Dg_mixWords_163 ?_
        refine lv_iload_n E.1 E.2.1 d_Dg_mixWords_164 rfl (lv_at hl 5 rfl) ?_
        refine lv_iload_n E.1 E.2.1 d_Dg_mixWords_165 rfl (lv_at hl 6 rfl) ?_
        refine lv_iand E.1 E.2.1 d_Dg_mixWords_166 ?_
        refine lv_ixor E.1 E.2.1 d_Dg_mixWords_167 ?_
        refine lv_iadd E.1 E.2.1 d_Dg_mixWords_168 ?_
        refine lv_istore (lv' := [(13, .int ((((h_r (h_rd Hf Wf t 0) (nI 2)) ^^^ (h_r (h_rd Hf Wf t 0) (nI 13))) ^^^ (h_r (h_rd Hf Wf t 0) (nI 22))) + ((((h_rd Hf Wf t 0) &&& (h_rd Hf Wf t 1)) ^^^ ((h_rd Hf Wf t 0) &&& (h_rd Hf Wf t 2))) ^^^ ((h_rd Hf Wf t 1) &&& (h_rd Hf Wf t 2))))), (12, .int (((((h_rd Hf Wf t 7) + (((h_r (h_rd Hf Wf t 4) (nI 6)) ^^^ (h_r (h_rd Hf Wf t 4) (nI 11))) ^^^ (h_r (h_rd Hf Wf t 4) (nI 25)))) + (((h_rd Hf Wf t 4) &&& (h_rd Hf Wf t 5)) ^^^ (((h_rd Hf Wf t 4) ^^^ (-1)) &&& (h_rd Hf Wf t 6)))) + (k_K t)) + (Wf t))), (11, .int (((h_r (h_rd Hf Wf t 0) (nI 2)) ^^^ (h_r (h_rd Hf Wf t 0) (nI 13))) ^^^ (h_r (h_rd Hf Wf t 0) (nI 22)))), (10, .int (((h_r (h_rd Hf Wf t 4) (nI 6)) ^^^ (h_r (h_rd Hf Wf t 4) (nI 11))) ^^^ (h_r (h_rd Hf Wf t 4) (nI 25)))), (9, .int (nI t)), (1, .int (h_rd Hf Wf t 0)), (2, .int (h_rd Hf Wf t 1)), (3, .int (h_rd Hf Wf t 2)), (4, .int (h_rd Hf Wf t 3)), (5, .int (h_rd Hf Wf t 4)), (6, .int (h_rd Hf Wf t 5)), (7, .int (h_rd Hf Wf t 6)), (8, .int (h_rd Hf Wf t 7)), (0, .ref h0)]) E.1 E.2.1 d_Dg_mixWords_169 hl (by decide) rfl (fun ls hl => ?_)
        refine lv_iload E.1 E.2.1 d_Dg_mixWords_171 (lv_at hl 11 rfl) ?_
        refine lv_istore (lv' := [(8, .int (h_rd Hf Wf t 6)), (13, .int ((((h_r (h_rd Hf Wf t 0) (nI 2)) ^^^ (h_r (h_rd Hf Wf t 0) (nI 13))) ^^^ (h_r (h_rd Hf Wf t 0) (nI 22))) + ((((h_rd Hf Wf t 0) &&& (h_rd Hf Wf t 1)) ^^^ ((h_rd Hf Wf t 0) &&& (h_rd Hf Wf t 2))) ^^^ ((h_rd Hf Wf t 1) &&& (h_rd Hf Wf t 2))))), (12, .int (((((h_rd Hf Wf t 7) + (((h_r (h_rd Hf Wf t 4) (nI 6)) ^^^ (h_r (h_rd Hf Wf t 4) (nI 11))) ^^^ (h_r (h_rd Hf Wf t 4) (nI 25)))) + (((h_rd Hf Wf t 4) &&& (h_rd Hf Wf t 5)) ^^^ (((h_rd Hf Wf t 4) ^^^ (-1)) &&& (h_rd Hf Wf t 6)))) + (k_K t)) + (Wf t))), (11, .int (((h_r (h_rd Hf Wf t 0) (nI 2)) ^^^ (h_r (h_rd Hf Wf t 0) (nI 13))) ^^^ (h_r (h_rd Hf Wf t 0) (nI 22)))), (10, .int (((h_r (h_rd Hf Wf t 4) (nI 6)) ^^^ (h_r (h_rd Hf Wf t 4) (nI 11))) ^^^ (h_r (h_rd Hf Wf t 4) (nI 25)))), (9, .int (nI t)), (1, .int (h_rd Hf Wf t 0)), (2, .int (h_rd Hf Wf t 1)), (3, .int (h_rd Hf Wf t 2)), (4, .int (h_rd Hf Wf t 3)), (5, .int (h_rd Hf Wf t 4)), (6, .int (h_rd Hf Wf t 5)), (7, .int (h_rd Hf Wf t 6)), (0, .ref h0)]) E.1 E.2.1 d_Dg_mixWords_173 hl (by decide) rfl (fun ls hl => ?_)
        refine lv_iload E.1 E.2.1 d_Dg_mixWords_175 (lv_at hl 11 rfl) ?_
        refine lv_istore (lv' := [(7, .int (h_rd Hf Wf t 5)), (8, .int (h_rd Hf Wf t 6)), (13, .int ((((h_r (h_rd Hf Wf t 0) (nI 2)) ^^^ (h_r (h_rd Hf Wf t 0) (nI 13))) ^^^ (h_r (h_rd Hf Wf t 0) (nI 22))) + ((((h_rd Hf Wf t 0) &&& (h_rd Hf Wf t 1)) ^^^ ((h_rd Hf Wf t 0) &&& (h_rd Hf Wf t 2))) ^^^ ((h_rd Hf Wf t 1) &&& (h_rd Hf Wf t 2))))), (12, .int (((((h_rd Hf Wf t 7) + (((h_r (h_rd Hf Wf t 4) (nI 6)) ^^^ (h_r (h_rd Hf Wf t 4) (nI 11))) ^^^ (h_r (h_rd Hf Wf t 4) (nI 25)))) + (((h_rd Hf Wf t 4) &&& (h_rd Hf Wf t 5)) ^^^ (((h_rd Hf Wf t 4) ^^^ (-1)) &&& (h_rd Hf Wf t 6)))) + (k_K t)) + (Wf t))), (11, .int (((h_r (h_rd Hf Wf t 0) (nI 2)) ^^^ (h_r (h_rd Hf Wf t 0) (nI 13))) ^^^ (h_r (h_rd Hf Wf t 0) (nI 22)))), (10, .int (((h_r (h_rd Hf Wf t 4) (nI 6)) ^^^ (h_r (h_rd Hf Wf t 4) (nI 11))) ^^^ (h_r (h_rd Hf Wf t 4) (nI 25)))), (9, .int (nI t)), (1, .int (h_rd Hf Wf t 0)), (2, .int (h_rd Hf Wf t 1)), (3, .int (h_rd Hf Wf t 2)), (4, .int (h_rd Hf Wf t 3)), (5, .int (h_rd Hf Wf t 4)), (6, .int (h_rd Hf Wf t 5)), (0, .ref h0)]) E.1 E.2.1 d_Dg_mixWords_177 hl (by decide) rfl (fun ls hl => ?_)
        refine lv_iload E.1 E.2.1 d_Dg_mixWords_179 (lv_at hl 11 rfl) ?_
        refine lv_istore (lv' := [(6, .int (h_rd Hf Wf t 4)), (7, .int (h_rd Hf Wf t 5)), (8, .int (h_rd Hf Wf t 6)), (13, .int ((((h_r (h_rd Hf Wf t 0) (nI 2)) ^^^ (h_r (h_rd Hf Wf t 0) (nI 13))) ^^^ (h_r (h_rd Hf Wf t 0) (nI 22))) + ((((h_rd Hf Wf t 0) &&& (h_rd Hf Wf t 1)) ^^^ ((h_rd Hf Wf t 0) &&& (h_rd Hf Wf t 2))) ^^^ ((h_rd Hf Wf t 1) &&& (h_rd Hf Wf t 2))))), (12, .int (((((h_rd Hf Wf t 7) + (((h_r (h_rd Hf Wf t 4) (nI 6)) ^^^ (h_r (h_rd Hf Wf t 4) (nI 11))) ^^^ (h_r (h_rd Hf Wf t 4) (nI 25)))) + (((h_rd Hf Wf t 4) &&& (h_rd Hf Wf t 5)) ^^^ (((h_rd Hf Wf t 4) ^^^ (-1)) &&& (h_rd Hf Wf t 6)))) + (k_K t)) + (Wf t))), (11, .int (((h_r (h_rd Hf Wf t 0) (nI 2)) ^^^ (h_r (h_rd Hf Wf t 0) (nI 13))) ^^^ (h_r (h_rd Hf Wf t 0) (nI 22)))), (10, .int (((h_r (h_rd Hf Wf t 4) (nI 6)) ^^^ (h_r (h_rd Hf Wf t 4) (nI 11))) ^^^ (h_r (h_rd Hf Wf t 4) (nI 25)))), (9, .int (nI t)), (1, .int (h_rd Hf Wf t 0)), (2, .int (h_rd Hf Wf t 1)), (3, .int (h_rd Hf Wf t 2)), (4, .int (h_rd Hf Wf t 3)), (5, .int (h_rd Hf Wf t 4)), (0, .ref h0)]) E.1 E.2.1 d_Dg_mixWords_181 hl (by decide) rfl (fun ls hl => ?_)
        refine lv_iload E.1 E.2.1 d_Dg_mixWords_183 (lv_at hl 11 rfl) ?_
        refine lv_iload E.1 E.2.1 d_Dg_mixWords_185 (lv_at hl 4 rfl) ?_
        refine lv_iadd E.1 E.2.1 d_Dg_mixWords_187 ?_
        refine lv_istore (lv' := [(5, .int ((h_rd Hf Wf t 3) + (((((h_rd Hf Wf t 7) + (((h_r (h_rd Hf Wf t 4) (nI 6)) ^^^ (h_r (h_rd Hf Wf t 4) (nI 11))) ^^^ (h_r (h_rd Hf Wf t 4) (nI 25)))) + (((h_rd Hf Wf t 4) &&& (h_rd Hf Wf t 5)) ^^^ (((h_rd Hf Wf t 4) ^^^ (-1)) &&& (h_rd Hf Wf t 6)))) + (k_K t)) + (Wf t)))), (6, .int (h_rd Hf Wf t 4)), (7, .int (h_rd Hf Wf t 5)), (8, .int (h_rd Hf Wf t 6)), (13, .int ((((h_r (h_rd Hf Wf t 0) (nI 2)) ^^^ (h_r (h_rd Hf Wf t 0) (nI 13))) ^^^ (h_r (h_rd Hf Wf t 0) (nI 22))) + ((((h_rd Hf Wf t 0) &&& (h_rd Hf Wf t 1)) ^^^ ((h_rd Hf Wf t 0) &&& (h_rd Hf Wf t 2))) ^^^ ((h_rd Hf Wf t 1) &&& (h_rd Hf Wf t 2))))), (12, .int (((((h_rd Hf Wf t 7) + (((h_r (h_rd Hf Wf t 4) (nI 6)) ^^^ (h_r (h_rd Hf Wf t 4) (nI 11))) ^^^ (h_r (h_rd Hf Wf t 4) (nI 25)))) + (((h_rd Hf Wf t 4) &&& (h_rd Hf Wf t 5)) ^^^ (((h_rd Hf Wf t 4) ^^^ (-1)) &&& (h_rd Hf Wf t 6)))) + (k_K t)) + (Wf t))), (11, .int (((h_r (h_rd Hf Wf t 0) (nI 2)) ^^^ (h_r (h_rd Hf Wf t 0) (nI 13))) ^^^ (h_r (h_rd Hf Wf t 0) (nI 22)))), (10, .int (((h_r (h_rd Hf Wf t 4) (nI 6)) ^^^ (h_r (h_rd Hf Wf t 4) (nI 11))) ^^^ (h_r (h_rd Hf Wf t 4) (nI 25)))), (9, .int (nI t)), (1, .int (h_rd Hf Wf t 0)), (2, .int (h_rd Hf Wf t 1)), (3, .int (h_rd Hf Wf t 2)), (4, .int (h_rd Hf Wf t 3)), (0, .ref h0)]) E.1 E.2.1 d_Dg_mixWords_188 hl (by decide) rfl (fun ls hl => ?_)
        refine lv_iload_n E.1 E.2.1 d_Dg_mixWords_190 rfl (lv_at hl 11 rfl) ?_
        refine lv_istore (lv' := [(4, .int (h_rd Hf Wf t 2)), (5, .int ((h_rd Hf Wf t 3) + (((((h_rd Hf Wf t 7) + (((h_r (h_rd Hf Wf t 4) (nI 6)) ^^^ (h_r (h_rd Hf Wf t 4) (nI 11))) ^^^ (h_r (h_rd Hf Wf t 4) (nI 25)))) + (((h_rd Hf Wf t 4) &&& (h_rd Hf Wf t 5)) ^^^ (((h_rd Hf Wf t 4) ^^^ (-1)) &&& (h_rd Hf Wf t 6)))) + (k_K t)) + (Wf t)))), (6, .int (h_rd Hf Wf t 4)), (7, .int (h_rd Hf Wf t 5)), (8, .int (h_rd Hf Wf t 6)), (13, .int ((((h_r (h_rd Hf Wf t 0) (nI 2)) ^^^ (h_r (h_rd Hf Wf t 0) (nI 13))) ^^^ (h_r (h_rd Hf Wf t 0) (nI 22))) + ((((h_rd Hf Wf t 0) &&& (h_rd Hf Wf t 1)) ^^^ ((h_rd Hf Wf t 0) &&& (h_rd Hf Wf t 2))) ^^^ ((h_rd Hf Wf t 1) &&& (h_rd Hf Wf t 2))))), (12, .int (((((h_rd Hf Wf t 7) + (((h_r (h_rd Hf Wf t 4) (nI 6)) ^^^ (h_r (h_rd Hf Wf t 4) (nI 11))) ^^^ (h_r (h_rd Hf Wf t 4) (nI 25)))) + (((h_rd Hf Wf t 4) &&& (h_rd Hf Wf t 5)) ^^^ (((h_rd Hf Wf t 4) ^^^ (-1)) &&& (h_rd Hf Wf t 6)))) + (k_K t)) + (Wf t))), (11, .int (((h_r (h_rd Hf Wf t 0) (nI 2)) ^^^ (h_r (h_rd Hf Wf t 0) (nI 13))) ^^^ (h_r (h_rd Hf Wf t 0) (nI 22)))), (10, .int (((h_r (h_rd Hf Wf t 4) (nI 6)) ^^^ (h_r (h_rd Hf Wf t 4) (nI 11))) ^^^ (h_r (h_rd Hf Wf t 4) (nI 25)))), (9, .int (nI t)), (1, .int (h_rd Hf Wf t 0)), (2, .int (h_rd Hf Wf t 1)), (3, .int (h_rd Hf Wf t 2)), (0, .ref h0)]) E.1 E.2.1 d_Dg_mixWords_191 hl (by decide) rfl (fun ls hl => ?_)
        refine lv_iload_n E.1 E.2.1 d_Dg_mixWords_193 rfl (lv_at hl 11 rfl) ?_
        refine lv_istore_n (lv' := [(3, .int (h_rd Hf Wf t 1)), (4, .int (h_rd Hf Wf t 2)), (5, .int ((h_rd Hf Wf t 3) + (((((h_rd Hf Wf t 7) + (((h_r (h_rd Hf Wf t 4) (nI 6)) ^^^ (h_r (h_rd Hf Wf t 4) (nI 11))) ^^^ (h_r (h_rd Hf Wf t 4) (nI 25)))) + (((h_rd Hf Wf t 4) &&& (h_rd Hf Wf t 5)) ^^^ (((h_rd Hf Wf t 4) ^^^ (-1)) &&& (h_rd Hf Wf t 6)))) + (k_K t)) + (Wf t)))), (6, .int (h_rd Hf Wf t 4)), (7, .int (h_rd Hf Wf t 5)), (8, .int (h_rd Hf Wf t 6)), (13, .int ((((h_r (h_rd Hf Wf t 0) (nI 2)) ^^^ (h_r (h_rd Hf Wf t 0) (nI 13))) ^^^ (h_r (h_rd Hf Wf t 0) (nI 22))) + ((((h_rd Hf Wf t 0) &&& (h_rd Hf Wf t 1)) ^^^ ((h_rd Hf Wf t 0) &&& (h_rd Hf Wf t 2))) ^^^ ((h_rd Hf Wf t 1) &&& (h_rd Hf Wf t 2))))), (12, .int (((((h_rd Hf Wf t 7) + (((h_r (h_rd Hf Wf t 4) (nI 6)) ^^^ (h_r (h_rd Hf Wf t 4) (nI 11))) ^^^ (h_r (h_rd Hf Wf t 4) (nI 25)))) + (((h_rd Hf Wf t 4) &&& (h_rd Hf Wf t 5)) ^^^ (((h_rd Hf Wf t 4) ^^^ (-1)) &&& (h_rd Hf Wf t 6)))) + (k_K t)) + (Wf t))), (11, .int (((h_r (h_rd Hf Wf t 0) (nI 2)) ^^^ (h_r (h_rd Hf Wf t 0) (nI 13))) ^^^ (h_r (h_rd Hf Wf t 0) (nI 22)))), (10, .int (((h_r (h_rd Hf Wf t 4) (nI 6)) ^^^ (h_r (h_rd Hf Wf t 4) (nI 11))) ^^^ (h_r (h_rd Hf Wf t 4) (nI 25)))), (9, .int (nI t)), (1, .int (h_rd Hf Wf t 0)), (2, .int (h_rd Hf Wf t 1)), (0, .ref h0)]) E.1 E.2.1 d_Dg_mixWords_194 rfl hl (by decide) rfl (fun ls hl => ?_)
        refine lv_iload_n E.1 E.2.1 d_Dg_mixWords_195 rfl (lv_at hl 11 rfl) ?_
        refine lv_istore_n (lv' := [(2, .int (h_rd Hf Wf t 0)), (3, .int (h_rd Hf Wf t 1)), (4, .int (h_rd Hf Wf t 2)), (5, .int ((h_rd Hf Wf t 3) + (((((h_rd Hf Wf t 7) + (((h_r (h_rd Hf Wf t 4) (nI 6)) ^^^ (h_r (h_rd Hf Wf t 4) (nI 11))) ^^^ (h_r (h_rd Hf Wf t 4) (nI 25)))) + (((h_rd Hf Wf t 4) &&& (h_rd Hf Wf t 5)) ^^^ (((h_rd Hf Wf t 4) ^^^ (-1)) &&& (h_rd Hf Wf t 6)))) + (k_K t)) + (Wf t)))), (6, .int (h_rd Hf Wf t 4)), (7, .int (h_rd Hf Wf t 5)), (8, .int (h_rd Hf Wf t 6)), (13, .int ((((h_r (h_rd Hf Wf t 0) (nI 2)) ^^^ (h_r (h_rd Hf Wf t 0) (nI 13))) ^^^ (h_r (h_rd Hf Wf t 0) (nI 22))) + ((((h_rd Hf Wf t 0) &&& (h_rd Hf Wf t 1)) ^^^ ((h_rd Hf Wf t 0) &&& (h_rd Hf Wf t 2))) ^^^ ((h_rd Hf Wf t 1) &&& (h_rd Hf Wf t 2))))), (12, .int (((((h_rd Hf Wf t 7) + (((h_r (h_rd Hf Wf t 4) (nI 6)) ^^^ (h_r (h_rd Hf Wf t 4) (nI 11))) ^^^ (h_r (h_rd Hf Wf t 4) (nI 25)))) + (((h_rd Hf Wf t 4) &&& (h_rd Hf Wf t 5)) ^^^ (((h_rd Hf Wf t 4) ^^^ (-1)) &&& (h_rd Hf Wf t 6)))) + (k_K t)) + (Wf t))), (11, .int (((h_r (h_rd Hf Wf t 0) (nI 2)) ^^^ (h_r (h_rd Hf Wf t 0) (nI 13))) ^^^ (h_r (h_rd Hf Wf t 0) (nI 22)))), (10, .int (((h_r (h_rd Hf Wf t 4) (nI 6)) ^^^ (h_r (h_rd Hf Wf t 4) (nI 11))) ^^^ (h_r (h_rd Hf Wf t 4) (nI 25)))), (9, .int (nI t)), (1, .int (h_rd Hf Wf t 0)), (0, .ref h0)]) E.1 E.2.1 d_Dg_mixWords_196 rfl hl (by decide) rfl (fun ls hl => ?_)
        refine lv_iload E.1 E.2.1 d_Dg_mixWords_197 (lv_at hl 8 rfl) ?_
        refine lv_iload E.1 E.2.1 d_Dg_mixWords_199 (lv_at hl 7 rfl) ?_
        refine lv_iadd E.1 E.2.1 d_Dg_mixWords_201 ?_
        refine lv_istore_n (lv' := [(1, .int ((((((h_rd Hf Wf t 7) + (((h_r (h_rd Hf Wf t 4) (nI 6)) ^^^ (h_r (h_rd Hf Wf t 4) (nI 11))) ^^^ (h_r (h_rd Hf Wf t 4) (nI 25)))) + (((h_rd Hf Wf t 4) &&& (h_rd Hf Wf t 5)) ^^^ (((h_rd Hf Wf t 4) ^^^ (-1)) &&& (h_rd Hf Wf t 6)))) + (k_K t)) + (Wf t)) + ((((h_r (h_rd Hf Wf t 0) (nI 2)) ^^^ (h_r (h_rd Hf Wf t 0) (nI 13))) ^^^ (h_r (h_rd Hf Wf t 0) (nI 22))) + ((((h_rd Hf Wf t 0) &&& (h_rd Hf Wf t 1)) ^^^ ((h_rd Hf Wf t 0) &&& (h_rd Hf Wf t 2))) ^^^ ((h_rd Hf Wf t 1) &&& (h_rd Hf Wf t 2)))))), (2, .int (h_rd Hf Wf t 0)), (3, .int (h_rd Hf Wf t 1)), (4, .int (h_rd Hf Wf t 2)), (5, .int ((h_rd Hf Wf t 3) + (((((h_rd Hf Wf t 7) + (((h_r (h_rd Hf Wf t 4) (nI 6)) ^^^ (h_r (h_rd Hf Wf t 4) (nI 11))) ^^^ (h_r (h_rd Hf Wf t 4) (nI 25)))) + (((h_rd Hf Wf t 4) &&& (h_rd Hf Wf t 5)) ^^^ (((h_rd Hf Wf t 4) ^^^ (-1)) &&& (h_rd Hf Wf t 6)))) + (k_K t)) + (Wf t)))), (6, .int (h_rd Hf Wf t 4)), (7, .int (h_rd Hf Wf t 5)), (8, .int (h_rd Hf Wf t 6)), (13, .int ((((h_r (h_rd Hf Wf t 0) (nI 2)) ^^^ (h_r (h_rd Hf Wf t 0) (nI 13))) ^^^ (h_r (h_rd Hf Wf t 0) (nI 22))) + ((((h_rd Hf Wf t 0) &&& (h_rd Hf Wf t 1)) ^^^ ((h_rd Hf Wf t 0) &&& (h_rd Hf Wf t 2))) ^^^ ((h_rd Hf Wf t 1) &&& (h_rd Hf Wf t 2))))), (12, .int (((((h_rd Hf Wf t 7) + (((h_r (h_rd Hf Wf t 4) (nI 6)) ^^^ (h_r (h_rd Hf Wf t 4) (nI 11))) ^^^ (h_r (h_rd Hf Wf t 4) (nI 25)))) + (((h_rd Hf Wf t 4) &&& (h_rd Hf Wf t 5)) ^^^ (((h_rd Hf Wf t 4) ^^^ (-1)) &&& (h_rd Hf Wf t 6)))) + (k_K t)) + (Wf t))), (11, .int (((h_r (h_rd Hf Wf t 0) (nI 2)) ^^^ (h_r (h_rd Hf Wf t 0) (nI 13))) ^^^ (h_r (h_rd Hf Wf t 0) (nI 22)))), (10, .int (((h_r (h_rd Hf Wf t 4) (nI 6)) ^^^ (h_r (h_rd Hf Wf t 4) (nI 11))) ^^^ (h_r (h_rd Hf Wf t 4) (nI 25)))), (9, .int (nI t)), (0, .ref h0)]) E.1 E.2.1 d_Dg_mixWords_202 rfl hl (by decide) rfl (fun ls hl => ?_)
        refine x_inc E 1 (lv' := [(9, .int (nI (t + 1))), (1, .int ((((((h_rd Hf Wf t 7) + (((h_r (h_rd Hf Wf t 4) (nI 6)) ^^^ (h_r (h_rd Hf Wf t 4) (nI 11))) ^^^ (h_r (h_rd Hf Wf t 4) (nI 25)))) + (((h_rd Hf Wf t 4) &&& (h_rd Hf Wf t 5)) ^^^ (((h_rd Hf Wf t 4) ^^^ (-1)) &&& (h_rd Hf Wf t 6)))) + (k_K t)) + (Wf t)) + ((((h_r (h_rd Hf Wf t 0) (nI 2)) ^^^ (h_r (h_rd Hf Wf t 0) (nI 13))) ^^^ (h_r (h_rd Hf Wf t 0) (nI 22))) + ((((h_rd Hf Wf t 0) &&& (h_rd Hf Wf t 1)) ^^^ ((h_rd Hf Wf t 0) &&& (h_rd Hf Wf t 2))) ^^^ ((h_rd Hf Wf t 1) &&& (h_rd Hf Wf t 2)))))), (2, .int (h_rd Hf Wf t 0)), (3, .int (h_rd Hf Wf t 1)), (4, .int (h_rd Hf Wf t 2)), (5, .int ((h_rd Hf Wf t 3) + (((((h_rd Hf Wf t 7) + (((h_r (h_rd Hf Wf t 4) (nI 6)) ^^^ (h_r (h_rd Hf Wf t 4) (nI 11))) ^^^ (h_r (h_rd Hf Wf t 4) (nI 25)))) + (((h_rd Hf Wf t 4) &&& (h_rd Hf Wf t 5)) ^^^ (((h_rd Hf Wf t 4) ^^^ (-1)) &&& (h_rd Hf Wf t 6)))) + (k_K t)) + (Wf t)))), (6, .int (h_rd Hf Wf t 4)), (7, .int (h_rd Hf Wf t 5)), (8, .int (h_rd Hf Wf t 6)), (13, .int ((((h_r (h_rd Hf Wf t 0) (nI 2)) ^^^ (h_r (h_rd Hf Wf t 0) (nI 13))) ^^^ (h_r (h_rd Hf Wf t 0) (nI 22))) + ((((h_rd Hf Wf t 0) &&& (h_rd Hf Wf t 1)) ^^^ ((h_rd Hf Wf t 0) &&& (h_rd Hf Wf t 2))) ^^^ ((h_rd Hf Wf t 1) &&& (h_rd Hf Wf t 2))))), (12, .int (((((h_rd Hf Wf t 7) + (((h_r (h_rd Hf Wf t 4) (nI 6)) ^^^ (h_r (h_rd Hf Wf t 4) (nI 11))) ^^^ (h_r (h_rd Hf Wf t 4) (nI 25)))) + (((h_rd Hf Wf t 4) &&& (h_rd Hf Wf t 5)) ^^^ (((h_rd Hf Wf t 4) ^^^ (-1)) &&& (h_rd Hf Wf t 6)))) + (k_K t)) + (Wf t))), (11, .int (((h_r (h_rd Hf Wf t 0) (nI 2)) ^^^ (h_r (h_rd Hf Wf t 0) (nI 13))) ^^^ (h_r (h_rd Hf Wf t 0) (nI 22)))), (10, .int (((h_r (h_rd Hf Wf t 4) (nI 6)) ^^^ (h_r (h_rd Hf Wf t 4) (nI 11))) ^^^ (h_r (h_rd Hf Wf t 4) (nI 25)))), (0, .ref h0)]) d_Dg_mixWords_203 hl (k := 12) rfl rfl (by decide) rfl (fun ls hl => ?_)
        refine lv_goto (tgt := 66) E.1 E.2.1 d_Dg_mixWords_206 (by decide) ?_
        exact ih66  (t + 1) (by omega) (by omega) _ _ _ B (lv_sub hl [0, 1, 2, 3, 4, 5, 6, 7, 8, 13] rfl)
  exact hL66 (65) 0 (by omega) (by omega) _ _ _ B (lv_sub hl [0, 8, 7, 6, 5, 4, 3, 2, 1, 9] rfl)
set_option maxHeartbeats 4000000 in
set_option maxRecDepth 100000 in
theorem q_Dg_handOut (G : xG) (l : Launch) (h0 q1 q2 q3 : Nat) (iq ni at_ : Nat) (Hf : Nat → Int32) (gi : Nat → Nat) (ha : at_ + 32 ≤ ni) (hni : ni < 100000) : xMv G l y_Dg_handOut c_Dg_handOut 4 ({ frames := 0, cells := 0, slots := 0, locals := 0 }) [.ref h0, .ref iq, .int (nI at_)] [] [(h0, .inr (1, [.ref q1, .ref q2, .ref q3])), (q1, x_I G 8 Hf), (iq, x_N G ni gi)] Unit (fun _ => True) (fun u => [(h0, .inr (1, [.ref q1, .ref q2, .ref q3])), (q1, x_I G 8 Hf), (iq, x_N G ni (va_cpy (h_by Hf) gi 0 at_ 32))]) 0 0 := by
  refine xMv.by r_Dg (by decide +kernel) (Nat.le_of_ble_eq_true rfl) rfl ?_
  intro p e s m args below meth c A ls Q E hin B hro hl hret
  have hl : lv_has ls 4 [(0, .ref h0), (1, .ref iq), (2, .int (nI at_))] := hl
  refine lv_iconst (v := nI 0) E.1 E.2.1 d_Dg_handOut_0 (by decide) ?_
  refine lv_istore_n (lv' := [(3, .int (nI 0)), (0, .ref h0), (1, .ref iq), (2, .int (nI at_))]) E.1 E.2.1 d_Dg_handOut_1 rfl hl (by decide) rfl (fun ls hl => ?_)
  have hL2 : ∀ (kf : Nat) (i : Nat), 32 - i < kf → (i ≤ 32) → ∀ (H : Heap) (locs : List Loc) (ls : Array Slot), xB G A s H locs ([(h0, .inr (1, [.ref q1, .ref q2, .ref q3])), (q1, x_I G 8 Hf), (iq, x_N G ni (va_cpy (h_by Hf) gi 0 at_ i))]) → lv_has ls 4 [(3, .int (nI i)), (0, .ref h0), (1, .ref iq), (2, .int (nI at_))] → W p l e ({ frames := 0, cells := 0, slots := 0, locals := 0 }) s m args below meth c H locs 0 0 Q (F0 m 2 ls []) := by
    intro k2
    induction k2 with
    | zero =>
      intro i hk
      exact absurd hk (Nat.not_lt_zero _)
    | succ k2 ih2 =>
      intro i hk2 hi H locs ls B hl
      refine lv_iload_n E.1 E.2.1 d_Dg_handOut_2 rfl (lv_at hl 0 rfl) ?_
      refine lv_bipush (v := nI 32) E.1 E.2.1 d_Dg_handOut_3 (by decide) ?_
      refine x_ge (tgt := 41) E d_Dg_handOut_5 (by decide) (by omega) (by omega) (fun c1 => ?_) (fun c1 => ?_)
      · obtain rfl : i = 32 := by omega
        exact hret () _ _ _ _ B trivial d_Dg_handOut_41
      · refine lv_aload_n E.1 E.2.1 d_Dg_handOut_8 rfl (lv_at hl 2 rfl) ?_
        refine lv_iload_n E.1 E.2.1 d_Dg_handOut_9 rfl (lv_at hl 3 rfl) ?_
        refine lv_iload_n E.1 E.2.1 d_Dg_handOut_10 rfl (lv_at hl 0 rfl) ?_
        refine x_iadd E d_Dg_handOut_11 ?_
        refine lv_aload_n E.1 E.2.1 d_Dg_handOut_12 rfl (lv_at hl 1 rfl) ?_
        refine x_get E B 0 rfl k_Dg 0 (by decide) wd_83 rfl d_Dg_handOut_13 ?_
        refine lv_iload_n E.1 E.2.1 d_Dg_handOut_16 rfl (lv_at hl 0 rfl) ?_
        refine lv_iconst (v := nI 4) E.1 E.2.1 d_Dg_handOut_17 (by decide) ?_
        refine x_idiv E d_Dg_handOut_18 (by omega) (by decide) (by decide) ?_
        refine x_ald E B 1 rfl (i := i / 4) (by omega) (by decide) d_Dg_handOut_19 ?_
        refine lv_bipush (v := nI 24) E.1 E.2.1 d_Dg_handOut_20 (by decide) ?_
        refine lv_bipush (v := nI 8) E.1 E.2.1 d_Dg_handOut_22 (by decide) ?_
        refine lv_iload_n E.1 E.2.1 d_Dg_handOut_24 rfl (lv_at hl 0 rfl) ?_
        refine lv_iconst (v := nI 4) E.1 E.2.1 d_Dg_handOut_25 (by decide) ?_
        refine x_irem E d_Dg_handOut_26 (by omega) (by decide) (by decide) ?_
        refine x_imul E d_Dg_handOut_27 ?_
        refine x_isub E d_Dg_handOut_28 (by omega) ?_
        refine lv_iushr (v := b_us (Hf (i / 4)) (nI (24 - (8 * (i % 4))))) E.1 E.2.1 d_Dg_handOut_29 rfl ?_
        refine lv_sipush (v := nI 255) E.1 E.2.1 d_Dg_handOut_30 (by decide) ?_
        refine lv_iand E.1 E.2.1 d_Dg_handOut_33 ?_
        refine x_top (v' := nI (h_by Hf i)) (h_byE _ (by omega)) ?_
        refine x_astN E B 2 rfl (i := at_ + i) (v := h_by Hf i) (by omega) (by omega) d_Dg_handOut_34 (fun H locs B => ?_)
        have B : xB G A s _ _ ([(h0, .inr (1, [.ref q1, .ref q2, .ref q3])), (q1, x_I G 8 Hf), (iq, x_N G ni (va_up (va_cpy (h_by Hf) gi 0 at_ i) (at_ + i) (h_by Hf i)))]) := B
        have B := B.fn 2 rfl (nA (va_cpy (h_by Hf) gi 0 at_ (i + 1))) (cp_s rfl)
        have B : xB G A s _ _ ([(h0, .inr (1, [.ref q1, .ref q2, .ref q3])), (q1, x_I G 8 Hf), (iq, x_N G ni (va_cpy (h_by Hf) gi 0 at_ (i + 1)))]) := B
        refine x_inc E 1 (lv' := [(3, .int (nI (i + 1))), (0, .ref h0), (1, .ref iq), (2, .int (nI at_))]) d_Dg_handOut_35 hl (k := 0) rfl rfl (by decide) rfl (fun ls hl => ?_)
        refine lv_goto (tgt := 2) E.1 E.2.1 d_Dg_handOut_38 (by decide) ?_
        exact ih2  (i + 1) (by omega) (by omega) _ _ _ B (lv_sub hl [0, 1, 2, 3] rfl)
  have B := B.fn 2 rfl (nA (va_cpy (h_by Hf) gi 0 at_ 0)) (cp_z)
  have B : xB G A s _ _ ([(h0, .inr (1, [.ref q1, .ref q2, .ref q3])), (q1, x_I G 8 Hf), (iq, x_N G ni (va_cpy (h_by Hf) gi 0 at_ 0))]) := B
  exact hL2 (33) 0 (by omega) (by omega) _ _ _ B (lv_sub hl [0, 1, 2, 3] rfl)
set_option maxHeartbeats 4000000 in
set_option maxRecDepth 100000 in
theorem q_Dg_digest (G : xG) (l : Launch) (h0 q1 q2 q3 : Nat) (rq rn cnt : Nat) (f : Nat → Nat) (Hf w0 : Nat → Int32) (hc : cnt ≤ rn) (hn : rn < 100000) (hf : ∀ j, j < cnt → f j < 256) : xMv G l y_Dg_digest c_Dg_digest 5 ({ frames := 2, cells := 0, slots := 0, locals := 60 }) [.ref h0, .ref rq, .int (nI cnt)] [(rq, rn, nA f)] [(h0, .inr (1, [.ref q1, .ref q2, .ref q3])), (q1, x_I G 8 Hf), (q2, x_I G 64 w0)] Unit (fun _ => True) (fun u => [(h0, .inr (1, [.ref q1, .ref q2, .ref q3])), (q1, x_I G 8 (h_hs (h_P f cnt) ((cnt + 8) / 64 + 1))), (q2, x_I G 64 (h_ww w0 (h_P f cnt) ((cnt + 8) / 64 + 1)))]) 0 0 := by
  refine xMv.by r_Dg (by decide +kernel) (Nat.le_of_ble_eq_true rfl) rfl ?_
  intro p e s m args below meth c A ls Q E hin B hro hl hret
  have hl : lv_has ls 5 [(0, .ref h0), (1, .ref rq), (2, .int (nI cnt))] := hl
  have hR0 : x_R A s s.heap rq rn (nA f) := hro _ (List.mem_of_getElem? (i := 0) rfl)
  have ht : h_tot cnt = ((cnt + 8) / 64 + 1) * 64 := rfl
  refine x_gets E B B.2.2.2.2.1.2.1.1 wd_81 d_Dg_digest_0 ?_
  refine lv_iconst (v := nI 0) E.1 E.2.1 d_Dg_digest_3 (by decide) ?_
  refine lv_aload_n E.1 E.2.1 d_Dg_digest_4 rfl (lv_at hl 0 rfl) ?_
  refine x_get E B 0 rfl k_Dg 0 (by decide) wd_83 rfl d_Dg_digest_5 ?_
  refine lv_iconst (v := nI 0) E.1 E.2.1 d_Dg_digest_8 (by decide) ?_
  refine x_gets E B B.2.2.2.2.1.2.1.1 wd_81 d_Dg_digest_9 ?_
  refine x_tlen E B B.2.2.2.2.1.2.1.2 d_Dg_digest_12 ?_
  refine x_cpt E B wd_250 wd_217 wd_216 wd_41 B.2.2.2.2.1.2.1.2 1 (sp := 0) (dp := 0) (n := 8) rfl (by omega) (by omega) (by decide) (by decide) hl.1 (Nat.le_of_ble_eq_true rfl) (Nat.le_of_ble_eq_true rfl) d_Dg_digest_13 (fun H locs B => ?_)
  have B : xB G A s _ _ ([(h0, .inr (1, [.ref q1, .ref q2, .ref q3])), (q1, x_I G 8 (va_cpy k_H Hf 0 0 8)), (q2, x_I G 64 w0)]) := B
  have B := B.fn 1 rfl k_H (cp_0i)
  have B : xB G A s _ _ ([(h0, .inr (1, [.ref q1, .ref q2, .ref q3])), (q1, x_I G 8 k_H), (q2, x_I G 64 w0)]) := B
  refine lv_iload_n E.1 E.2.1 d_Dg_digest_16 rfl (lv_at hl 2 rfl) ?_
  refine lv_bipush (v := nI 8) E.1 E.2.1 d_Dg_digest_17 (by decide) ?_
  refine x_iadd E d_Dg_digest_19 ?_
  refine lv_bipush (v := nI 64) E.1 E.2.1 d_Dg_digest_20 (by decide) ?_
  refine x_idiv E d_Dg_digest_22 (by omega) (by decide) (by decide) ?_
  refine lv_iconst (v := nI 1) E.1 E.2.1 d_Dg_digest_23 (by decide) ?_
  refine x_iadd E d_Dg_digest_24 ?_
  refine lv_bipush (v := nI 64) E.1 E.2.1 d_Dg_digest_25 (by decide) ?_
  refine x_imul E d_Dg_digest_27 ?_
  refine x_top (show nI ((((cnt + 8) / 64) + 1) * 64) = nI (h_tot cnt) from congrArg nI (by exact rfl)) ?_
  refine lv_istore_n (lv' := [(3, .int (nI (h_tot cnt))), (0, .ref h0), (1, .ref rq), (2, .int (nI cnt))]) E.1 E.2.1 d_Dg_digest_28 rfl hl (by decide) rfl (fun ls hl => ?_)
  refine lv_iconst (v := nI 0) E.1 E.2.1 d_Dg_digest_29 (by decide) ?_
  refine lv_istore (lv' := [(4, .int (nI 0)), (3, .int (nI (h_tot cnt))), (0, .ref h0), (1, .ref rq), (2, .int (nI cnt))]) E.1 E.2.1 d_Dg_digest_30 hl (by decide) rfl (fun ls hl => ?_)
  have hL32 : ∀ (kf : Nat) (b : Nat), (cnt + 8) / 64 + 1 - b < kf → (b ≤ (cnt + 8) / 64 + 1) → ∀ (H : Heap) (locs : List Loc) (ls : Array Slot), xB G A s H locs ([(h0, .inr (1, [.ref q1, .ref q2, .ref q3])), (q1, x_I G 8 (h_hs (h_P f cnt) b)), (q2, x_I G 64 (h_ww w0 (h_P f cnt) b))]) → lv_has ls 5 [(4, .int (nI (64 * b))), (3, .int (nI (h_tot cnt))), (0, .ref h0), (1, .ref rq), (2, .int (nI cnt))] → W p l e ({ frames := 2, cells := 0, slots := 0, locals := 60 }) s m args below meth c H locs 0 0 Q (F0 m 32 ls []) := by
    intro k32
    induction k32 with
    | zero =>
      intro b hk
      exact absurd hk (Nat.not_lt_zero _)
    | succ k32 ih32 =>
      intro b hk32 hi H locs ls B hl
      refine lv_iload E.1 E.2.1 d_Dg_digest_32 (lv_at hl 0 rfl) ?_
      refine lv_iload_n E.1 E.2.1 d_Dg_digest_34 rfl (lv_at hl 1 rfl) ?_
      refine x_ge (tgt := 61) E d_Dg_digest_35 (by decide) (by omega) (by omega) (fun c1 => ?_) (fun c1 => ?_)
      · obtain rfl : b = (cnt + 8) / 64 + 1 := by omega
        exact hret () _ _ _ _ B trivial d_Dg_digest_61
      · refine lv_aload_n E.1 E.2.1 d_Dg_digest_38 rfl (lv_at hl 2 rfl) ?_
        refine lv_aload_n E.1 E.2.1 d_Dg_digest_39 rfl (lv_at hl 3 rfl) ?_
        refine lv_iload_n E.1 E.2.1 d_Dg_digest_40 rfl (lv_at hl 4 rfl) ?_
        refine lv_iload E.1 E.2.1 d_Dg_digest_41 (lv_at hl 0 rfl) ?_
        refine lv_iload_n E.1 E.2.1 d_Dg_digest_43 rfl (lv_at hl 1 rfl) ?_
        refine x_cv (ws' := (fun u => [(h0, .inr (1, [.ref q1, .ref q2, .ref q3])), (q1, x_I G 8 (h_hs (h_P f cnt) b)), (q2, x_I G 64 (mx 16 (h_w (h_P f cnt) (64 * b)) (h_ww w0 (h_P f cnt) b)))])) (wr := [(q1, x_I G 8 (h_hs (h_P f cnt) b))]) B (x_rV (rest := []) E B (q_Dg_takeWords G l h0 q1 q2 q3 rq rn cnt (64 * b) f (h_ww w0 (h_P f cnt) b) (hc) (hn) (by omega) (hf) _) (x_pre B [0, 2] rfl (by decide) (x_ro1 (x_ro_t B hR0 [0, 2] rfl))) 0 rfl k_Dg (gg_V wd_251 wd_253 wd_3 wd_37 wd_254) ⟨rfl, p_Dg_takeWords⟩ rfl rfl ⟨Nat.le_of_ble_eq_true rfl, Nat.le_of_ble_eq_true rfl⟩ rfl hl.1 rfl (Nat.le_of_ble_eq_true rfl) d_Dg_digest_44 ⟨Nat.le_of_ble_eq_true rfl, Nat.le_of_ble_eq_true rfl⟩) [0, 2] [1] [1, 0, 2] rfl rfl (by decide) (by decide) (by decide) (fun _ => rfl) (fun u44 H locs hw44 B => ?_)
        have B : xB G A s _ _ ([(h0, .inr (1, [.ref q1, .ref q2, .ref q3])), (q1, x_I G 8 (h_hs (h_P f cnt) b)), (q2, x_I G 64 (mx 16 (h_w (h_P f cnt) (64 * b)) (h_ww w0 (h_P f cnt) b)))]) := B
        refine lv_aload_n E.1 E.2.1 d_Dg_digest_47 rfl (lv_at hl 2 rfl) ?_
        refine x_cv (ws' := (fun u => [(h0, .inr (1, [.ref q1, .ref q2, .ref q3])), (q1, x_I G 8 (h_hs (h_P f cnt) b)), (q2, x_I G 64 (h_w (h_P f cnt) (64 * b)))])) (wr := [(q1, x_I G 8 (h_hs (h_P f cnt) b))]) B (x_rV (rest := []) E B (q_Dg_spreadWords G l h0 q1 q2 q3 (64 * b) (h_P f cnt) (h_ww w0 (h_P f cnt) b)  _) (x_pre B [0, 2] rfl (by decide) x_ro0) 0 rfl k_Dg (gg_V wd_259 wd_261 wd_4 wd_37 wd_262) ⟨rfl, p_Dg_spreadWords⟩ rfl rfl ⟨Nat.le_of_ble_eq_true rfl, Nat.le_of_ble_eq_true rfl⟩ rfl hl.1 rfl (Nat.le_of_ble_eq_true rfl) d_Dg_digest_48 ⟨Nat.le_of_ble_eq_true rfl, Nat.le_of_ble_eq_true rfl⟩) [0, 2] [1] [1, 0, 2] rfl rfl (by decide) (by decide) (by decide) (fun _ => rfl) (fun u48 H locs hw48 B => ?_)
        have B : xB G A s _ _ ([(h0, .inr (1, [.ref q1, .ref q2, .ref q3])), (q1, x_I G 8 (h_hs (h_P f cnt) b)), (q2, x_I G 64 (h_w (h_P f cnt) (64 * b)))]) := B
        refine lv_aload_n E.1 E.2.1 d_Dg_digest_51 rfl (lv_at hl 2 rfl) ?_
        refine x_cv (ws' := (fun u => [(h0, .inr (1, [.ref q1, .ref q2, .ref q3])), (q1, x_I G 8 (h_cp (h_hs (h_P f cnt) b) (h_w (h_P f cnt) (64 * b)))), (q2, x_I G 64 (h_w (h_P f cnt) (64 * b)))])) (wr := []) B (x_rV (rest := []) E B (q_Dg_mixWords G l h0 q1 q2 q3 (h_hs (h_P f cnt) b) (h_w (h_P f cnt) (64 * b))  _) (x_pre B [0, 1, 2] rfl (by decide) x_ro0) 0 rfl k_Dg (gg_V wd_266 wd_268 wd_5 wd_37 wd_269) ⟨rfl, p_Dg_mixWords⟩ rfl rfl ⟨Nat.le_of_ble_eq_true rfl, Nat.le_of_ble_eq_true rfl⟩ rfl hl.1 rfl (Nat.le_of_ble_eq_true rfl) d_Dg_digest_52 ⟨Nat.le_of_ble_eq_true rfl, Nat.le_of_ble_eq_true rfl⟩) [0, 1, 2] [] [0, 1, 2] rfl rfl (by decide) (by decide) (by decide) (fun _ => rfl) (fun u52 H locs hw52 B => ?_)
        have B : xB G A s _ _ ([(h0, .inr (1, [.ref q1, .ref q2, .ref q3])), (q1, x_I G 8 (h_cp (h_hs (h_P f cnt) b) (h_w (h_P f cnt) (64 * b)))), (q2, x_I G 64 (h_w (h_P f cnt) (64 * b)))]) := B
        refine x_inc E 64 (lv' := [(4, .int (nI ((64 * b) + 64))), (3, .int (nI (h_tot cnt))), (0, .ref h0), (1, .ref rq), (2, .int (nI cnt))]) d_Dg_digest_55 hl (k := 0) rfl rfl (by decide) rfl (fun ls hl => ?_)
        refine lv_goto (tgt := 32) E.1 E.2.1 d_Dg_digest_58 (by decide) ?_
        exact ih32  (b + 1) (by omega) (by omega) _ _ _ B (lv_sub hl [0, 1, 2, 3, 4] rfl)
  exact hL32 ((cnt + 8) / 64 + 2) 0 (by omega) (by omega) _ _ _ B (lv_sub hl [0, 1, 2, 3, 4] rfl)
set_option maxHeartbeats 4000000 in
set_option maxRecDepth 100000 in
theorem q_Dg_twice (G : xG) (l : Launch) (h0 q1 q2 q3 : Nat) (rq rn cnt iq ni at_ : Nat) (f go gi : Nat → Nat) (Hf w0 : Nat → Int32) (hc : cnt ≤ rn) (hn : rn < 100000) (hf : ∀ j, j < cnt → f j < 256) (ha : at_ + 32 ≤ ni) (hni : ni < 100000) : xMv G l y_Dg_twice c_Dg_twice 5 ({ frames := 3, cells := 0, slots := 0, locals := 84 }) [.ref h0, .ref rq, .int (nI cnt), .ref iq, .int (nI at_)] [(rq, rn, nA f)] [(h0, .inr (1, [.ref q1, .ref q2, .ref q3])), (q1, x_I G 8 Hf), (q2, x_I G 64 w0), (q3, x_N G 32 go), (iq, x_N G ni gi)] ((Nat → Int32) × (Nat → Int32)) (fun _ => True) (fun u => [(h0, .inr (1, [.ref q1, .ref q2, .ref q3])), (q1, x_I G 8 u.1), (q2, x_I G 64 u.2), (q3, x_N G 32 (h_dg f cnt)), (iq, x_N G ni (va_cpy (h_tw f cnt) gi 0 at_ 32))]) 0 0 := by
  refine xMv.by r_Dg (by decide +kernel) (Nat.le_of_ble_eq_true rfl) rfl ?_
  intro p e s m args below meth c A ls Q E hin B hro hl hret
  have hl : lv_has ls 5 [(0, .ref h0), (1, .ref rq), (2, .int (nI cnt)), (3, .ref iq), (4, .int (nI at_))] := hl
  have hR0 : x_R A s s.heap rq rn (nA f) := hro _ (List.mem_of_getElem? (i := 0) rfl)
  refine lv_aload_n E.1 E.2.1 d_Dg_twice_0 rfl (lv_at hl 0 rfl) ?_
  refine lv_aload_n E.1 E.2.1 d_Dg_twice_1 rfl (lv_at hl 1 rfl) ?_
  refine lv_iload_n E.1 E.2.1 d_Dg_twice_2 rfl (lv_at hl 2 rfl) ?_
  refine x_cv (ws' := (fun u => [(h0, .inr (1, [.ref q1, .ref q2, .ref q3])), (q1, x_I G 8 (h_hs (h_P f cnt) ((cnt + 8) / 64 + 1))), (q2, x_I G 64 (h_ww w0 (h_P f cnt) ((cnt + 8) / 64 + 1))), (q3, x_N G 32 go), (iq, x_N G ni gi)])) (wr := [(q3, x_N G 32 go), (iq, x_N G ni gi)]) B (x_rV (rest := []) E B (q_Dg_digest G l h0 q1 q2 q3 rq rn cnt f Hf w0 (hc) (hn) (hf) _) (x_pre B [0, 1, 2] rfl (by decide) (x_ro1 (x_ro_t B hR0 [0, 1, 2] rfl))) 0 rfl k_Dg (gg_V wd_246 wd_248 wd_2 wd_37 wd_249) ⟨rfl, p_Dg_digest⟩ rfl rfl ⟨Nat.le_of_ble_eq_true rfl, Nat.le_of_ble_eq_true rfl⟩ rfl hl.1 rfl (Nat.le_of_ble_eq_true rfl) d_Dg_twice_3 ⟨Nat.le_of_ble_eq_true rfl, Nat.le_of_ble_eq_true rfl⟩) [0, 1, 2] [3, 4] [2, 3, 4, 0, 1] rfl rfl (by decide) (by decide) (by decide) (fun _ => rfl) (fun u3 H locs hw3 B => ?_)
  have B : xB G A s _ _ ([(h0, .inr (1, [.ref q1, .ref q2, .ref q3])), (q1, x_I G 8 (h_hs (h_P f cnt) ((cnt + 8) / 64 + 1))), (q2, x_I G 64 (h_ww w0 (h_P f cnt) ((cnt + 8) / 64 + 1))), (q3, x_N G 32 go), (iq, x_N G ni gi)]) := B
  refine lv_aload_n E.1 E.2.1 d_Dg_twice_6 rfl (lv_at hl 0 rfl) ?_
  refine lv_aload_n E.1 E.2.1 d_Dg_twice_7 rfl (lv_at hl 0 rfl) ?_
  refine x_get E B 0 rfl k_Dg 2 (by decide) wd_85 rfl d_Dg_twice_8 ?_
  refine lv_iconst (v := nI 0) E.1 E.2.1 d_Dg_twice_11 (by decide) ?_
  refine x_cv (ws' := (fun u => [(h0, .inr (1, [.ref q1, .ref q2, .ref q3])), (q1, x_I G 8 (h_hs (h_P f cnt) ((cnt + 8) / 64 + 1))), (q2, x_I G 64 (h_ww w0 (h_P f cnt) ((cnt + 8) / 64 + 1))), (q3, x_N G 32 (va_cpy (h_by (h_hs (h_P f cnt) ((cnt + 8) / 64 + 1))) go 0 0 32)), (iq, x_N G ni gi)])) (wr := [(q2, x_I G 64 (h_ww w0 (h_P f cnt) ((cnt + 8) / 64 + 1))), (iq, x_N G ni gi)]) B (x_rV (rest := []) E B (q_Dg_handOut G l h0 q1 q2 q3 q3 32 0 (h_hs (h_P f cnt) ((cnt + 8) / 64 + 1)) go (by omega) (by omega) _) (x_pre B [0, 1, 3] rfl (by decide) x_ro0) 0 rfl k_Dg (gg_V wd_272 wd_274 wd_6 wd_37 wd_275) ⟨rfl, p_Dg_handOut⟩ rfl rfl ⟨Nat.le_of_ble_eq_true rfl, Nat.le_of_ble_eq_true rfl⟩ rfl hl.1 rfl (Nat.le_of_ble_eq_true rfl) d_Dg_twice_12 ⟨Nat.le_of_ble_eq_true rfl, Nat.le_of_ble_eq_true rfl⟩) [0, 1, 3] [2, 4] [2, 3, 0, 4, 1] rfl rfl (by decide) (by decide) (by decide) (fun _ => rfl) (fun u12 H locs hw12 B => ?_)
  have B : xB G A s _ _ ([(h0, .inr (1, [.ref q1, .ref q2, .ref q3])), (q1, x_I G 8 (h_hs (h_P f cnt) ((cnt + 8) / 64 + 1))), (q2, x_I G 64 (h_ww w0 (h_P f cnt) ((cnt + 8) / 64 + 1))), (q3, x_N G 32 (va_cpy (h_by (h_hs (h_P f cnt) ((cnt + 8) / 64 + 1))) go 0 0 32)), (iq, x_N G ni gi)]) := B
  have B := B.fn 3 rfl (nA (h_dg f cnt)) (cp_0)
  have B : xB G A s _ _ ([(h0, .inr (1, [.ref q1, .ref q2, .ref q3])), (q1, x_I G 8 (h_hs (h_P f cnt) ((cnt + 8) / 64 + 1))), (q2, x_I G 64 (h_ww w0 (h_P f cnt) ((cnt + 8) / 64 + 1))), (q3, x_N G 32 (h_dg f cnt)), (iq, x_N G ni gi)]) := B
  refine lv_aload_n E.1 E.2.1 d_Dg_twice_15 rfl (lv_at hl 0 rfl) ?_
  refine lv_aload_n E.1 E.2.1 d_Dg_twice_16 rfl (lv_at hl 0 rfl) ?_
  refine x_get E B 0 rfl k_Dg 2 (by decide) wd_85 rfl d_Dg_twice_17 ?_
  refine lv_bipush (v := nI 32) E.1 E.2.1 d_Dg_twice_20 (by decide) ?_
  refine x_cv (ws' := (fun u => [(h0, .inr (1, [.ref q1, .ref q2, .ref q3])), (q1, x_I G 8 (h_hs (h_P (h_dg f cnt) 32) ((32 + 8) / 64 + 1))), (q2, x_I G 64 (h_ww (h_ww w0 (h_P f cnt) ((cnt + 8) / 64 + 1)) (h_P (h_dg f cnt) 32) ((32 + 8) / 64 + 1))), (q3, x_N G 32 (h_dg f cnt)), (iq, x_N G ni gi)])) (wr := [(q3, x_N G 32 (h_dg f cnt)), (iq, x_N G ni gi)]) B (x_rV (rest := []) E B (q_Dg_digest G l h0 q1 q2 q3 q3 32 32 (h_dg f cnt) (h_hs (h_P f cnt) ((cnt + 8) / 64 + 1)) (h_ww w0 (h_P f cnt) ((cnt + 8) / 64 + 1)) (by omega) (by omega) (fun j _ => h_dg_lt _ _ j) _) (x_pre B [0, 1, 2] rfl (by decide) (x_ro1 (x_ro_w B 3 rfl [0, 1, 2] rfl (by decide)))) 0 rfl k_Dg (gg_V wd_246 wd_248 wd_2 wd_37 wd_249) ⟨rfl, p_Dg_digest⟩ rfl rfl ⟨Nat.le_of_ble_eq_true rfl, Nat.le_of_ble_eq_true rfl⟩ rfl hl.1 rfl (Nat.le_of_ble_eq_true rfl) d_Dg_twice_22 ⟨Nat.le_of_ble_eq_true rfl, Nat.le_of_ble_eq_true rfl⟩) [0, 1, 2] [3, 4] [2, 3, 4, 0, 1] rfl rfl (by decide) (by decide) (by decide) (fun _ => rfl) (fun u22 H locs hw22 B => ?_)
  have B : xB G A s _ _ ([(h0, .inr (1, [.ref q1, .ref q2, .ref q3])), (q1, x_I G 8 (h_hs (h_P (h_dg f cnt) 32) ((32 + 8) / 64 + 1))), (q2, x_I G 64 (h_ww (h_ww w0 (h_P f cnt) ((cnt + 8) / 64 + 1)) (h_P (h_dg f cnt) 32) ((32 + 8) / 64 + 1))), (q3, x_N G 32 (h_dg f cnt)), (iq, x_N G ni gi)]) := B
  refine lv_aload_n E.1 E.2.1 d_Dg_twice_25 rfl (lv_at hl 0 rfl) ?_
  refine lv_aload_n E.1 E.2.1 d_Dg_twice_26 rfl (lv_at hl 3 rfl) ?_
  refine lv_iload E.1 E.2.1 d_Dg_twice_27 (lv_at hl 4 rfl) ?_
  refine x_cv (ws' := (fun u => [(h0, .inr (1, [.ref q1, .ref q2, .ref q3])), (q1, x_I G 8 (h_hs (h_P (h_dg f cnt) 32) ((32 + 8) / 64 + 1))), (q2, x_I G 64 (h_ww (h_ww w0 (h_P f cnt) ((cnt + 8) / 64 + 1)) (h_P (h_dg f cnt) 32) ((32 + 8) / 64 + 1))), (q3, x_N G 32 (h_dg f cnt)), (iq, x_N G ni (va_cpy (h_by (h_hs (h_P (h_dg f cnt) 32) ((32 + 8) / 64 + 1))) gi 0 at_ 32))])) (wr := [(q2, x_I G 64 (h_ww (h_ww w0 (h_P f cnt) ((cnt + 8) / 64 + 1)) (h_P (h_dg f cnt) 32) ((32 + 8) / 64 + 1))), (q3, x_N G 32 (h_dg f cnt))]) B (x_rV (rest := []) E B (q_Dg_handOut G l h0 q1 q2 q3 iq ni at_ (h_hs (h_P (h_dg f cnt) 32) ((32 + 8) / 64 + 1)) gi (by omega) (by omega) _) (x_pre B [0, 1, 4] rfl (by decide) x_ro0) 0 rfl k_Dg (gg_V wd_272 wd_274 wd_6 wd_37 wd_275) ⟨rfl, p_Dg_handOut⟩ rfl rfl ⟨Nat.le_of_ble_eq_true rfl, Nat.le_of_ble_eq_true rfl⟩ rfl hl.1 rfl (Nat.le_of_ble_eq_true rfl) d_Dg_twice_29 ⟨Nat.le_of_ble_eq_true rfl, Nat.le_of_ble_eq_true rfl⟩) [0, 1, 4] [2, 3] [2, 3, 0, 1, 4] rfl rfl (by decide) (by decide) (by decide) (fun _ => rfl) (fun u29 H locs hw29 B => ?_)
  have B : xB G A s _ _ ([(h0, .inr (1, [.ref q1, .ref q2, .ref q3])), (q1, x_I G 8 (h_hs (h_P (h_dg f cnt) 32) ((32 + 8) / 64 + 1))), (q2, x_I G 64 (h_ww (h_ww w0 (h_P f cnt) ((cnt + 8) / 64 + 1)) (h_P (h_dg f cnt) 32) ((32 + 8) / 64 + 1))), (q3, x_N G 32 (h_dg f cnt)), (iq, x_N G ni (va_cpy (h_by (h_hs (h_P (h_dg f cnt) 32) ((32 + 8) / 64 + 1))) gi 0 at_ 32))]) := B
  exact hret (_, _) _ _ _ _ B trivial d_Dg_twice_32
set_option maxHeartbeats 4000000 in
set_option maxRecDepth 100000 in
theorem q_Dg_new (G : xG) (l : Launch) (h0 : Nat)  : xMv G l y_Dg_new c_Dg_new 1 ({ frames := 1, cells := 3, slots := 104, locals := 20 }) [.ref h0] [] [(h0, .inr (1, [.null, .null, .null]))] (Nat × Nat × Nat) (fun _ => True) (fun u => [(h0, .inr (1, [.ref u.1, .ref u.2.1, .ref u.2.2])), (u.1, x_N G 8 (fun _ => 0)), (u.2.1, x_N G 64 (fun _ => 0)), (u.2.2, x_N G 32 (fun _ => 0))]) 3 104 := by
  refine xMv.by r_Dg (by decide +kernel) (Nat.le_of_ble_eq_true rfl) rfl ?_
  intro p e s m args below meth c A ls Q E hin B hro hl hret
  have hl : lv_has ls 1 [(0, .ref h0)] := hl
  refine lv_aload_n E.1 E.2.1 d_Dg_new_0 rfl (lv_at hl 0 rfl) ?_
  refine x_oi E wd_80 wd_49 wd_50 hl.1 d_Dg_new_1 (Nat.le_of_ble_eq_true rfl) (Nat.le_of_ble_eq_true rfl) ?_
  refine lv_aload_n E.1 E.2.1 d_Dg_new_4 rfl (lv_at hl 0 rfl) ?_
  refine x_gets E B B.2.2.2.2.1.2.1.1 wd_81 d_Dg_new_5 ?_
  refine x_tlen E B B.2.2.2.2.1.2.1.2 d_Dg_new_8 ?_
  refine x_newa E B wd_74 (n := 8) (by decide) (Nat.le_of_ble_eq_true rfl) (Nat.le_of_ble_eq_true rfl) d_Dg_new_9 (fun q1 H B => ?_)
  have B : xB G A s _ _ ([(h0, .inr (1, [.null, .null, .null])), (q1, x_N G 8 (fun _ => 0))]) := B
  refine x_putF E hin B 0 rfl k_Dg 0 (by decide) wd_83 rfl rfl rfl rfl (Nat.le_of_ble_eq_true rfl) d_Dg_new_11 (fun H locs B => ?_)
  have B : xB G A s _ _ ([(h0, .inr (1, [.ref q1, .null, .null])), (q1, x_N G 8 (fun _ => 0))]) := B
  refine lv_aload_n E.1 E.2.1 d_Dg_new_14 rfl (lv_at hl 0 rfl) ?_
  refine lv_bipush (v := nI 64) E.1 E.2.1 d_Dg_new_15 (by decide) ?_
  refine x_newa E B wd_74 (n := 64) (by decide) (Nat.le_of_ble_eq_true rfl) (Nat.le_of_ble_eq_true rfl) d_Dg_new_17 (fun q2 H B => ?_)
  have B : xB G A s _ _ ([(h0, .inr (1, [.ref q1, .null, .null])), (q1, x_N G 8 (fun _ => 0)), (q2, x_N G 64 (fun _ => 0))]) := B
  refine x_putF E hin B 0 rfl k_Dg 1 (by decide) wd_84 rfl rfl rfl rfl (Nat.le_of_ble_eq_true rfl) d_Dg_new_19 (fun H locs B => ?_)
  have B : xB G A s _ _ ([(h0, .inr (1, [.ref q1, .ref q2, .null])), (q1, x_N G 8 (fun _ => 0)), (q2, x_N G 64 (fun _ => 0))]) := B
  refine lv_aload_n E.1 E.2.1 d_Dg_new_22 rfl (lv_at hl 0 rfl) ?_
  refine lv_bipush (v := nI 32) E.1 E.2.1 d_Dg_new_23 (by decide) ?_
  refine x_newa E B wd_74 (n := 32) (by decide) (Nat.le_of_ble_eq_true rfl) (Nat.le_of_ble_eq_true rfl) d_Dg_new_25 (fun q3 H B => ?_)
  have B : xB G A s _ _ ([(h0, .inr (1, [.ref q1, .ref q2, .null])), (q1, x_N G 8 (fun _ => 0)), (q2, x_N G 64 (fun _ => 0)), (q3, x_N G 32 (fun _ => 0))]) := B
  refine x_putF E hin B 0 rfl k_Dg 2 (by decide) wd_85 rfl rfl rfl rfl (Nat.le_of_ble_eq_true rfl) d_Dg_new_27 (fun H locs B => ?_)
  have B : xB G A s _ _ ([(h0, .inr (1, [.ref q1, .ref q2, .ref q3])), (q1, x_N G 8 (fun _ => 0)), (q2, x_N G 64 (fun _ => 0)), (q3, x_N G 32 (fun _ => 0))]) := B
  exact hret (q1, q2, q3) _ _ _ _ B trivial d_Dg_new_30
