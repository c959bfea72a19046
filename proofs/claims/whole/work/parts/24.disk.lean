set_option maxHeartbeats 4000000 in
set_option maxRecDepth 100000 in
theorem q_Dk_new (G : xG) (l : Launch) (h0 : Nat)  : xMv G l y_Dk_new c_Dk_new 1 ({ frames := 1, cells := 1, slots := 129, locals := 20 }) [.ref h0] [] [(h0, .inr (2, [.null, .int (nI 0), .int (nI 0)]))] Nat (fun _ => True) (fun u => [(h0, .inr (2, [.ref u, .int (nI 0), .int (nI 0)])), (u, x_N G 129 (fun _ => 0))]) 1 129 := by
  refine xMv.by r_Dk (by decide +kernel) (Nat.le_of_ble_eq_true rfl) rfl ?_
  intro p e s m args below meth c A ls Q E hin B hro hl hret
  have hl : lv_has ls 1 [(0, .ref h0)] := hl
  refine lv_aload_n E.1 E.2.1 d_Dk_new_0 rfl (lv_at hl 0 rfl) ?_
  refine x_oi E wd_151 wd_49 wd_50 hl.1 d_Dk_new_1 (Nat.le_of_ble_eq_true rfl) (Nat.le_of_ble_eq_true rfl) ?_
  refine lv_aload_n E.1 E.2.1 d_Dk_new_4 rfl (lv_at hl 0 rfl) ?_
  refine lv_sipush (v := nI 129) E.1 E.2.1 d_Dk_new_5 (by decide) ?_
  refine x_newa E B wd_74 (n := 129) (by decide) (Nat.le_of_ble_eq_true rfl) (Nat.le_of_ble_eq_true rfl) d_Dk_new_8 (fun q1 H B => ?_)
  have B : xB G A s _ _ ([(h0, .inr (2, [.null, .int (nI 0), .int (nI 0)])), (q1, x_N G 129 (fun _ => 0))]) := B
  refine x_putF E hin B 0 rfl k_Dk 0 (by decide) wd_152 rfl rfl rfl rfl (Nat.le_of_ble_eq_true rfl) d_Dk_new_10 (fun H locs B => ?_)
  have B : xB G A s _ _ ([(h0, .inr (2, [.ref q1, .int (nI 0), .int (nI 0)])), (q1, x_N G 129 (fun _ => 0))]) := B
  refine lv_aload_n E.1 E.2.1 d_Dk_new_13 rfl (lv_at hl 0 rfl) ?_
  refine lv_iconst (v := nI 0) E.1 E.2.1 d_Dk_new_14 (by decide) ?_
  refine x_put E B 0 rfl k_Dk 1 (by decide) wd_154 rfl rfl rfl (Nat.le_of_ble_eq_true rfl) d_Dk_new_15 (fun H locs B => ?_)
  have B : xB G A s _ _ ([(h0, .inr (2, [.ref q1, .int (nI 0), .int (nI 0)])), (q1, x_N G 129 (fun _ => 0))]) := B
  refine lv_aload_n E.1 E.2.1 d_Dk_new_18 rfl (lv_at hl 0 rfl) ?_
  refine lv_iconst (v := nI 0) E.1 E.2.1 d_Dk_new_19 (by decide) ?_
  refine x_put E B 0 rfl k_Dk 2 (by decide) wd_156 rfl rfl rfl (Nat.le_of_ble_eq_true rfl) d_Dk_new_20 (fun H locs B => ?_)
  have B : xB G A s _ _ ([(h0, .inr (2, [.ref q1, .int (nI 0), .int (nI 0)])), (q1, x_N G 129 (fun _ => 0))]) := B
  exact hret q1 _ _ _ _ B trivial d_Dk_new_23
set_option maxHeartbeats 4000000 in
set_option maxRecDepth 100000 in
theorem q_Dk_tellCrash (G : xG) (l : Launch) (h0 bq : Nat) (wr tc x : Int32)  : xMv G l y_Dk_tellCrash c_Dk_tellCrash 2 ({ frames := 0, cells := 0, slots := 0, locals := 0 }) [.ref h0, .int x] [] [(h0, .inr (2, [.ref bq, .int wr, .int tc]))] Unit (fun _ => True) (fun u => [(h0, .inr (2, [.ref bq, .int wr, .int (d_tc x)]))]) 0 0 := by
  refine xMv.by r_Dk (by decide +kernel) (Nat.le_of_ble_eq_true rfl) rfl ?_
  intro p e s m args below meth c A ls Q E hin B hro hl hret
  have hl : lv_has ls 2 [(0, .ref h0), (1, .int x)] := hl
  refine lv_aload_n E.1 E.2.1 d_Dk_tellCrash_0 rfl (lv_at hl 0 rfl) ?_
  refine lv_iload_n E.1 E.2.1 d_Dk_tellCrash_1 rfl (lv_at hl 1 rfl) ?_
  refine lv_iconst (v := nI 1) E.1 E.2.1 d_Dk_tellCrash_2 (by decide) ?_
  refine lv_icmp_ge (tgt := 10) E.1 E.2.1 d_Dk_tellCrash_3 (by decide) (fun hc => ?_) (fun hc => ?_)
  · refine lv_iload_n E.1 E.2.1 d_Dk_tellCrash_10 rfl (lv_at hl 1 rfl) ?_
    refine x_top (v' := (d_tc x)) (by unfold d_tc; first | rw [if_pos hc] | rw [if_neg hc]) ?_
    refine x_put E B 0 rfl k_Dk 2 (by decide) wd_156 rfl rfl rfl (Nat.le_of_ble_eq_true rfl) d_Dk_tellCrash_11 (fun H locs B => ?_)
    have B : xB G A s _ _ ([(h0, .inr (2, [.ref bq, .int wr, .int (d_tc x)]))]) := B
    exact hret () _ _ _ _ B trivial d_Dk_tellCrash_14
  · refine lv_iconst (v := nI 0) E.1 E.2.1 d_Dk_tellCrash_6 (by decide) ?_
    refine lv_goto (tgt := 11) E.1 E.2.1 d_Dk_tellCrash_7 (by decide) ?_
    refine x_top (v' := (d_tc x)) (by unfold d_tc; first | rw [if_pos hc] | rw [if_neg hc]) ?_
    refine x_put E B 0 rfl k_Dk 2 (by decide) wd_156 rfl rfl rfl (Nat.le_of_ble_eq_true rfl) d_Dk_tellCrash_11 (fun H locs B => ?_)
    have B : xB G A s _ _ ([(h0, .inr (2, [.ref bq, .int wr, .int (d_tc x)]))]) := B
    exact hret () _ _ _ _ B trivial d_Dk_tellCrash_14
set_option maxHeartbeats 4000000 in
set_option maxRecDepth 100000 in
theorem q_Dk_seedPlace (G : xG) (l : Launch) (h0 bq : Nat) (wr tc : Int32) (dk : Nat → Nat) (hd : g_bt 129 dk) : xMr G l y_Dk_seedPlace c_Dk_seedPlace 1 .int ({ frames := 0, cells := 0, slots := 0, locals := 0 }) [.ref h0] [] [(h0, .inr (2, [.ref bq, .int wr, .int tc])), (bq, x_N G 129 dk)] (nI (d_pl dk)) := by
  refine xMr.by r_Dk (by decide +kernel) (Nat.le_of_ble_eq_true rfl) rfl ?_
  intro p e s m args below meth c A ls Q E B hro hl hret
  have hl : lv_has ls 1 [(0, .ref h0)] := hl
  have hd0 := hd 0 (by decide)
  refine lv_aload_n E.1 E.2.1 d_Dk_seedPlace_0 rfl (lv_at hl 0 rfl) ?_
  refine x_get E B 0 rfl k_Dk 0 (by decide) wd_152 rfl d_Dk_seedPlace_1 ?_
  refine lv_iconst (v := nI 0) E.1 E.2.1 d_Dk_seedPlace_4 (by decide) ?_
  refine x_aldN E B 1 rfl (i := 0) (by omega) (by decide) d_Dk_seedPlace_5 ?_
  by_cases h1 : dk 0 = 1
  · refine lv_lookup (tgt := 32) E.1 E.2.1 d_Dk_seedPlace_6 (by decide) (off := 26) (by rw [h1]; decide) (by decide) ?_
    refine lv_iconst (v := nI 1) E.1 E.2.1 d_Dk_seedPlace_32 (by decide) ?_
    exact hret _ _ _ (by unfold d_pl; rw [if_pos h1]) d_Dk_seedPlace_33
  · by_cases h2 : dk 0 = 2
    · refine lv_lookup (tgt := 34) E.1 E.2.1 d_Dk_seedPlace_6 (by decide) (off := 28) (by rw [h2]; decide) (by decide) ?_
      refine lv_bipush (v := nI 65) E.1 E.2.1 d_Dk_seedPlace_34 (by decide) ?_
      exact hret _ _ _ (by unfold d_pl; rw [if_neg h1, if_pos h2]) d_Dk_seedPlace_36
    · refine lv_lookup (tgt := 37) E.1 E.2.1 d_Dk_seedPlace_6 (by decide) (off := 31) (by rw [lv_osw (k := nI 1) (fun q => h1 ((nI_eq (by omega) (by decide)).mp q)) (by decide), lv_osw (k := nI 2) (fun q => h2 ((nI_eq (by omega) (by decide)).mp q)) (by decide)]; rfl) (by decide) ?_
      refine lv_iconst (v := nI 0) E.1 E.2.1 d_Dk_seedPlace_37 (by decide) ?_
      exact hret _ _ _ (by unfold d_pl; rw [if_neg h1, if_neg h2]) d_Dk_seedPlace_38
set_option maxHeartbeats 4000000 in
set_option maxRecDepth 100000 in
theorem q_Dk_write_n (G : xG) (l : Launch) (h0 bq : Nat) (wr tc : Int32) (i b : Nat) (dk : Nat → Nat) (ht : tc = nI 1) : xMi G l y_Dk_write c_Dk_write 3 .boolean ({ frames := 0, cells := 0, slots := 0, locals := 0 }) [.ref h0, .int (nI i), .int (nI b)] [] [(h0, .inr (2, [.ref bq, .int wr, .int tc])), (bq, x_N G 129 dk)] Unit (fun r _ => r = nI 0) (fun u => [(h0, .inr (2, [.ref bq, .int wr, .int (nI 0)])), (bq, x_N G 129 dk)]) 0 0 := by
  refine xMz.by r_Dk (by decide +kernel) (Nat.le_of_ble_eq_true rfl) rfl ?_
  intro p e s m args below meth c A ls Q E B hro hl hret
  have hl : lv_has ls 3 [(0, .ref h0), (1, .int (nI i)), (2, .int (nI b))] := hl
  refine lv_aload_n E.1 E.2.1 d_Dk_write_0 rfl (lv_at hl 0 rfl) ?_
  refine x_get E B 0 rfl k_Dk 2 (by decide) wd_156 rfl d_Dk_write_1 ?_
  refine lv_iconst (v := nI 1) E.1 E.2.1 d_Dk_write_4 (by decide) ?_
  refine lv_icmp_ne (tgt := 15) E.1 E.2.1 d_Dk_write_5 (by decide) (fun hc => ?_) (fun hc => ?_)
  · exfalso; exact hc ht
  · refine lv_aload_n E.1 E.2.1 d_Dk_write_8 rfl (lv_at hl 0 rfl) ?_
    refine lv_iconst (v := nI 0) E.1 E.2.1 d_Dk_write_9 (by decide) ?_
    refine x_put E B 0 rfl k_Dk 2 (by decide) wd_156 rfl rfl rfl (Nat.le_of_ble_eq_true rfl) d_Dk_write_10 (fun H locs B => ?_)
    have B : xB G A s _ _ ([(h0, .inr (2, [.ref bq, .int wr, .int (nI 0)])), (bq, x_N G 129 dk)]) := B
    refine lv_iconst (v := nI 0) E.1 E.2.1 d_Dk_write_13 (by decide) ?_
    exact hret _ () _ _ _ _ B (rfl) rfl d_Dk_write_14
set_option maxHeartbeats 4000000 in
set_option maxRecDepth 100000 in
theorem q_Dk_write_y (G : xG) (l : Launch) (h0 bq : Nat) (wr tc : Int32) (i b : Nat) (dk : Nat → Nat) (ht : ¬ tc = nI 1) (hi : i < 129) : xMi G l y_Dk_write c_Dk_write 3 .boolean ({ frames := 0, cells := 0, slots := 0, locals := 0 }) [.ref h0, .int (nI i), .int (nI b)] [] [(h0, .inr (2, [.ref bq, .int wr, .int tc])), (bq, x_N G 129 dk)] Unit (fun r _ => r = nI 1) (fun u => [(h0, .inr (2, [.ref bq, .int (wr + nI 1), .int (d_w1 tc)])), (bq, x_N G 129 (va_up dk i b))]) 0 0 := by
  refine xMz.by r_Dk (by decide +kernel) (Nat.le_of_ble_eq_true rfl) rfl ?_
  intro p e s m args below meth c A ls Q E B hro hl hret
  have hl : lv_has ls 3 [(0, .ref h0), (1, .int (nI i)), (2, .int (nI b))] := hl
  refine lv_aload_n E.1 E.2.1 d_Dk_write_0 rfl (lv_at hl 0 rfl) ?_
  refine x_get E B 0 rfl k_Dk 2 (by decide) wd_156 rfl d_Dk_write_1 ?_
  refine lv_iconst (v := nI 1) E.1 E.2.1 d_Dk_write_4 (by decide) ?_
  refine lv_icmp_ne (tgt := 15) E.1 E.2.1 d_Dk_write_5 (by decide) (fun hc => ?_) (fun hc => ?_)
  · refine lv_aload_n E.1 E.2.1 d_Dk_write_15 rfl (lv_at hl 0 rfl) ?_
    refine x_get E B 0 rfl k_Dk 2 (by decide) wd_156 rfl d_Dk_write_16 ?_
    refine lv_iconst (v := nI 1) E.1 E.2.1 d_Dk_write_19 (by decide) ?_
    refine lv_icmp_le (tgt := 33) E.1 E.2.1 d_Dk_write_20 (by decide) (fun hc2 => ?_) (fun hc2 => ?_)
    · have B := B.eq ([(h0, .inr (2, [.ref bq, .int wr, .int (d_w1 tc)])), (bq, x_N G 129 dk)]) (by first | rw [d_w1a hc2] | rw [d_w1b hc2])
      refine lv_aload_n E.1 E.2.1 d_Dk_write_33 rfl (lv_at hl 0 rfl) ?_
      refine x_get E B 0 rfl k_Dk 0 (by decide) wd_152 rfl d_Dk_write_34 ?_
      refine lv_iload_n E.1 E.2.1 d_Dk_write_37 rfl (lv_at hl 1 rfl) ?_
      refine lv_iload_n E.1 E.2.1 d_Dk_write_38 rfl (lv_at hl 2 rfl) ?_
      refine x_astN E B 1 rfl (i := i) (v := b) (by omega) (by decide) d_Dk_write_39 (fun H locs B => ?_)
      have B : xB G A s _ _ ([(h0, .inr (2, [.ref bq, .int wr, .int (d_w1 tc)])), (bq, x_N G 129 (va_up dk i b))]) := B
      refine lv_aload_n E.1 E.2.1 d_Dk_write_40 rfl (lv_at hl 0 rfl) ?_
      refine lv_dup E.1 E.2.1 d_Dk_write_41 rfl ?_
      refine x_get E B 0 rfl k_Dk 1 (by decide) wd_154 rfl d_Dk_write_42 ?_
      refine lv_iconst (v := nI 1) E.1 E.2.1 d_Dk_write_45 (by decide) ?_
      refine lv_iadd E.1 E.2.1 d_Dk_write_46 ?_
      refine x_put E B 0 rfl k_Dk 1 (by decide) wd_154 rfl rfl rfl (Nat.le_of_ble_eq_true rfl) d_Dk_write_47 (fun H locs B => ?_)
      have B : xB G A s _ _ ([(h0, .inr (2, [.ref bq, .int (wr + (nI 1)), .int (d_w1 tc)])), (bq, x_N G 129 (va_up dk i b))]) := B
      refine lv_iconst (v := nI 1) E.1 E.2.1 d_Dk_write_50 (by decide) ?_
      exact hret _ () _ _ _ _ B (rfl) rfl d_Dk_write_51
    · refine lv_aload_n E.1 E.2.1 d_Dk_write_23 rfl (lv_at hl 0 rfl) ?_
      refine lv_dup E.1 E.2.1 d_Dk_write_24 rfl ?_
      refine x_get E B 0 rfl k_Dk 2 (by decide) wd_156 rfl d_Dk_write_25 ?_
      refine lv_iconst (v := nI 1) E.1 E.2.1 d_Dk_write_28 (by decide) ?_
      refine lv_isub E.1 E.2.1 d_Dk_write_29 ?_
      refine x_put E B 0 rfl k_Dk 2 (by decide) wd_156 rfl rfl rfl (Nat.le_of_ble_eq_true rfl) d_Dk_write_30 (fun H locs B => ?_)
      have B : xB G A s _ _ ([(h0, .inr (2, [.ref bq, .int wr, .int (tc - (nI 1))])), (bq, x_N G 129 dk)]) := B
      have B := B.eq ([(h0, .inr (2, [.ref bq, .int wr, .int (d_w1 tc)])), (bq, x_N G 129 dk)]) (by first | rw [d_w1a hc2] | rw [d_w1b hc2])
      refine lv_aload_n E.1 E.2.1 d_Dk_write_33 rfl (lv_at hl 0 rfl) ?_
      refine x_get E B 0 rfl k_Dk 0 (by decide) wd_152 rfl d_Dk_write_34 ?_
      refine lv_iload_n E.1 E.2.1 d_Dk_write_37 rfl (lv_at hl 1 rfl) ?_
      refine lv_iload_n E.1 E.2.1 d_Dk_write_38 rfl (lv_at hl 2 rfl) ?_
      refine x_astN E B 1 rfl (i := i) (v := b) (by omega) (by decide) d_Dk_write_39 (fun H locs B => ?_)
      have B : xB G A s _ _ ([(h0, .inr (2, [.ref bq, .int wr, .int (d_w1 tc)])), (bq, x_N G 129 (va_up dk i b))]) := B
      refine lv_aload_n E.1 E.2.1 d_Dk_write_40 rfl (lv_at hl 0 rfl) ?_
      refine lv_dup E.1 E.2.1 d_Dk_write_41 rfl ?_
      refine x_get E B 0 rfl k_Dk 1 (by decide) wd_154 rfl d_Dk_write_42 ?_
      refine lv_iconst (v := nI 1) E.1 E.2.1 d_Dk_write_45 (by decide) ?_
      refine lv_iadd E.1 E.2.1 d_Dk_write_46 ?_
      refine x_put E B 0 rfl k_Dk 1 (by decide) wd_154 rfl rfl rfl (Nat.le_of_ble_eq_true rfl) d_Dk_write_47 (fun H locs B => ?_)
      have B : xB G A s _ _ ([(h0, .inr (2, [.ref bq, .int (wr + (nI 1)), .int (d_w1 tc)])), (bq, x_N G 129 (va_up dk i b))]) := B
      refine lv_iconst (v := nI 1) E.1 E.2.1 d_Dk_write_50 (by decide) ?_
      exact hret _ () _ _ _ _ B (rfl) rfl d_Dk_write_51
  · exfalso; exact ht hc
set_option maxHeartbeats 4000000 in
set_option maxRecDepth 100000 in
theorem q_Dk_store (G : xG) (l : Launch) (h0 bq : Nat) (sq : Nat) (wr tc : Int32) (dk sd : Nat → Nat) (hd : g_bt 129 dk) : xMi G l y_Dk_store c_Dk_store 5 .boolean ({ frames := 1, cells := 0, slots := 0, locals := 22 }) [.ref h0, .ref sq] [(sq, 64, nA sd)] [(h0, .inr (2, [.ref bq, .int wr, .int tc])), (bq, x_N G 129 dk)] Unit (fun r _ => r = nI (d_re tc)) (fun u => [(h0, .inr (2, [.ref bq, .int (wr + nI (d_n tc)), .int (d_te tc)])), (bq, x_N G 129 (d_dk dk sd (d_n tc)))]) 0 0 := by
  refine xMz.by r_Dk (by decide +kernel) (Nat.le_of_ble_eq_true rfl) rfl ?_
  intro p e s m args below meth c A ls Q E B hro hl hret
  have hl : lv_has ls 5 [(0, .ref h0), (1, .ref sq)] := hl
  have hR0 : x_R A s s.heap sq 64 (nA sd) := hro _ (List.mem_of_getElem? (i := 0) rfl)
  have hd0 := hd 0 (by decide)
  have hfr : d_fr dk ≤ 65 := by unfold d_fr; split <;> omega
  refine lv_aload_n E.1 E.2.1 d_Dk_store_0 rfl (lv_at hl 0 rfl) ?_
  refine x_get E B 0 rfl k_Dk 0 (by decide) wd_152 rfl d_Dk_store_1 ?_
  refine lv_iconst (v := nI 0) E.1 E.2.1 d_Dk_store_4 (by decide) ?_
  refine x_aldN E B 1 rfl (i := 0) (by omega) (by decide) d_Dk_store_5 ?_
  refine lv_iconst (v := nI 1) E.1 E.2.1 d_Dk_store_6 (by decide) ?_
  refine x_ne (tgt := 14) E d_Dk_store_7 (by decide) (by omega) (by omega) (fun hm => ?_) (fun hm => ?_)
  · refine lv_iconst (v := nI 0) E.1 E.2.1 d_Dk_store_14 (by decide) ?_
    refine lv_istore_n (lv' := [(2, .int (nI 0)), (0, .ref h0), (1, .ref sq)]) E.1 E.2.1 d_Dk_store_15 rfl hl (by decide) rfl (fun ls hl => ?_)
    refine lv_iload_n E.1 E.2.1 d_Dk_store_16 rfl (lv_at hl 0 rfl) ?_
    refine x_if0 (tgt := 25) E d_Dk_store_17 (by decide) (by omega) (fun hz => ?_) (fun hz => ?_)
    · refine lv_iconst (v := nI 1) E.1 E.2.1 d_Dk_store_25 (by decide) ?_
      refine x_top (v' := (nI (d_fr dk))) (by unfold d_fr; first | rw [if_pos hm] | rw [if_neg hm]) ?_
      refine lv_istore_n (lv' := [(3, .int (nI (d_fr dk))), (2, .int (nI 0)), (0, .ref h0), (1, .ref sq)]) E.1 E.2.1 d_Dk_store_26 rfl hl (by decide) rfl (fun ls hl => ?_)
      refine lv_iconst (v := nI 0) E.1 E.2.1 d_Dk_store_27 (by decide) ?_
      refine lv_istore (lv' := [(4, .int (nI 0)), (3, .int (nI (d_fr dk))), (2, .int (nI 0)), (0, .ref h0), (1, .ref sq)]) E.1 E.2.1 d_Dk_store_28 hl (by decide) rfl (fun ls hl => ?_)
      have hL30 : ∀ (kf : Nat) (i : Nat), 64 - i < kf → (i ≤ 64) → (d_nE tc i) → ∀ (H : Heap) (locs : List Loc) (ls : Array Slot), xB G A s H locs ([(h0, .inr (2, [.ref bq, .int (wr + nI i), .int (d_wk tc i)])), (bq, x_N G 129 (va_cpy sd dk 0 (d_fr dk) i))]) → lv_has ls 5 [(4, .int (nI i)), (3, .int (nI (d_fr dk))), (2, .int (nI 0)), (0, .ref h0), (1, .ref sq)] → W p l e ({ frames := 1, cells := 0, slots := 0, locals := 22 }) s m args below meth c H locs 0 0 Q (F0 m 30 ls []) := by
        intro k30
        induction k30 with
        | zero =>
          intro i hk
          exact absurd hk (Nat.not_lt_zero _)
        | succ k30 ih30 =>
          intro i hk30 hi hE H locs ls B hl
          refine lv_iload E.1 E.2.1 d_Dk_store_30 (lv_at hl 0 rfl) ?_
          refine lv_bipush (v := nI 64) E.1 E.2.1 d_Dk_store_32 (by decide) ?_
          refine x_ge (tgt := 60) E d_Dk_store_34 (by decide) (by omega) (by omega) (fun c3 => ?_) (fun c3 => ?_)
          · obtain rfl : i = 64 := by omega
            refine lv_aload_n E.1 E.2.1 d_Dk_store_60 rfl (lv_at hl 3 rfl) ?_
            refine lv_iconst (v := nI 0) E.1 E.2.1 d_Dk_store_61 (by decide) ?_
            refine lv_iload_n E.1 E.2.1 d_Dk_store_62 rfl (lv_at hl 2 rfl) ?_
            refine x_if0 (tgt := 70) E d_Dk_store_63 (by decide) (by omega) (fun hy => ?_) (fun hy => ?_)
            · refine lv_iconst (v := nI 1) E.1 E.2.1 d_Dk_store_70 (by decide) ?_
              by_cases hu : d_wk tc 64 = nI 1
              · refine x_top (v' := (nI (d_mk dk))) (by unfold d_mk; first | rw [if_pos hm] | rw [if_neg hm]) ?_
                refine x_ci (ws' := (fun u => [(h0, .inr (2, [.ref bq, .int (wr + nI 64), .int (nI 0)])), (bq, x_N G 129 (va_cpy sd dk 0 (d_fr dk) 64))])) (wr := []) B (x_rV (rest := []) E B (q_Dk_write_n G l h0 bq (wr + nI 64) (d_wk tc 64) 0 (d_mk dk) (va_cpy sd dk 0 (d_fr dk) 64) (hu) _) (x_pre B [0, 1] rfl (by decide) x_ro0) 0 rfl k_Dk (gg_V wd_342 wd_344 wd_14 wd_39 wd_345) ⟨rfl, p_Dk_write⟩ rfl rfl ⟨Nat.le_of_ble_eq_true rfl, Nat.le_of_ble_eq_true rfl⟩ rfl hl.1 rfl (Nat.le_of_ble_eq_true rfl) d_Dk_store_71 ⟨Nat.le_of_ble_eq_true rfl, Nat.le_of_ble_eq_true rfl⟩) [0, 1] [] [0, 1] rfl rfl (by decide) (by decide) (by decide) (fun _ => rfl) (fun r71 u71 H locs hw71 B => ?_)
                subst hw71
                have B : xB G A s _ _ ([(h0, .inr (2, [.ref bq, .int (wr + nI 64), .int (nI 0)])), (bq, x_N G 129 (va_cpy sd dk 0 (d_fr dk) 64))]) := B
                have hN : d_n tc = 64 := d_nE_n hE (by omega) hu
                have B := B.eq ([(h0, .inr (2, [.ref bq, .int (wr + nI (d_n tc)), .int (d_te tc)])), (bq, x_N G 129 (d_dk dk sd (d_n tc)))]) (by
                  unfold d_te d_dk
                  rw [hN, if_neg (by omega), if_neg (by omega)])
                exact hret _ () _ _ _ _ B (by unfold d_re; first | rw [if_pos hN] | rw [if_neg (by omega)]) rfl d_Dk_store_74
              · refine x_top (v' := (nI (d_mk dk))) (by unfold d_mk; first | rw [if_pos hm] | rw [if_neg hm]) ?_
                refine x_ci (ws' := (fun u => [(h0, .inr (2, [.ref bq, .int ((wr + nI 64) + nI 1), .int (d_w1 (d_wk tc 64))])), (bq, x_N G 129 (va_up (va_cpy sd dk 0 (d_fr dk) 64) 0 (d_mk dk)))])) (wr := []) B (x_rV (rest := []) E B (q_Dk_write_y G l h0 bq (wr + nI 64) (d_wk tc 64) 0 (d_mk dk) (va_cpy sd dk 0 (d_fr dk) 64) (hu) (by omega) _) (x_pre B [0, 1] rfl (by decide) x_ro0) 0 rfl k_Dk (gg_V wd_342 wd_344 wd_14 wd_39 wd_345) ⟨rfl, p_Dk_write⟩ rfl rfl ⟨Nat.le_of_ble_eq_true rfl, Nat.le_of_ble_eq_true rfl⟩ rfl hl.1 rfl (Nat.le_of_ble_eq_true rfl) d_Dk_store_71 ⟨Nat.le_of_ble_eq_true rfl, Nat.le_of_ble_eq_true rfl⟩) [0, 1] [] [0, 1] rfl rfl (by decide) (by decide) (by decide) (fun _ => rfl) (fun r71 u71 H locs hw71 B => ?_)
                subst hw71
                have B : xB G A s _ _ ([(h0, .inr (2, [.ref bq, .int ((wr + nI 64) + nI 1), .int (d_w1 (d_wk tc 64))])), (bq, x_N G 129 (va_up (va_cpy sd dk 0 (d_fr dk) 64) 0 (d_mk dk)))]) := B
                have hN : d_n tc = 65 := d_nE_e (d_nE_y hE (by omega) hu)
                have B := B.eq ([(h0, .inr (2, [.ref bq, .int (wr + nI (d_n tc)), .int (d_te tc)])), (bq, x_N G 129 (d_dk dk sd (d_n tc)))]) (by
                  unfold d_te d_dk
                  have e : wr + nI 64 + nI 1 = wr + nI 65 := by rw [Int32.add_assoc, nI_add]
                  rw [hN, if_pos rfl, if_pos rfl, e]
                  rfl)
                exact hret _ () _ _ _ _ B (by unfold d_re; first | rw [if_pos hN] | rw [if_neg (by omega)]) rfl d_Dk_store_74
            · exfalso; exact hy rfl
          · refine lv_aload_n E.1 E.2.1 d_Dk_store_37 rfl (lv_at hl 3 rfl) ?_
            refine lv_iload_n E.1 E.2.1 d_Dk_store_38 rfl (lv_at hl 1 rfl) ?_
            refine lv_iload E.1 E.2.1 d_Dk_store_39 (lv_at hl 0 rfl) ?_
            refine x_iadd E d_Dk_store_41 ?_
            refine lv_aload_n E.1 E.2.1 d_Dk_store_42 rfl (lv_at hl 4 rfl) ?_
            refine lv_iload E.1 E.2.1 d_Dk_store_43 (lv_at hl 0 rfl) ?_
            refine x_tld E B hR0 (i := i) (by omega) (by decide) d_Dk_store_45 ?_
            by_cases ht : d_wk tc i = nI 1
            · refine x_ci (ws' := (fun u => [(h0, .inr (2, [.ref bq, .int (wr + nI i), .int (nI 0)])), (bq, x_N G 129 (va_cpy sd dk 0 (d_fr dk) i))])) (wr := []) B (x_rV (rest := []) E B (q_Dk_write_n G l h0 bq (wr + nI i) (d_wk tc i) ((d_fr dk) + i) (sd i) (va_cpy sd dk 0 (d_fr dk) i) (ht) _) (x_pre B [0, 1] rfl (by decide) x_ro0) 0 rfl k_Dk (gg_V wd_342 wd_344 wd_14 wd_39 wd_345) ⟨rfl, p_Dk_write⟩ rfl rfl ⟨Nat.le_of_ble_eq_true rfl, Nat.le_of_ble_eq_true rfl⟩ rfl hl.1 rfl (Nat.le_of_ble_eq_true rfl) d_Dk_store_46 ⟨Nat.le_of_ble_eq_true rfl, Nat.le_of_ble_eq_true rfl⟩) [0, 1] [] [0, 1] rfl rfl (by decide) (by decide) (by decide) (fun _ => rfl) (fun r46 u46 H locs hw46 B => ?_)
              subst hw46
              have B : xB G A s _ _ ([(h0, .inr (2, [.ref bq, .int (wr + nI i), .int (nI 0)])), (bq, x_N G 129 (va_cpy sd dk 0 (d_fr dk) i))]) := B
              refine x_ifn (tgt := 54) E d_Dk_store_49 (by decide) (by omega) (fun hy => ?_) (fun hy => ?_)
              · exfalso; exact hy rfl
              · have hN : d_n tc = i := d_nE_n hE (by omega) ht
                have B := B.eq ([(h0, .inr (2, [.ref bq, .int (wr + nI (d_n tc)), .int (d_te tc)])), (bq, x_N G 129 (d_dk dk sd (d_n tc)))]) (by
                  unfold d_te d_dk
                  rw [hN, if_neg (by omega), if_neg (by omega)])
                refine lv_iconst (v := nI 0) E.1 E.2.1 d_Dk_store_52 (by decide) ?_
                exact hret _ () _ _ _ _ B (by unfold d_re; rw [if_neg (by omega)]) rfl d_Dk_store_53
            · refine x_ci (ws' := (fun u => [(h0, .inr (2, [.ref bq, .int ((wr + nI i) + nI 1), .int (d_w1 (d_wk tc i))])), (bq, x_N G 129 (va_up (va_cpy sd dk 0 (d_fr dk) i) ((d_fr dk) + i) (sd i)))])) (wr := []) B (x_rV (rest := []) E B (q_Dk_write_y G l h0 bq (wr + nI i) (d_wk tc i) ((d_fr dk) + i) (sd i) (va_cpy sd dk 0 (d_fr dk) i) (ht) (by omega) _) (x_pre B [0, 1] rfl (by decide) x_ro0) 0 rfl k_Dk (gg_V wd_342 wd_344 wd_14 wd_39 wd_345) ⟨rfl, p_Dk_write⟩ rfl rfl ⟨Nat.le_of_ble_eq_true rfl, Nat.le_of_ble_eq_true rfl⟩ rfl hl.1 rfl (Nat.le_of_ble_eq_true rfl) d_Dk_store_46 ⟨Nat.le_of_ble_eq_true rfl, Nat.le_of_ble_eq_true rfl⟩) [0, 1] [] [0, 1] rfl rfl (by decide) (by decide) (by decide) (fun _ => rfl) (fun r46 u46 H locs hw46 B => ?_)
              subst hw46
              have B : xB G A s _ _ ([(h0, .inr (2, [.ref bq, .int ((wr + nI i) + nI 1), .int (d_w1 (d_wk tc i))])), (bq, x_N G 129 (va_up (va_cpy sd dk 0 (d_fr dk) i) ((d_fr dk) + i) (sd i)))]) := B
              have B := B.fn 1 rfl (nA (va_cpy sd dk 0 (d_fr dk) (i + 1))) (cp_s rfl)
              have B : xB G A s _ _ ([(h0, .inr (2, [.ref bq, .int ((wr + nI i) + nI 1), .int (d_w1 (d_wk tc i))])), (bq, x_N G 129 (va_cpy sd dk 0 (d_fr dk) (i + 1)))]) := B
              refine x_ifn (tgt := 54) E d_Dk_store_49 (by decide) (by omega) (fun hy => ?_) (fun hy => ?_)
              · refine x_inc E 1 (lv' := [(4, .int (nI (i + 1))), (3, .int (nI (d_fr dk))), (2, .int (nI 0)), (0, .ref h0), (1, .ref sq)]) d_Dk_store_54 hl (k := 0) rfl rfl (by decide) rfl (fun ls hl => ?_)
                refine lv_goto (tgt := 30) E.1 E.2.1 d_Dk_store_57 (by decide) ?_
                have B := B.eq ([(h0, .inr (2, [.ref bq, .int (wr + nI (i + 1)), .int (d_wk tc (i + 1))])), (bq, x_N G 129 (va_cpy sd dk 0 (d_fr dk) (i + 1)))]) (by rw [← nI_add, ← Int32.add_assoc]; rfl)
                exact ih30  (i + 1) (by omega) (by omega) (d_nE_y hE (by omega) ht) _ _ _ B (lv_sub hl [0, 1, 2, 3, 4] rfl)
              · exfalso; exact absurd hy (by decide)
      have B := B.fn 1 rfl (nA (va_cpy sd dk 0 (d_fr dk) 0)) (cp_z)
      have B : xB G A s _ _ ([(h0, .inr (2, [.ref bq, .int wr, .int tc])), (bq, x_N G 129 (va_cpy sd dk 0 (d_fr dk) 0))]) := B
      have B := B.eq ([(h0, .inr (2, [.ref bq, .int (wr + nI 0), .int (d_wk tc 0)])), (bq, x_N G 129 (va_cpy sd dk 0 (d_fr dk) 0))]) (by rw [nI_0, Int32.add_zero]; rfl)
      exact hL30 (65) 0 (by omega) (by omega) (d_nE_0 tc) _ _ _ B (lv_sub hl [0, 1, 2, 3, 4] rfl)
    · exfalso; exact hz rfl
  · refine lv_iconst (v := nI 1) E.1 E.2.1 d_Dk_store_10 (by decide) ?_
    refine lv_goto (tgt := 15) E.1 E.2.1 d_Dk_store_11 (by decide) ?_
    refine lv_istore_n (lv' := [(2, .int (nI 1)), (0, .ref h0), (1, .ref sq)]) E.1 E.2.1 d_Dk_store_15 rfl hl (by decide) rfl (fun ls hl => ?_)
    refine lv_iload_n E.1 E.2.1 d_Dk_store_16 rfl (lv_at hl 0 rfl) ?_
    refine x_if0 (tgt := 25) E d_Dk_store_17 (by decide) (by omega) (fun hz => ?_) (fun hz => ?_)
    · exfalso; exact absurd hz (by decide)
    · refine lv_bipush (v := nI 65) E.1 E.2.1 d_Dk_store_20 (by decide) ?_
      refine lv_goto (tgt := 26) E.1 E.2.1 d_Dk_store_22 (by decide) ?_
      refine x_top (v' := (nI (d_fr dk))) (by unfold d_fr; first | rw [if_pos hm] | rw [if_neg hm]) ?_
      refine lv_istore_n (lv' := [(3, .int (nI (d_fr dk))), (2, .int (nI 1)), (0, .ref h0), (1, .ref sq)]) E.1 E.2.1 d_Dk_store_26 rfl hl (by decide) rfl (fun ls hl => ?_)
      refine lv_iconst (v := nI 0) E.1 E.2.1 d_Dk_store_27 (by decide) ?_
      refine lv_istore (lv' := [(4, .int (nI 0)), (3, .int (nI (d_fr dk))), (2, .int (nI 1)), (0, .ref h0), (1, .ref sq)]) E.1 E.2.1 d_Dk_store_28 hl (by decide) rfl (fun ls hl => ?_)
      have hL30 : ∀ (kf : Nat) (i : Nat), 64 - i < kf → (i ≤ 64) → (d_nE tc i) → ∀ (H : Heap) (locs : List Loc) (ls : Array Slot), xB G A s H locs ([(h0, .inr (2, [.ref bq, .int (wr + nI i), .int (d_wk tc i)])), (bq, x_N G 129 (va_cpy sd dk 0 (d_fr dk) i))]) → lv_has ls 5 [(4, .int (nI i)), (3, .int (nI (d_fr dk))), (2, .int (nI 1)), (0, .ref h0), (1, .ref sq)] → W p l e ({ frames := 1, cells := 0, slots := 0, locals := 22 }) s m args below meth c H locs 0 0 Q (F0 m 30 ls []) := by
        intro k30
        induction k30 with
        | zero =>
          intro i hk
          exact absurd hk (Nat.not_lt_zero _)
        | succ k30 ih30 =>
          intro i hk30 hi hE H locs ls B hl
          refine lv_iload E.1 E.2.1 d_Dk_store_30 (lv_at hl 0 rfl) ?_
          refine lv_bipush (v := nI 64) E.1 E.2.1 d_Dk_store_32 (by decide) ?_
          refine x_ge (tgt := 60) E d_Dk_store_34 (by decide) (by omega) (by omega) (fun c8 => ?_) (fun c8 => ?_)
          · obtain rfl : i = 64 := by omega
            refine lv_aload_n E.1 E.2.1 d_Dk_store_60 rfl (lv_at hl 3 rfl) ?_
            refine lv_iconst (v := nI 0) E.1 E.2.1 d_Dk_store_61 (by decide) ?_
            refine lv_iload_n E.1 E.2.1 d_Dk_store_62 rfl (lv_at hl 2 rfl) ?_
            refine x_if0 (tgt := 70) E d_Dk_store_63 (by decide) (by omega) (fun hy => ?_) (fun hy => ?_)
            · exfalso; exact absurd hy (by decide)
            · refine lv_iconst (v := nI 2) E.1 E.2.1 d_Dk_store_66 (by decide) ?_
              refine lv_goto (tgt := 71) E.1 E.2.1 d_Dk_store_67 (by decide) ?_
              by_cases hu : d_wk tc 64 = nI 1
              · refine x_top (v' := (nI (d_mk dk))) (by unfold d_mk; first | rw [if_pos hm] | rw [if_neg hm]) ?_
                refine x_ci (ws' := (fun u => [(h0, .inr (2, [.ref bq, .int (wr + nI 64), .int (nI 0)])), (bq, x_N G 129 (va_cpy sd dk 0 (d_fr dk) 64))])) (wr := []) B (x_rV (rest := []) E B (q_Dk_write_n G l h0 bq (wr + nI 64) (d_wk tc 64) 0 (d_mk dk) (va_cpy sd dk 0 (d_fr dk) 64) (hu) _) (x_pre B [0, 1] rfl (by decide) x_ro0) 0 rfl k_Dk (gg_V wd_342 wd_344 wd_14 wd_39 wd_345) ⟨rfl, p_Dk_write⟩ rfl rfl ⟨Nat.le_of_ble_eq_true rfl, Nat.le_of_ble_eq_true rfl⟩ rfl hl.1 rfl (Nat.le_of_ble_eq_true rfl) d_Dk_store_71 ⟨Nat.le_of_ble_eq_true rfl, Nat.le_of_ble_eq_true rfl⟩) [0, 1] [] [0, 1] rfl rfl (by decide) (by decide) (by decide) (fun _ => rfl) (fun r71 u71 H locs hw71 B => ?_)
                subst hw71
                have B : xB G A s _ _ ([(h0, .inr (2, [.ref bq, .int (wr + nI 64), .int (nI 0)])), (bq, x_N G 129 (va_cpy sd dk 0 (d_fr dk) 64))]) := B
                have hN : d_n tc = 64 := d_nE_n hE (by omega) hu
                have B := B.eq ([(h0, .inr (2, [.ref bq, .int (wr + nI (d_n tc)), .int (d_te tc)])), (bq, x_N G 129 (d_dk dk sd (d_n tc)))]) (by
                  unfold d_te d_dk
                  rw [hN, if_neg (by omega), if_neg (by omega)])
                exact hret _ () _ _ _ _ B (by unfold d_re; first | rw [if_pos hN] | rw [if_neg (by omega)]) rfl d_Dk_store_74
              · refine x_top (v' := (nI (d_mk dk))) (by unfold d_mk; first | rw [if_pos hm] | rw [if_neg hm]) ?_
                refine x_ci (ws' := (fun u => [(h0, .inr (2, [.ref bq, .int ((wr + nI 64) + nI 1), .int (d_w1 (d_wk tc 64))])), (bq, x_N G 129 (va_up (va_cpy sd dk 0 (d_fr dk) 64) 0 (d_mk dk)))])) (wr := []) B (x_rV (rest := []) E B (q_Dk_write_y G l h0 bq (wr + nI 64) (d_wk tc 64) 0 (d_mk dk) (va_cpy sd dk 0 (d_fr dk) 64) (hu) (by omega) _) (x_pre B [0, 1] rfl (by decide) x_ro0) 0 rfl k_Dk (gg_V wd_342 wd_344 wd_14 wd_39 wd_345) ⟨rfl, p_Dk_write⟩ rfl rfl ⟨Nat.le_of_ble_eq_true rfl, Nat.le_of_ble_eq_true rfl⟩ rfl hl.1 rfl (Nat.le_of_ble_eq_true rfl) d_Dk_store_71 ⟨Nat.le_of_ble_eq_true rfl, Nat.le_of_ble_eq_true rfl⟩) [0, 1] [] [0, 1] rfl rfl (by decide) (by decide) (by decide) (fun _ => rfl) (fun r71 u71 H locs hw71 B => ?_)
                subst hw71
                have B : xB G A s _ _ ([(h0, .inr (2, [.ref bq, .int ((wr + nI 64) + nI 1), .int (d_w1 (d_wk tc 64))])), (bq, x_N G 129 (va_up (va_cpy sd dk 0 (d_fr dk) 64) 0 (d_mk dk)))]) := B
                have hN : d_n tc = 65 := d_nE_e (d_nE_y hE (by omega) hu)
                have B := B.eq ([(h0, .inr (2, [.ref bq, .int (wr + nI (d_n tc)), .int (d_te tc)])), (bq, x_N G 129 (d_dk dk sd (d_n tc)))]) (by
                  unfold d_te d_dk
                  have e : wr + nI 64 + nI 1 = wr + nI 65 := by rw [Int32.add_assoc, nI_add]
                  rw [hN, if_pos rfl, if_pos rfl, e]
                  rfl)
                exact hret _ () _ _ _ _ B (by unfold d_re; first | rw [if_pos hN] | rw [if_neg (by omega)]) rfl d_Dk_store_74
          · refine lv_aload_n E.1 E.2.1 d_Dk_store_37 rfl (lv_at hl 3 rfl) ?_
            refine lv_iload_n E.1 E.2.1 d_Dk_store_38 rfl (lv_at hl 1 rfl) ?_
            refine lv_iload E.1 E.2.1 d_Dk_store_39 (lv_at hl 0 rfl) ?_
            refine x_iadd E d_Dk_store_41 ?_
            refine lv_aload_n E.1 E.2.1 d_Dk_store_42 rfl (lv_at hl 4 rfl) ?_
            refine lv_iload E.1 E.2.1 d_Dk_store_43 (lv_at hl 0 rfl) ?_
            refine x_tld E B hR0 (i := i) (by omega) (by decide) d_Dk_store_45 ?_
            by_cases ht : d_wk tc i = nI 1
            · refine x_ci (ws' := (fun u => [(h0, .inr (2, [.ref bq, .int (wr + nI i), .int (nI 0)])), (bq, x_N G 129 (va_cpy sd dk 0 (d_fr dk) i))])) (wr := []) B (x_rV (rest := []) E B (q_Dk_write_n G l h0 bq (wr + nI i) (d_wk tc i) ((d_fr dk) + i) (sd i) (va_cpy sd dk 0 (d_fr dk) i) (ht) _) (x_pre B [0, 1] rfl (by decide) x_ro0) 0 rfl k_Dk (gg_V wd_342 wd_344 wd_14 wd_39 wd_345) ⟨rfl, p_Dk_write⟩ rfl rfl ⟨Nat.le_of_ble_eq_true rfl, Nat.le_of_ble_eq_true rfl⟩ rfl hl.1 rfl (Nat.le_of_ble_eq_true rfl) d_Dk_store_46 ⟨Nat.le_of_ble_eq_true rfl, Nat.le_of_ble_eq_true rfl⟩) [0, 1] [] [0, 1] rfl rfl (by decide) (by decide) (by decide) (fun _ => rfl) (fun r46 u46 H locs hw46 B => ?_)
              subst hw46
              have B : xB G A s _ _ ([(h0, .inr (2, [.ref bq, .int (wr + nI i), .int (nI 0)])), (bq, x_N G 129 (va_cpy sd dk 0 (d_fr dk) i))]) := B
              refine x_ifn (tgt := 54) E d_Dk_store_49 (by decide) (by omega) (fun hy => ?_) (fun hy => ?_)
              · exfalso; exact hy rfl
              · have hN : d_n tc = i := d_nE_n hE (by omega) ht
                have B := B.eq ([(h0, .inr (2, [.ref bq, .int (wr + nI (d_n tc)), .int (d_te tc)])), (bq, x_N G 129 (d_dk dk sd (d_n tc)))]) (by
                  unfold d_te d_dk
                  rw [hN, if_neg (by omega), if_neg (by omega)])
                refine lv_iconst (v := nI 0) E.1 E.2.1 d_Dk_store_52 (by decide) ?_
                exact hret _ () _ _ _ _ B (by unfold d_re; rw [if_neg (by omega)]) rfl d_Dk_store_53
            · refine x_ci (ws' := (fun u => [(h0, .inr (2, [.ref bq, .int ((wr + nI i) + nI 1), .int (d_w1 (d_wk tc i))])), (bq, x_N G 129 (va_up (va_cpy sd dk 0 (d_fr dk) i) ((d_fr dk) + i) (sd i)))])) (wr := []) B (x_rV (rest := []) E B (q_Dk_write_y G l h0 bq (wr + nI i) (d_wk tc i) ((d_fr dk) + i) (sd i) (va_cpy sd dk 0 (d_fr dk) i) (ht) (by omega) _) (x_pre B [0, 1] rfl (by decide) x_ro0) 0 rfl k_Dk (gg_V wd_342 wd_344 wd_14 wd_39 wd_345) ⟨rfl, p_Dk_write⟩ rfl rfl ⟨Nat.le_of_ble_eq_true rfl, Nat.le_of_ble_eq_true rfl⟩ rfl hl.1 rfl (Nat.le_of_ble_eq_true rfl) d_Dk_store_46 ⟨Nat.le_of_ble_eq_true rfl, Nat.le_of_ble_eq_true rfl⟩) [0, 1] [] [0, 1] rfl rfl (by decide) (by decide) (by decide) (fun _ => rfl) (fun r46 u46 H locs hw46 B => ?_)
              subst hw46
              have B : xB G A s _ _ ([(h0, .inr (2, [.ref bq, .int ((wr + nI i) + nI 1), .int (d_w1 (d_wk tc i))])), (bq, x_N G 129 (va_up (va_cpy sd dk 0 (d_fr dk) i) ((d_fr dk) + i) (sd i)))]) := B
              have B := B.fn 1 rfl (nA (va_cpy sd dk 0 (d_fr dk) (i + 1))) (cp_s rfl)
              have B : xB G A s _ _ ([(h0, .inr (2, [.ref bq, .int ((wr + nI i) + nI 1), .int (d_w1 (d_wk tc i))])), (bq, x_N G 129 (va_cpy sd dk 0 (d_fr dk) (i + 1)))]) := B
              refine x_ifn (tgt := 54) E d_Dk_store_49 (by decide) (by omega) (fun hy => ?_) (fun hy => ?_)
              · refine x_inc E 1 (lv' := [(4, .int (nI (i + 1))), (3, .int (nI (d_fr dk))), (2, .int (nI 1)), (0, .ref h0), (1, .ref sq)]) d_Dk_store_54 hl (k := 0) rfl rfl (by decide) rfl (fun ls hl => ?_)
                refine lv_goto (tgt := 30) E.1 E.2.1 d_Dk_store_57 (by decide) ?_
                have B := B.eq ([(h0, .inr (2, [.ref bq, .int (wr + nI (i + 1)), .int (d_wk tc (i + 1))])), (bq, x_N G 129 (va_cpy sd dk 0 (d_fr dk) (i + 1)))]) (by rw [← nI_add, ← Int32.add_assoc]; rfl)
                exact ih30  (i + 1) (by omega) (by omega) (d_nE_y hE (by omega) ht) _ _ _ B (lv_sub hl [0, 1, 2, 3, 4] rfl)
              · exfalso; exact absurd hy (by decide)
      have B := B.fn 1 rfl (nA (va_cpy sd dk 0 (d_fr dk) 0)) (cp_z)
      have B : xB G A s _ _ ([(h0, .inr (2, [.ref bq, .int wr, .int tc])), (bq, x_N G 129 (va_cpy sd dk 0 (d_fr dk) 0))]) := B
      have B := B.eq ([(h0, .inr (2, [.ref bq, .int (wr + nI 0), .int (d_wk tc 0)])), (bq, x_N G 129 (va_cpy sd dk 0 (d_fr dk) 0))]) (by rw [nI_0, Int32.add_zero]; rfl)
      exact hL30 (65) 0 (by omega) (by omega) (d_nE_0 tc) _ _ _ B (lv_sub hl [0, 1, 2, 3, 4] rfl)
set_option maxHeartbeats 4000000 in
set_option maxRecDepth 100000 in
theorem q_Po_new (G : xG) (l : Launch) (h0 : Nat)  : xMv G l y_Po_new c_Po_new 1 ({ frames := 1, cells := 1, slots := 12, locals := 20 }) [.ref h0] [] [(h0, .inr (4, [.null, .int (nI 0)]))] Nat (fun _ => True) (fun u => [(h0, .inr (4, [.ref u, .int (nI 0)])), (u, x_N G 12 (fun _ => 0))]) 1 12 := by
  refine xMv.by r_Po (by decide +kernel) (Nat.le_of_ble_eq_true rfl) rfl ?_
  intro p e s m args below meth c A ls Q E hin B hro hl hret
  have hl : lv_has ls 1 [(0, .ref h0)] := hl
  refine lv_aload_n E.1 E.2.1 d_Po_new_0 rfl (lv_at hl 0 rfl) ?_
  refine x_oi E wd_63 wd_49 wd_50 hl.1 d_Po_new_1 (Nat.le_of_ble_eq_true rfl) (Nat.le_of_ble_eq_true rfl) ?_
  refine lv_aload_n E.1 E.2.1 d_Po_new_4 rfl (lv_at hl 0 rfl) ?_
  refine lv_bipush (v := nI 12) E.1 E.2.1 d_Po_new_5 (by decide) ?_
  refine x_newa E B wd_74 (n := 12) (by decide) (Nat.le_of_ble_eq_true rfl) (Nat.le_of_ble_eq_true rfl) d_Po_new_7 (fun q1 H B => ?_)
  have B : xB G A s _ _ ([(h0, .inr (4, [.null, .int (nI 0)])), (q1, x_N G 12 (fun _ => 0))]) := B
  refine x_put E B 0 rfl k_Po 0 (by decide) wd_64 rfl rfl rfl (Nat.le_of_ble_eq_true rfl) d_Po_new_9 (fun H locs B => ?_)
  have B : xB G A s _ _ ([(h0, .inr (4, [.ref q1, .int (nI 0)])), (q1, x_N G 12 (fun _ => 0))]) := B
  refine lv_aload_n E.1 E.2.1 d_Po_new_12 rfl (lv_at hl 0 rfl) ?_
  refine lv_iconst (v := nI 0) E.1 E.2.1 d_Po_new_13 (by decide) ?_
  refine x_put E B 0 rfl k_Po 1 (by decide) wd_66 rfl rfl rfl (Nat.le_of_ble_eq_true rfl) d_Po_new_14 (fun H locs B => ?_)
  have B : xB G A s _ _ ([(h0, .inr (4, [.ref q1, .int (nI 0)])), (q1, x_N G 12 (fun _ => 0))]) := B
  exact hret q1 _ _ _ _ B trivial d_Po_new_17
set_option maxHeartbeats 4000000 in
set_option maxRecDepth 100000 in
theorem q_Po_grow (G : xG) (l : Launch) (h0 bq cp ln : Nat) (g : Nat → Nat) (hlc : ln ≤ cp) (hc : cp ≤ 1536) : xMv G l y_Po_grow c_Po_grow 2 ({ frames := 1, cells := 1, slots := 3072, locals := 60 }) [.ref h0] [] [(h0, .inr (4, [.ref bq, .int (nI ln)])), (bq, x_N G cp g)] Nat (fun _ => True) (fun u => [(h0, .inr (4, [.ref u, .int (nI ln)])), (u, x_N G (2 * cp) (va_cpy g (fun _ => 0) 0 0 ln))]) 1 3072 := by
  refine xMv.by r_Po (by decide +kernel) (Nat.le_of_ble_eq_true rfl) rfl ?_
  intro p e s m args below meth c A ls Q E hin B hro hl hret
  have hl : lv_has ls 2 [(0, .ref h0)] := hl
  refine lv_iconst (v := nI 2) E.1 E.2.1 d_Po_grow_0 (by decide) ?_
  refine lv_aload_n E.1 E.2.1 d_Po_grow_1 rfl (lv_at hl 0 rfl) ?_
  refine x_get E B 0 rfl k_Po 0 (by decide) wd_64 rfl d_Po_grow_2 ?_
  refine x_alen E B 1 rfl d_Po_grow_5 ?_
  refine x_imul E d_Po_grow_6 ?_
  refine x_newa E B wd_74 (n := 2 * cp) (by omega) (Nat.le_of_ble_eq_true rfl) (by show 0 + 2 * cp ≤ 3072; omega) d_Po_grow_7 (fun q1 H B => ?_)
  have B : xB G A s _ _ ([(h0, .inr (4, [.ref bq, .int (nI ln)])), (bq, x_N G cp g), (q1, x_N G (2 * cp) (fun _ => 0))]) := B
  refine lv_astore_n (lv' := [(1, .ref q1), (0, .ref h0)]) E.1 E.2.1 d_Po_grow_9 rfl hl (by decide) rfl (fun ls hl => ?_)
  refine lv_aload_n E.1 E.2.1 d_Po_grow_10 rfl (lv_at hl 1 rfl) ?_
  refine x_get E B 0 rfl k_Po 0 (by decide) wd_64 rfl d_Po_grow_11 ?_
  refine lv_iconst (v := nI 0) E.1 E.2.1 d_Po_grow_14 (by decide) ?_
  refine lv_aload_n E.1 E.2.1 d_Po_grow_15 rfl (lv_at hl 0 rfl) ?_
  refine lv_iconst (v := nI 0) E.1 E.2.1 d_Po_grow_16 (by decide) ?_
  refine lv_aload_n E.1 E.2.1 d_Po_grow_17 rfl (lv_at hl 1 rfl) ?_
  refine x_get E B 0 rfl k_Po 1 (by decide) wd_66 rfl d_Po_grow_18 ?_
  refine x_cpy E B wd_215 wd_217 wd_216 wd_41 1 2 (sp := 0) (dp := 0) (n := ln) rfl rfl (by omega) (by omega) (by omega) (by omega) hl.1 (Nat.le_of_ble_eq_true rfl) (Nat.le_of_ble_eq_true rfl) d_Po_grow_21 (fun H locs B => ?_)
  rw [x_cpN] at B
  have B : xB G A s _ _ ([(h0, .inr (4, [.ref bq, .int (nI ln)])), (bq, x_N G cp g), (q1, x_N G (2 * cp) (va_cpy g (fun _ => 0) 0 0 ln))]) := B
  refine lv_aload_n E.1 E.2.1 d_Po_grow_24 rfl (lv_at hl 1 rfl) ?_
  refine lv_aload_n E.1 E.2.1 d_Po_grow_25 rfl (lv_at hl 0 rfl) ?_
  refine x_put E B 0 rfl k_Po 0 (by decide) wd_64 rfl rfl rfl (Nat.le_of_ble_eq_true rfl) d_Po_grow_26 (fun H locs B => ?_)
  have B : xB G A s _ _ ([(h0, .inr (4, [.ref q1, .int (nI ln)])), (bq, x_N G cp g), (q1, x_N G (2 * cp) (va_cpy g (fun _ => 0) 0 0 ln))]) := B
  refine W.widen (k := 1) (n := 3072) (by omega) (by omega) ?_
  exact hret q1 _ _ _ _ (B.sub [0, 2] (by decide) rfl) trivial d_Po_grow_29
set_option maxHeartbeats 4000000 in
set_option maxRecDepth 100000 in
theorem q_Po_add (G : xG) (l : Launch) (h0 bq cp ln sr b : Nat) (g : Nat → Nat) (hlc : ln ≤ cp) (hc : 12 ≤ cp) (hc2 : cp ≤ 3072) (hm : ln + 3 ≤ 1536) : xMi G l y_Po_add c_Po_add 3 .boolean ({ frames := 2, cells := 1, slots := 3072, locals := 81 }) [.ref h0, .int (nI sr), .int (nI b)] [] [(h0, .inr (4, [.ref bq, .int (nI ln)])), (bq, x_N G cp g)] (Nat × Nat × (Nat → Nat)) (fun r u => r = nI 1 ∧ 12 ≤ u.2.1 ∧ u.2.1 ≤ 3072 ∧ ln + 3 ≤ u.2.1 ∧ ∀ j, j < ln + 3 → u.2.2 j = p_ev g ln sr b j) (fun u => [(h0, .inr (4, [.ref u.1, .int (nI (ln + 3))])), (u.1, x_N G u.2.1 u.2.2)]) 1 3072 := by
  refine xMz.by r_Po (by decide +kernel) (Nat.le_of_ble_eq_true rfl) rfl ?_
  intro p e s m args below meth c A ls Q E B hro hl hret
  have hl : lv_has ls 3 [(0, .ref h0), (1, .int (nI sr)), (2, .int (nI b))] := hl
  refine lv_aload_n E.1 E.2.1 d_Po_add_0 rfl (lv_at hl 0 rfl) ?_
  refine x_get E B 0 rfl k_Po 1 (by decide) wd_66 rfl d_Po_add_1 ?_
  refine lv_iconst (v := nI 3) E.1 E.2.1 d_Po_add_4 (by decide) ?_
  refine x_iadd E d_Po_add_5 ?_
  refine lv_sipush (v := nI 1536) E.1 E.2.1 d_Po_add_6 (by decide) ?_
  refine x_le (tgt := 14) E d_Po_add_9 (by decide) (by omega) (by omega) (fun hx => ?_) (fun hx => ?_)
  · refine lv_aload_n E.1 E.2.1 d_Po_add_14 rfl (lv_at hl 0 rfl) ?_
    refine x_get E B 0 rfl k_Po 1 (by decide) wd_66 rfl d_Po_add_15 ?_
    refine lv_iconst (v := nI 3) E.1 E.2.1 d_Po_add_18 (by decide) ?_
    refine x_iadd E d_Po_add_19 ?_
    refine lv_aload_n E.1 E.2.1 d_Po_add_20 rfl (lv_at hl 0 rfl) ?_
    refine x_get E B 0 rfl k_Po 0 (by decide) wd_64 rfl d_Po_add_21 ?_
    refine x_alen E B 1 rfl d_Po_add_24 ?_
    refine x_le (tgt := 32) E d_Po_add_25 (by decide) (by omega) (by omega) (fun hcp => ?_) (fun hcp => ?_)
    · refine lv_aload_n E.1 E.2.1 d_Po_add_32 rfl (lv_at hl 0 rfl) ?_
      refine x_get E B 0 rfl k_Po 0 (by decide) wd_64 rfl d_Po_add_33 ?_
      refine lv_aload_n E.1 E.2.1 d_Po_add_36 rfl (lv_at hl 0 rfl) ?_
      refine x_get E B 0 rfl k_Po 1 (by decide) wd_66 rfl d_Po_add_37 ?_
      refine lv_iload_n E.1 E.2.1 d_Po_add_40 rfl (lv_at hl 1 rfl) ?_
      refine x_astN E B 1 rfl (i := ln) (v := sr) (by omega) (by omega) d_Po_add_41 (fun H locs B => ?_)
      have B : xB G A s _ _ ([(h0, .inr (4, [.ref bq, .int (nI ln)])), (bq, x_N G cp (va_up g ln sr))]) := B
      refine lv_aload_n E.1 E.2.1 d_Po_add_42 rfl (lv_at hl 0 rfl) ?_
      refine x_get E B 0 rfl k_Po 0 (by decide) wd_64 rfl d_Po_add_43 ?_
      refine lv_aload_n E.1 E.2.1 d_Po_add_46 rfl (lv_at hl 0 rfl) ?_
      refine x_get E B 0 rfl k_Po 1 (by decide) wd_66 rfl d_Po_add_47 ?_
      refine lv_iconst (v := nI 1) E.1 E.2.1 d_Po_add_50 (by decide) ?_
      refine x_iadd E d_Po_add_51 ?_
      refine lv_iconst (v := nI 1) E.1 E.2.1 d_Po_add_52 (by decide) ?_
      refine x_astN E B 1 rfl (i := ln + 1) (v := 1) (by omega) (by omega) d_Po_add_53 (fun H locs B => ?_)
      have B : xB G A s _ _ ([(h0, .inr (4, [.ref bq, .int (nI ln)])), (bq, x_N G cp (va_up (va_up g ln sr) (ln + 1) 1))]) := B
      refine lv_aload_n E.1 E.2.1 d_Po_add_54 rfl (lv_at hl 0 rfl) ?_
      refine x_get E B 0 rfl k_Po 0 (by decide) wd_64 rfl d_Po_add_55 ?_
      refine lv_aload_n E.1 E.2.1 d_Po_add_58 rfl (lv_at hl 0 rfl) ?_
      refine x_get E B 0 rfl k_Po 1 (by decide) wd_66 rfl d_Po_add_59 ?_
      refine lv_iconst (v := nI 2) E.1 E.2.1 d_Po_add_62 (by decide) ?_
      refine x_iadd E d_Po_add_63 ?_
      refine lv_iload_n E.1 E.2.1 d_Po_add_64 rfl (lv_at hl 2 rfl) ?_
      refine x_astN E B 1 rfl (i := ln + 2) (v := b) (by omega) (by omega) d_Po_add_65 (fun H locs B => ?_)
      have B : xB G A s _ _ ([(h0, .inr (4, [.ref bq, .int (nI ln)])), (bq, x_N G cp (va_up (va_up (va_up g ln sr) (ln + 1) 1) (ln + 2) b))]) := B
      refine lv_aload_n E.1 E.2.1 d_Po_add_66 rfl (lv_at hl 0 rfl) ?_
      refine lv_dup E.1 E.2.1 d_Po_add_67 rfl ?_
      refine x_get E B 0 rfl k_Po 1 (by decide) wd_66 rfl d_Po_add_68 ?_
      refine lv_iconst (v := nI 3) E.1 E.2.1 d_Po_add_71 (by decide) ?_
      refine x_iadd E d_Po_add_72 ?_
      refine x_put E B 0 rfl k_Po 1 (by decide) wd_66 rfl rfl rfl (Nat.le_of_ble_eq_true rfl) d_Po_add_73 (fun H locs B => ?_)
      have B : xB G A s _ _ ([(h0, .inr (4, [.ref bq, .int (nI (ln + 3))])), (bq, x_N G cp (va_up (va_up (va_up g ln sr) (ln + 1) 1) (ln + 2) b))]) := B
      refine lv_iconst (v := nI 1) E.1 E.2.1 d_Po_add_76 (by decide) ?_
      refine W.widen (k := 1) (n := 3072) (by omega) (by omega) ?_
      exact hret _ (bq, cp, _) _ _ _ _ B (⟨rfl, by show 12 ≤ cp; omega, by show cp ≤ 3072; omega, by show ln + 3 ≤ cp; omega, fun j hj => by first | exact p_ev_a j | exact p_ev_b j hj⟩) rfl d_Po_add_77
    · refine lv_aload_n E.1 E.2.1 d_Po_add_28 rfl (lv_at hl 0 rfl) ?_
      refine x_cv (ws' := (fun u => [(h0, .inr (4, [.ref u, .int (nI ln)])), (u, x_N G (2 * cp) (va_cpy g (fun _ => 0) 0 0 ln))])) (wr := []) B (x_rV (rest := []) E B (q_Po_grow G l h0 bq cp ln g (hlc) (by omega) _) (x_pre B [0, 1] rfl (by decide) x_ro0) 0 rfl k_Po (gg_V wd_211 wd_213 wd_1 wd_36 wd_214) ⟨rfl, p_Po_grow⟩ rfl rfl ⟨Nat.le_of_ble_eq_true rfl, Nat.le_of_ble_eq_true rfl⟩ rfl hl.1 rfl (Nat.le_of_ble_eq_true rfl) d_Po_add_29 ⟨Nat.le_of_ble_eq_true rfl, Nat.le_of_ble_eq_true rfl⟩) [0, 1] [] [0, 1] rfl rfl (by decide) (by decide) (by decide) (fun _ => rfl) (fun nq H locs hw29 B => ?_)
      have B : xB G A s _ _ ([(h0, .inr (4, [.ref nq, .int (nI ln)])), (nq, x_N G (2 * cp) (va_cpy g (fun _ => 0) 0 0 ln))]) := B
      refine lv_aload_n E.1 E.2.1 d_Po_add_32 rfl (lv_at hl 0 rfl) ?_
      refine x_get E B 0 rfl k_Po 0 (by decide) wd_64 rfl d_Po_add_33 ?_
      refine lv_aload_n E.1 E.2.1 d_Po_add_36 rfl (lv_at hl 0 rfl) ?_
      refine x_get E B 0 rfl k_Po 1 (by decide) wd_66 rfl d_Po_add_37 ?_
      refine lv_iload_n E.1 E.2.1 d_Po_add_40 rfl (lv_at hl 1 rfl) ?_
      refine x_astN E B 1 rfl (i := ln) (v := sr) (by omega) (by omega) d_Po_add_41 (fun H locs B => ?_)
      have B : xB G A s _ _ ([(h0, .inr (4, [.ref nq, .int (nI ln)])), (nq, x_N G (2 * cp) (va_up (va_cpy g (fun _ => 0) 0 0 ln) ln sr))]) := B
      refine lv_aload_n E.1 E.2.1 d_Po_add_42 rfl (lv_at hl 0 rfl) ?_
      refine x_get E B 0 rfl k_Po 0 (by decide) wd_64 rfl d_Po_add_43 ?_
      refine lv_aload_n E.1 E.2.1 d_Po_add_46 rfl (lv_at hl 0 rfl) ?_
      refine x_get E B 0 rfl k_Po 1 (by decide) wd_66 rfl d_Po_add_47 ?_
      refine lv_iconst (v := nI 1) E.1 E.2.1 d_Po_add_50 (by decide) ?_
      refine x_iadd E d_Po_add_51 ?_
      refine lv_iconst (v := nI 1) E.1 E.2.1 d_Po_add_52 (by decide) ?_
      refine x_astN E B 1 rfl (i := ln + 1) (v := 1) (by omega) (by omega) d_Po_add_53 (fun H locs B => ?_)
      have B : xB G A s _ _ ([(h0, .inr (4, [.ref nq, .int (nI ln)])), (nq, x_N G (2 * cp) (va_up (va_up (va_cpy g (fun _ => 0) 0 0 ln) ln sr) (ln + 1) 1))]) := B
      refine lv_aload_n E.1 E.2.1 d_Po_add_54 rfl (lv_at hl 0 rfl) ?_
      refine x_get E B 0 rfl k_Po 0 (by decide) wd_64 rfl d_Po_add_55 ?_
      refine lv_aload_n E.1 E.2.1 d_Po_add_58 rfl (lv_at hl 0 rfl) ?_
      refine x_get E B 0 rfl k_Po 1 (by decide) wd_66 rfl d_Po_add_59 ?_
      refine lv_iconst (v := nI 2) E.1 E.2.1 d_Po_add_62 (by decide) ?_
      refine x_iadd E d_Po_add_63 ?_
      refine lv_iload_n E.1 E.2.1 d_Po_add_64 rfl (lv_at hl 2 rfl) ?_
      refine x_astN E B 1 rfl (i := ln + 2) (v := b) (by omega) (by omega) d_Po_add_65 (fun H locs B => ?_)
      have B : xB G A s _ _ ([(h0, .inr (4, [.ref nq, .int (nI ln)])), (nq, x_N G (2 * cp) (va_up (va_up (va_up (va_cpy g (fun _ => 0) 0 0 ln) ln sr) (ln + 1) 1) (ln + 2) b))]) := B
      refine lv_aload_n E.1 E.2.1 d_Po_add_66 rfl (lv_at hl 0 rfl) ?_
      refine lv_dup E.1 E.2.1 d_Po_add_67 rfl ?_
      refine x_get E B 0 rfl k_Po 1 (by decide) wd_66 rfl d_Po_add_68 ?_
      refine lv_iconst (v := nI 3) E.1 E.2.1 d_Po_add_71 (by decide) ?_
      refine x_iadd E d_Po_add_72 ?_
      refine x_put E B 0 rfl k_Po 1 (by decide) wd_66 rfl rfl rfl (Nat.le_of_ble_eq_true rfl) d_Po_add_73 (fun H locs B => ?_)
      have B : xB G A s _ _ ([(h0, .inr (4, [.ref nq, .int (nI (ln + 3))])), (nq, x_N G (2 * cp) (va_up (va_up (va_up (va_cpy g (fun _ => 0) 0 0 ln) ln sr) (ln + 1) 1) (ln + 2) b))]) := B
      refine lv_iconst (v := nI 1) E.1 E.2.1 d_Po_add_76 (by decide) ?_
      exact hret _ (nq, 2 * cp, _) _ _ _ _ B (⟨rfl, by show 12 ≤ 2 * cp; omega, by show 2 * cp ≤ 3072; omega, by show ln + 3 ≤ 2 * cp; omega, fun j hj => by first | exact p_ev_a j | exact p_ev_b j hj⟩) rfl d_Po_add_77
  · exfalso; omega
