set_option maxHeartbeats 4000000 in
set_option maxRecDepth 100000 in
theorem q_Ge_isSeeded (G : xG) (l : Launch) (h0 kq cq pq dq e0 rq tq rs : Nat) (ck lt : Int32) (ctr : Nat → Nat) (hb : g_bt 16 ctr) : xMr G l y_Ge_isSeeded c_Ge_isSeeded 2 .boolean ({ frames := 0, cells := 0, slots := 0, locals := 0 }) [.ref h0] [] [(h0, .inr (3, [.ref kq, .ref cq, .ref pq, .int (nI rs), .int ck, .int lt, .ref dq, .ref e0, .ref rq, .ref tq])), (cq, x_N G 16 ctr)] (nI (g_sd ctr)) := by
  refine xMrz.by r_Ge (by decide +kernel) (Nat.le_of_ble_eq_true rfl) rfl ?_
  intro p e s m args below meth c A ls Q E B hro hl hret
  have hl : lv_has ls 2 [(0, .ref h0)] := hl
  refine lv_iconst (v := nI 0) E.1 E.2.1 d_Ge_isSeeded_0 (by decide) ?_
  refine lv_istore_n (lv' := [(1, .int (nI 0)), (0, .ref h0)]) E.1 E.2.1 d_Ge_isSeeded_1 rfl hl (by decide) rfl (fun ls hl => ?_)
  have hL2 : ∀ (kf : Nat) (i : Nat), 16 - i < kf → (i ≤ 16) → (∀ j, j < i → ctr j = 0) → ∀ (ls : Array Slot), lv_has ls 2 [(1, .int (nI i)), (0, .ref h0)] → W p l e ({ frames := 0, cells := 0, slots := 0, locals := 0 }) s m args below meth c s.heap [] 0 0 Q (F0 m 2 ls []) := by
    intro k2
    induction k2 with
    | zero =>
      intro i hk
      exact absurd hk (Nat.not_lt_zero _)
    | succ k2 ih2 =>
      intro i hk2 hi hz ls hl
      refine lv_iload_n E.1 E.2.1 d_Ge_isSeeded_2 rfl (lv_at hl 0 rfl) ?_
      refine lv_bipush (v := nI 16) E.1 E.2.1 d_Ge_isSeeded_3 (by decide) ?_
      refine x_ge (tgt := 25) E d_Ge_isSeeded_5 (by decide) (by omega) (by omega) (fun c1 => ?_) (fun c1 => ?_)
      · refine lv_iconst (v := nI 0) E.1 E.2.1 d_Ge_isSeeded_25 (by decide) ?_
        exact hret _ _ _ (by rw [g_sd_0 (fun j hj => hz j (by omega))]) rfl d_Ge_isSeeded_26
      · refine lv_aload_n E.1 E.2.1 d_Ge_isSeeded_8 rfl (lv_at hl 1 rfl) ?_
        refine x_get E B 0 rfl k_Ge 1 (by decide) wd_111 rfl d_Ge_isSeeded_9 ?_
        refine lv_iload_n E.1 E.2.1 d_Ge_isSeeded_12 rfl (lv_at hl 0 rfl) ?_
        refine x_aldN E B 1 rfl (i := i) (by omega) (by decide) d_Ge_isSeeded_13 ?_
        refine x_if0 (tgt := 19) E d_Ge_isSeeded_14 (by decide) (by have := hb i (by omega); omega) (fun hz1 => ?_) (fun hz1 => ?_)
        · refine x_inc E 1 (lv' := [(1, .int (nI (i + 1))), (0, .ref h0)]) d_Ge_isSeeded_19 hl (k := 0) rfl rfl (by decide) rfl (fun ls hl => ?_)
          refine lv_goto (tgt := 2) E.1 E.2.1 d_Ge_isSeeded_22 (by decide) ?_
          exact ih2  (i + 1) (by omega) (by omega) (lt_s hz hz1) _ (lv_sub hl [0, 1] rfl)
        · refine lv_iconst (v := nI 1) E.1 E.2.1 d_Ge_isSeeded_17 (by decide) ?_
          exact hret _ _ _ (by rw [g_sd_1 (by omega) hz1]) rfl d_Ge_isSeeded_18
  exact hL2 (17) 0 (by omega) (by omega) (fun j hj => absurd hj (Nat.not_lt_zero j)) _ (lv_sub hl [0, 1] rfl)
set_option maxHeartbeats 4000000 in
set_option maxRecDepth 100000 in
theorem q_Ge_passTime (G : xG) (l : Launch) (h0 kq cq pq dq e0 rq tq rs : Nat) (ck lt : Int32) (ms : Int32)  : xMi G l y_Ge_passTime c_Ge_passTime 2 .int ({ frames := 0, cells := 0, slots := 0, locals := 0 }) [.ref h0, .int ms] [] [(h0, .inr (3, [.ref kq, .ref cq, .ref pq, .int (nI rs), .int ck, .int lt, .ref dq, .ref e0, .ref rq, .ref tq]))] Unit (fun r _ => r = c_pt ck ms) (fun u => [(h0, .inr (3, [.ref kq, .ref cq, .ref pq, .int (nI rs), .int (c_pt ck ms), .int lt, .ref dq, .ref e0, .ref rq, .ref tq]))]) 0 0 := by
  refine xMi.by r_Ge (by decide +kernel) (Nat.le_of_ble_eq_true rfl) rfl ?_
  intro p e s m args below meth c A ls Q E B hro hl hret
  have hl : lv_has ls 2 [(0, .ref h0), (1, .int ms)] := hl
  refine lv_iload_n E.1 E.2.1 d_Ge_passTime_0 rfl (lv_at hl 1 rfl) ?_
  refine lv_if_le (tgt := 25) E.1 E.2.1 d_Ge_passTime_1 (by decide) (fun h1 => ?_) (fun h1 => ?_)
  · have B := B.eq ([(h0, .inr (3, [.ref kq, .ref cq, .ref pq, .int (nI rs), .int (c_pt ck ms), .int lt, .ref dq, .ref e0, .ref rq, .ref tq]))]) (by first | rw [c_pt_y h1 h2] | rw [c_pt_b h2] | rw [c_pt_a h1])
    refine lv_aload_n E.1 E.2.1 d_Ge_passTime_25 rfl (lv_at hl 0 rfl) ?_
    refine x_get E B 0 rfl k_Ge 4 (by decide) wd_117 rfl d_Ge_passTime_26 ?_
    exact hret _ () _ _ _ _ B (rfl) d_Ge_passTime_29
  · refine lv_iload_n E.1 E.2.1 d_Ge_passTime_4 rfl (lv_at hl 1 rfl) ?_
    refine lv_ldc E.1 E.2.1 E.2.2.2.1 (E.2.2.2.2 _ wd_226) d_Ge_passTime_5 ?_
    refine lv_aload_n E.1 E.2.1 d_Ge_passTime_7 rfl (lv_at hl 0 rfl) ?_
    refine x_get E B 0 rfl k_Ge 4 (by decide) wd_117 rfl d_Ge_passTime_8 ?_
    refine lv_isub E.1 E.2.1 d_Ge_passTime_11 ?_
    refine lv_icmp_gt (tgt := 25) E.1 E.2.1 d_Ge_passTime_12 (by decide) (fun h2 => ?_) (fun h2 => ?_)
    · have B := B.eq ([(h0, .inr (3, [.ref kq, .ref cq, .ref pq, .int (nI rs), .int (c_pt ck ms), .int lt, .ref dq, .ref e0, .ref rq, .ref tq]))]) (by first | rw [c_pt_y h1 h2] | rw [c_pt_b h2] | rw [c_pt_a h1])
      refine lv_aload_n E.1 E.2.1 d_Ge_passTime_25 rfl (lv_at hl 0 rfl) ?_
      refine x_get E B 0 rfl k_Ge 4 (by decide) wd_117 rfl d_Ge_passTime_26 ?_
      exact hret _ () _ _ _ _ B (rfl) d_Ge_passTime_29
    · refine lv_aload_n E.1 E.2.1 d_Ge_passTime_15 rfl (lv_at hl 0 rfl) ?_
      refine lv_dup E.1 E.2.1 d_Ge_passTime_16 rfl ?_
      refine x_get E B 0 rfl k_Ge 4 (by decide) wd_117 rfl d_Ge_passTime_17 ?_
      refine lv_iload_n E.1 E.2.1 d_Ge_passTime_20 rfl (lv_at hl 1 rfl) ?_
      refine lv_iadd E.1 E.2.1 d_Ge_passTime_21 ?_
      refine x_put E B 0 rfl k_Ge 4 (by decide) wd_117 rfl rfl rfl (Nat.le_of_ble_eq_true rfl) d_Ge_passTime_22 (fun H locs B => ?_)
      have B : xB G A s _ _ ([(h0, .inr (3, [.ref kq, .ref cq, .ref pq, .int (nI rs), .int (ck + ms), .int lt, .ref dq, .ref e0, .ref rq, .ref tq]))]) := B
      have B := B.eq ([(h0, .inr (3, [.ref kq, .ref cq, .ref pq, .int (nI rs), .int (c_pt ck ms), .int lt, .ref dq, .ref e0, .ref rq, .ref tq]))]) (by first | rw [c_pt_y h1 h2] | rw [c_pt_b h2] | rw [c_pt_a h1])
      refine lv_aload_n E.1 E.2.1 d_Ge_passTime_25 rfl (lv_at hl 0 rfl) ?_
      refine x_get E B 0 rfl k_Ge 4 (by decide) wd_117 rfl d_Ge_passTime_26 ?_
      exact hret _ () _ _ _ _ B (rfl) d_Ge_passTime_29
set_option maxHeartbeats 4000000 in
set_option maxRecDepth 100000 in
theorem q_Ge_isDrawingDue (G : xG) (l : Launch) (h0 kq cq pq dq e0 rq tq rs : Nat) (ck lt : Int32) (pa ba cap len : Nat → Nat) (pb : Nat → Nat → Nat) (hl0 : len 0 < 100000) : xMr G l y_Ge_isDrawingDue c_Ge_isDrawingDue 1 .boolean ({ frames := 0, cells := 0, slots := 0, locals := 0 }) [.ref h0] [] ([(h0, .inr (3, [.ref kq, .ref cq, .ref pq, .int (nI rs), .int ck, .int lt, .ref dq, .ref e0, .ref rq, .ref tq])), (pq, x_Q G 32 (fun j => some (pa j)))] ++ x_pl G pa ba cap len pb) (nI (c_du (len 0) ck lt)) := by
  refine xMrz.by r_Ge (by decide +kernel) (Nat.le_of_ble_eq_true rfl) rfl ?_
  intro p e s m args below meth c A ls Q E B hro hl hret
  have hl : lv_has ls 1 [(0, .ref h0)] := hl
  refine lv_aload_n E.1 E.2.1 d_Ge_isDrawingDue_0 rfl (lv_at hl 0 rfl) ?_
  refine x_get E B 0 rfl k_Ge 2 (by decide) wd_113 rfl d_Ge_isDrawingDue_1 ?_
  refine lv_iconst (v := nI 0) E.1 E.2.1 d_Ge_isDrawingDue_4 (by decide) ?_
  refine x_aldp E B 1 rfl (i := 0) (by omega) (by decide) d_Ge_isDrawingDue_5 ?_
  refine x_getL (N := 2) E rfl B (j := 0) (by omega) wd_67 d_Ge_isDrawingDue_6 ?_
  refine lv_bipush (v := nI 32) E.1 E.2.1 d_Ge_isDrawingDue_9 (by decide) ?_
  refine x_lt (tgt := 40) E d_Ge_isDrawingDue_11 (by decide) (by omega) (by omega) (fun h1 => ?_) (fun h1 => ?_)
  · refine lv_iconst (v := nI 0) E.1 E.2.1 d_Ge_isDrawingDue_40 (by decide) ?_
    exact hret _ _ _ (by first | exact c_du_0 h1 | exact c_du_1 h1 h2 | exact c_du_2 h1 h3 | exact c_du_3 h2 h3) rfl d_Ge_isDrawingDue_41
  · refine lv_aload_n E.1 E.2.1 d_Ge_isDrawingDue_14 rfl (lv_at hl 0 rfl) ?_
    refine x_get E B 0 rfl k_Ge 5 (by decide) wd_119 rfl d_Ge_isDrawingDue_15 ?_
    refine lv_iconst (v := -1) E.1 E.2.1 d_Ge_isDrawingDue_18 (by decide) ?_
    refine lv_icmp_eq (tgt := 36) E.1 E.2.1 d_Ge_isDrawingDue_19 (by decide) (fun h2 => ?_) (fun h2 => ?_)
    · refine lv_iconst (v := nI 1) E.1 E.2.1 d_Ge_isDrawingDue_36 (by decide) ?_
      refine lv_goto (tgt := 41) E.1 E.2.1 d_Ge_isDrawingDue_37 (by decide) ?_
      exact hret _ _ _ (by first | exact c_du_0 h1 | exact c_du_1 h1 h2 | exact c_du_2 h1 h3 | exact c_du_3 h2 h3) rfl d_Ge_isDrawingDue_41
    · refine lv_aload_n E.1 E.2.1 d_Ge_isDrawingDue_22 rfl (lv_at hl 0 rfl) ?_
      refine x_get E B 0 rfl k_Ge 4 (by decide) wd_117 rfl d_Ge_isDrawingDue_23 ?_
      refine lv_aload_n E.1 E.2.1 d_Ge_isDrawingDue_26 rfl (lv_at hl 0 rfl) ?_
      refine x_get E B 0 rfl k_Ge 5 (by decide) wd_119 rfl d_Ge_isDrawingDue_27 ?_
      refine lv_isub E.1 E.2.1 d_Ge_isDrawingDue_30 ?_
      refine lv_bipush (v := nI 100) E.1 E.2.1 d_Ge_isDrawingDue_31 (by decide) ?_
      refine lv_icmp_lt (tgt := 40) E.1 E.2.1 d_Ge_isDrawingDue_33 (by decide) (fun h3 => ?_) (fun h3 => ?_)
      · refine lv_iconst (v := nI 0) E.1 E.2.1 d_Ge_isDrawingDue_40 (by decide) ?_
        exact hret _ _ _ (by first | exact c_du_0 h1 | exact c_du_1 h1 h2 | exact c_du_2 h1 h3 | exact c_du_3 h2 h3) rfl d_Ge_isDrawingDue_41
      · refine lv_iconst (v := nI 1) E.1 E.2.1 d_Ge_isDrawingDue_36 (by decide) ?_
        refine lv_goto (tgt := 41) E.1 E.2.1 d_Ge_isDrawingDue_37 (by decide) ?_
        exact hret _ _ _ (by first | exact c_du_0 h1 | exact c_du_1 h1 h2 | exact c_du_2 h1 h3 | exact c_du_3 h2 h3) rfl d_Ge_isDrawingDue_41
set_option maxHeartbeats 4000000 in
set_option maxRecDepth 100000 in
theorem q_Ge_countOn (G : xG) (l : Launch) (h0 kq cq pq dq e0 rq tq rs : Nat) (ck lt : Int32) (ctr : Nat → Nat) (hb : g_bt 16 ctr) : xMv G l y_Ge_countOn c_Ge_countOn 2 ({ frames := 0, cells := 0, slots := 0, locals := 0 }) [.ref h0] [] [(h0, .inr (3, [.ref kq, .ref cq, .ref pq, .int (nI rs), .int ck, .int lt, .ref dq, .ref e0, .ref rq, .ref tq])), (cq, x_N G 16 ctr)] Unit (fun _ => True) (fun u => [(h0, .inr (3, [.ref kq, .ref cq, .ref pq, .int (nI rs), .int ck, .int lt, .ref dq, .ref e0, .ref rq, .ref tq])), (cq, x_N G 16 (g_ct ctr))]) 0 0 := by
  refine xMv.by r_Ge (by decide +kernel) (Nat.le_of_ble_eq_true rfl) rfl ?_
  intro p e s m args below meth c A ls Q E hin B hro hl hret
  have hl : lv_has ls 2 [(0, .ref h0)] := hl
  refine lv_iconst (v := nI 0) E.1 E.2.1 d_Ge_countOn_0 (by decide) ?_
  refine lv_istore_n (lv' := [(1, .int (nI 0)), (0, .ref h0)]) E.1 E.2.1 d_Ge_countOn_1 rfl hl (by decide) rfl (fun ls hl => ?_)
  have hL2 : ∀ (kf : Nat) (i : Nat), 16 - i < kf → (g_cE ctr i) → ∀ (H : Heap) (locs : List Loc) (ls : Array Slot), xB G A s H locs ([(h0, .inr (3, [.ref kq, .ref cq, .ref pq, .int (nI rs), .int ck, .int lt, .ref dq, .ref e0, .ref rq, .ref tq])), (cq, x_N G 16 (mx i (fun _ => 0) ctr))]) → lv_has ls 2 [(1, .int (nI i)), (0, .ref h0)] → W p l e ({ frames := 0, cells := 0, slots := 0, locals := 0 }) s m args below meth c H locs 0 0 Q (F0 m 2 ls []) := by
    intro k2
    induction k2 with
    | zero =>
      intro i hk
      exact absurd hk (Nat.not_lt_zero _)
    | succ k2 ih2 =>
      intro i hk2 hE H locs ls B hl
      have hi := hE.1
      refine lv_iload_n E.1 E.2.1 d_Ge_countOn_2 rfl (lv_at hl 0 rfl) ?_
      refine lv_bipush (v := nI 16) E.1 E.2.1 d_Ge_countOn_3 (by decide) ?_
      refine x_ge (tgt := 42) E d_Ge_countOn_5 (by decide) (by omega) (by omega) (fun c1 => ?_) (fun c1 => ?_)
      · obtain rfl : i = 16 := by have := hE.1; omega
        have B := B.fn 1 rfl (nA (g_ct ctr)) (g_ctX hE)
        have B : xB G A s _ _ ([(h0, .inr (3, [.ref kq, .ref cq, .ref pq, .int (nI rs), .int ck, .int lt, .ref dq, .ref e0, .ref rq, .ref tq])), (cq, x_N G 16 (g_ct ctr))]) := B
        exact hret () _ _ _ _ B trivial d_Ge_countOn_42
      · refine lv_aload_n E.1 E.2.1 d_Ge_countOn_8 rfl (lv_at hl 1 rfl) ?_
        refine x_get E B 0 rfl k_Ge 1 (by decide) wd_111 rfl d_Ge_countOn_9 ?_
        refine lv_iload_n E.1 E.2.1 d_Ge_countOn_12 rfl (lv_at hl 0 rfl) ?_
        refine lv_aload_n E.1 E.2.1 d_Ge_countOn_13 rfl (lv_at hl 1 rfl) ?_
        refine x_get E B 0 rfl k_Ge 1 (by decide) wd_111 rfl d_Ge_countOn_14 ?_
        refine lv_iload_n E.1 E.2.1 d_Ge_countOn_17 rfl (lv_at hl 0 rfl) ?_
        refine x_aldN E B 1 rfl (i := i) (by omega) (by decide) d_Ge_countOn_18 ?_
        refine x_top (show nI ((mx i (fun _ => 0) ctr) i) = nI (ctr i) from congrArg nI (by exact mx_ge (Nat.le_refl i))) ?_
        refine lv_iconst (v := nI 1) E.1 E.2.1 d_Ge_countOn_19 (by decide) ?_
        refine x_iadd E d_Ge_countOn_20 ?_
        refine lv_sipush (v := nI 255) E.1 E.2.1 d_Ge_countOn_21 (by decide) ?_
        refine lv_iand E.1 E.2.1 d_Ge_countOn_24 ?_
        refine x_top (v' := nI ((ctr i + 1) % 256)) (b_255 (by have := hb i (by omega); omega)) ?_
        refine x_astN E B 1 rfl (i := i) (v := (ctr i + 1) % 256) (by omega) (by decide) d_Ge_countOn_25 (fun H locs B => ?_)
        have B : xB G A s _ _ ([(h0, .inr (3, [.ref kq, .ref cq, .ref pq, .int (nI rs), .int ck, .int lt, .ref dq, .ref e0, .ref rq, .ref tq])), (cq, x_N G 16 (va_up (mx i (fun _ => 0) ctr) i ((ctr i + 1) % 256)))]) := B
        refine lv_aload_n E.1 E.2.1 d_Ge_countOn_26 rfl (lv_at hl 1 rfl) ?_
        refine x_get E B 0 rfl k_Ge 1 (by decide) wd_111 rfl d_Ge_countOn_27 ?_
        refine lv_iload_n E.1 E.2.1 d_Ge_countOn_30 rfl (lv_at hl 0 rfl) ?_
        refine x_aldN E B 1 rfl (i := i) (by omega) (by decide) d_Ge_countOn_31 ?_
        refine x_top (show nI ((va_up (mx i (fun _ => 0) ctr) i ((ctr i + 1) % 256)) i) = nI ((ctr i + 1) % 256) from congrArg nI (by exact va_up_self _ _ _)) ?_
        refine x_if0 (tgt := 36) E d_Ge_countOn_32 (by decide) (by omega) (fun hz => ?_) (fun hz => ?_)
        · have B := B.fn 1 rfl (nA (mx (i + 1) (fun _ => 0) ctr)) (mx_fn hz)
          have B : xB G A s _ _ ([(h0, .inr (3, [.ref kq, .ref cq, .ref pq, .int (nI rs), .int ck, .int lt, .ref dq, .ref e0, .ref rq, .ref tq])), (cq, x_N G 16 (mx (i + 1) (fun _ => 0) ctr))]) := B
          refine x_inc E 1 (lv' := [(1, .int (nI (i + 1))), (0, .ref h0)]) d_Ge_countOn_36 hl (k := 0) rfl rfl (by decide) rfl (fun ls hl => ?_)
          refine lv_goto (tgt := 2) E.1 E.2.1 d_Ge_countOn_39 (by decide) ?_
          exact ih2  (i + 1) (by omega) (g_cE_y hE (by omega) (by have := hb i (by omega); omega)) _ _ _ B (lv_sub hl [0, 1] rfl)
        · have B := B.fn 1 rfl (nA (g_ct ctr)) (g_ctR hE (by omega) (hb i (by omega)) hz)
          have B : xB G A s _ _ ([(h0, .inr (3, [.ref kq, .ref cq, .ref pq, .int (nI rs), .int ck, .int lt, .ref dq, .ref e0, .ref rq, .ref tq])), (cq, x_N G 16 (g_ct ctr))]) := B
          exact hret () _ _ _ _ B trivial d_Ge_countOn_35
  have B := B.fn 1 rfl (nA (mx 0 (fun _ => 0) ctr)) (mx_z _ _)
  have B : xB G A s _ _ ([(h0, .inr (3, [.ref kq, .ref cq, .ref pq, .int (nI rs), .int ck, .int lt, .ref dq, .ref e0, .ref rq, .ref tq])), (cq, x_N G 16 (mx 0 (fun _ => 0) ctr))]) := B
  exact hL2 (17) 0 (by omega) (g_cE_0 ctr) _ _ _ B (lv_sub hl [0, 1] rfl)
set_option maxHeartbeats 4000000 in
set_option maxRecDepth 100000 in
theorem q_Ge_reseed (G : xG) (l : Launch) (h0 kq cq pq dq e0 rq tq rs : Nat) (ck lt : Int32) (d1 d2 d3 : Nat) (Hf w0 : Nat → Int32) (go : Nat → Nat) (end_ : Nat) (key ctr rr tt : Nat → Nat) (he : end_ ≤ 1040) (hf : ∀ j, j < end_ → va_cpy key rr 0 0 16 j < 256) (hb : g_bt 16 ctr) : xMv G l y_Ge_reseed c_Ge_reseed 2 ({ frames := 4, cells := 0, slots := 0, locals := 108 }) [.ref h0, .int (nI end_)] [] [(h0, .inr (3, [.ref kq, .ref cq, .ref pq, .int (nI rs), .int ck, .int lt, .ref dq, .ref e0, .ref rq, .ref tq])), (kq, x_N G 16 key), (cq, x_N G 16 ctr), (dq, .inr (1, [.ref d1, .ref d2, .ref d3])), (d1, x_I G 8 Hf), (d2, x_I G 64 w0), (d3, x_N G 32 go), (rq, x_N G 1040 rr), (tq, x_N G 32 tt)] ((Nat → Int32) × (Nat → Int32)) (fun _ => True) (fun u => [(h0, .inr (3, [.ref kq, .ref cq, .ref pq, .int (nI rs), .int ck, .int lt, .ref dq, .ref e0, .ref rq, .ref tq])), (kq, x_N G 16 (h_tw (va_cpy key rr 0 0 16) end_)), (cq, x_N G 16 (g_ct ctr)), (dq, .inr (1, [.ref d1, .ref d2, .ref d3])), (d1, x_I G 8 u.1), (d2, x_I G 64 u.2), (d3, x_N G 32 (h_dg (va_cpy key rr 0 0 16) end_)), (rq, x_N G 1040 (va_cpy key rr 0 0 16)), (tq, x_N G 32 (h_tw (va_cpy key rr 0 0 16) end_))]) 0 0 := by
  refine xMv.by r_Ge (by decide +kernel) (Nat.le_of_ble_eq_true rfl) rfl ?_
  intro p e s m args below meth c A ls Q E hin B hro hl hret
  have hl : lv_has ls 2 [(0, .ref h0), (1, .int (nI end_))] := hl
  refine lv_aload_n E.1 E.2.1 d_Ge_reseed_0 rfl (lv_at hl 0 rfl) ?_
  refine x_get E B 0 rfl k_Ge 0 (by decide) wd_109 rfl d_Ge_reseed_1 ?_
  refine lv_iconst (v := nI 0) E.1 E.2.1 d_Ge_reseed_4 (by decide) ?_
  refine lv_aload_n E.1 E.2.1 d_Ge_reseed_5 rfl (lv_at hl 0 rfl) ?_
  refine x_get E B 0 rfl k_Ge 8 (by decide) wd_123 rfl d_Ge_reseed_6 ?_
  refine lv_iconst (v := nI 0) E.1 E.2.1 d_Ge_reseed_9 (by decide) ?_
  refine lv_bipush (v := nI 16) E.1 E.2.1 d_Ge_reseed_10 (by decide) ?_
  refine x_cpy E B wd_280 wd_217 wd_216 wd_41 1 7 (sp := 0) (dp := 0) (n := 16) rfl rfl (by omega) (by omega) (by decide) (by decide) hl.1 (Nat.le_of_ble_eq_true rfl) (Nat.le_of_ble_eq_true rfl) d_Ge_reseed_12 (fun H locs B => ?_)
  rw [x_cpN] at B
  have B : xB G A s _ _ ([(h0, .inr (3, [.ref kq, .ref cq, .ref pq, .int (nI rs), .int ck, .int lt, .ref dq, .ref e0, .ref rq, .ref tq])), (kq, x_N G 16 key), (cq, x_N G 16 ctr), (dq, .inr (1, [.ref d1, .ref d2, .ref d3])), (d1, x_I G 8 Hf), (d2, x_I G 64 w0), (d3, x_N G 32 go), (rq, x_N G 1040 (va_cpy key rr 0 0 16)), (tq, x_N G 32 tt)]) := B
  refine lv_aload_n E.1 E.2.1 d_Ge_reseed_15 rfl (lv_at hl 0 rfl) ?_
  refine x_get E B 0 rfl k_Ge 6 (by decide) wd_121 rfl d_Ge_reseed_16 ?_
  refine lv_aload_n E.1 E.2.1 d_Ge_reseed_19 rfl (lv_at hl 0 rfl) ?_
  refine x_get E B 0 rfl k_Ge 8 (by decide) wd_123 rfl d_Ge_reseed_20 ?_
  refine lv_iload_n E.1 E.2.1 d_Ge_reseed_23 rfl (lv_at hl 1 rfl) ?_
  refine lv_aload_n E.1 E.2.1 d_Ge_reseed_24 rfl (lv_at hl 0 rfl) ?_
  refine x_get E B 0 rfl k_Ge 9 (by decide) wd_124 rfl d_Ge_reseed_25 ?_
  refine lv_iconst (v := nI 0) E.1 E.2.1 d_Ge_reseed_28 (by decide) ?_
  refine x_cv (ws' := (fun u => [(h0, .inr (3, [.ref kq, .ref cq, .ref pq, .int (nI rs), .int ck, .int lt, .ref dq, .ref e0, .ref rq, .ref tq])), (kq, x_N G 16 key), (cq, x_N G 16 ctr), (dq, .inr (1, [.ref d1, .ref d2, .ref d3])), (d1, x_I G 8 u.1), (d2, x_I G 64 u.2), (d3, x_N G 32 (h_dg (va_cpy key rr 0 0 16) end_)), (rq, x_N G 1040 (va_cpy key rr 0 0 16)), (tq, x_N G 32 (va_cpy (h_tw (va_cpy key rr 0 0 16) end_) tt 0 0 32))])) (wr := [(h0, .inr (3, [.ref kq, .ref cq, .ref pq, .int (nI rs), .int ck, .int lt, .ref dq, .ref e0, .ref rq, .ref tq])), (kq, x_N G 16 key), (cq, x_N G 16 ctr), (rq, x_N G 1040 (va_cpy key rr 0 0 16))]) B (x_rV (rest := []) E B (q_Dg_twice G l dq d1 d2 d3 rq 1040 end_ tq 32 0 (va_cpy key rr 0 0 16) go tt Hf w0 (by omega) (by omega) (hf) (by omega) (by omega) _) (x_pre B [3, 4, 5, 6, 8] rfl (by decide) (x_ro1 (x_ro_w B 7 rfl [3, 4, 5, 6, 8] rfl (by decide)))) 3 rfl k_Dg (gg_V wd_242 wd_243 wd_244 wd_37 wd_245) ⟨rfl, p_Dg_twice⟩ rfl rfl ⟨Nat.le_of_ble_eq_true rfl, Nat.le_of_ble_eq_true rfl⟩ rfl hl.1 rfl (Nat.le_of_ble_eq_true rfl) d_Ge_reseed_29 ⟨Nat.le_of_ble_eq_true rfl, Nat.le_of_ble_eq_true rfl⟩) [3, 4, 5, 6, 8] [0, 1, 2, 7] [0, 1, 2, 4, 5, 6, 7, 3, 8] rfl rfl (by decide) (by decide) (by decide) (fun _ => rfl) (fun u29 H locs hw29 B => ?_)
  have B : xB G A s _ _ ([(h0, .inr (3, [.ref kq, .ref cq, .ref pq, .int (nI rs), .int ck, .int lt, .ref dq, .ref e0, .ref rq, .ref tq])), (kq, x_N G 16 key), (cq, x_N G 16 ctr), (dq, .inr (1, [.ref d1, .ref d2, .ref d3])), (d1, x_I G 8 u29.1), (d2, x_I G 64 u29.2), (d3, x_N G 32 (h_dg (va_cpy key rr 0 0 16) end_)), (rq, x_N G 1040 (va_cpy key rr 0 0 16)), (tq, x_N G 32 (va_cpy (h_tw (va_cpy key rr 0 0 16) end_) tt 0 0 32))]) := B
  have B := B.fn 8 rfl (nA (h_tw (va_cpy key rr 0 0 16) end_)) (cp_0)
  have B : xB G A s _ _ ([(h0, .inr (3, [.ref kq, .ref cq, .ref pq, .int (nI rs), .int ck, .int lt, .ref dq, .ref e0, .ref rq, .ref tq])), (kq, x_N G 16 key), (cq, x_N G 16 ctr), (dq, .inr (1, [.ref d1, .ref d2, .ref d3])), (d1, x_I G 8 u29.1), (d2, x_I G 64 u29.2), (d3, x_N G 32 (h_dg (va_cpy key rr 0 0 16) end_)), (rq, x_N G 1040 (va_cpy key rr 0 0 16)), (tq, x_N G 32 (h_tw (va_cpy key rr 0 0 16) end_))]) := B
  refine lv_aload_n E.1 E.2.1 d_Ge_reseed_32 rfl (lv_at hl 0 rfl) ?_
  refine x_get E B 0 rfl k_Ge 9 (by decide) wd_124 rfl d_Ge_reseed_33 ?_
  refine lv_iconst (v := nI 0) E.1 E.2.1 d_Ge_reseed_36 (by decide) ?_
  refine lv_aload_n E.1 E.2.1 d_Ge_reseed_37 rfl (lv_at hl 0 rfl) ?_
  refine x_get E B 0 rfl k_Ge 0 (by decide) wd_109 rfl d_Ge_reseed_38 ?_
  refine lv_iconst (v := nI 0) E.1 E.2.1 d_Ge_reseed_41 (by decide) ?_
  refine lv_bipush (v := nI 16) E.1 E.2.1 d_Ge_reseed_42 (by decide) ?_
  refine x_cpy E B wd_280 wd_217 wd_216 wd_41 8 1 (sp := 0) (dp := 0) (n := 16) rfl rfl (by omega) (by omega) (by decide) (by decide) hl.1 (Nat.le_of_ble_eq_true rfl) (Nat.le_of_ble_eq_true rfl) d_Ge_reseed_44 (fun H locs B => ?_)
  rw [x_cpN] at B
  have B : xB G A s _ _ ([(h0, .inr (3, [.ref kq, .ref cq, .ref pq, .int (nI rs), .int ck, .int lt, .ref dq, .ref e0, .ref rq, .ref tq])), (kq, x_N G 16 (va_cpy (h_tw (va_cpy key rr 0 0 16) end_) key 0 0 16)), (cq, x_N G 16 ctr), (dq, .inr (1, [.ref d1, .ref d2, .ref d3])), (d1, x_I G 8 u29.1), (d2, x_I G 64 u29.2), (d3, x_N G 32 (h_dg (va_cpy key rr 0 0 16) end_)), (rq, x_N G 1040 (va_cpy key rr 0 0 16)), (tq, x_N G 32 (h_tw (va_cpy key rr 0 0 16) end_))]) := B
  have B := B.fn 1 rfl (nA (h_tw (va_cpy key rr 0 0 16) end_)) (cp_0)
  have B : xB G A s _ _ ([(h0, .inr (3, [.ref kq, .ref cq, .ref pq, .int (nI rs), .int ck, .int lt, .ref dq, .ref e0, .ref rq, .ref tq])), (kq, x_N G 16 (h_tw (va_cpy key rr 0 0 16) end_)), (cq, x_N G 16 ctr), (dq, .inr (1, [.ref d1, .ref d2, .ref d3])), (d1, x_I G 8 u29.1), (d2, x_I G 64 u29.2), (d3, x_N G 32 (h_dg (va_cpy key rr 0 0 16) end_)), (rq, x_N G 1040 (va_cpy key rr 0 0 16)), (tq, x_N G 32 (h_tw (va_cpy key rr 0 0 16) end_))]) := B
  refine lv_aload_n E.1 E.2.1 d_Ge_reseed_47 rfl (lv_at hl 0 rfl) ?_
  refine x_cv (ws' := (fun u => [(h0, .inr (3, [.ref kq, .ref cq, .ref pq, .int (nI rs), .int ck, .int lt, .ref dq, .ref e0, .ref rq, .ref tq])), (kq, x_N G 16 (h_tw (va_cpy key rr 0 0 16) end_)), (cq, x_N G 16 (g_ct ctr)), (dq, .inr (1, [.ref d1, .ref d2, .ref d3])), (d1, x_I G 8 u29.1), (d2, x_I G 64 u29.2), (d3, x_N G 32 (h_dg (va_cpy key rr 0 0 16) end_)), (rq, x_N G 1040 (va_cpy key rr 0 0 16)), (tq, x_N G 32 (h_tw (va_cpy key rr 0 0 16) end_))])) (wr := [(kq, x_N G 16 (h_tw (va_cpy key rr 0 0 16) end_)), (dq, .inr (1, [.ref d1, .ref d2, .ref d3])), (d1, x_I G 8 u29.1), (d2, x_I G 64 u29.2), (d3, x_N G 32 (h_dg (va_cpy key rr 0 0 16) end_)), (rq, x_N G 1040 (va_cpy key rr 0 0 16)), (tq, x_N G 32 (h_tw (va_cpy key rr 0 0 16) end_))]) B (x_rV (rest := []) E B (q_Ge_countOn G l h0 kq cq pq dq e0 rq tq rs ck lt ctr (hb) _) (x_pre B [0, 2] rfl (by decide) x_ro0) 0 rfl k_Ge (gg_V wd_281 wd_283 wd_8 wd_35 wd_284) ⟨rfl, p_Ge_countOn⟩ rfl rfl ⟨Nat.le_of_ble_eq_true rfl, Nat.le_of_ble_eq_true rfl⟩ rfl hl.1 rfl (Nat.le_of_ble_eq_true rfl) d_Ge_reseed_48 ⟨Nat.le_of_ble_eq_true rfl, Nat.le_of_ble_eq_true rfl⟩) [0, 2] [1, 3, 4, 5, 6, 7, 8] [7, 0, 8, 1, 2, 3, 4, 5, 6] rfl rfl (by decide) (by decide) (by decide) (fun _ => rfl) (fun u48 H locs hw48 B => ?_)
  have B : xB G A s _ _ ([(h0, .inr (3, [.ref kq, .ref cq, .ref pq, .int (nI rs), .int ck, .int lt, .ref dq, .ref e0, .ref rq, .ref tq])), (kq, x_N G 16 (h_tw (va_cpy key rr 0 0 16) end_)), (cq, x_N G 16 (g_ct ctr)), (dq, .inr (1, [.ref d1, .ref d2, .ref d3])), (d1, x_I G 8 u29.1), (d2, x_I G 64 u29.2), (d3, x_N G 32 (h_dg (va_cpy key rr 0 0 16) end_)), (rq, x_N G 1040 (va_cpy key rr 0 0 16)), (tq, x_N G 32 (h_tw (va_cpy key rr 0 0 16) end_))]) := B
  exact hret u29 _ _ _ _ B trivial d_Ge_reseed_51
set_option maxHeartbeats 4000000 in
set_option maxRecDepth 100000 in
theorem q_Ge_reseedWith (G : xG) (l : Launch) (h0 kq cq pq dq e0 rq tq rs : Nat) (ck lt : Int32) (d1 d2 d3 : Nat) (Hf w0 : Nat → Int32) (go : Nat → Nat) (bq bn fr cnt : Nat) (key ctr rr tt f : Nat → Nat) (he : fr + cnt ≤ bn) (he2 : cnt ≤ 1024) (hbn : bn < 100000) (hk : g_bt 16 key) (hf : ∀ j, j < cnt → f (fr + j) < 256) (hb : g_bt 16 ctr) : xMv G l y_Ge_reseedWith c_Ge_reseedWith 4 ({ frames := 5, cells := 0, slots := 0, locals := 129 }) [.ref h0, .ref bq, .int (nI fr), .int (nI cnt)] [(bq, bn, nA f)] [(h0, .inr (3, [.ref kq, .ref cq, .ref pq, .int (nI rs), .int ck, .int lt, .ref dq, .ref e0, .ref rq, .ref tq])), (kq, x_N G 16 key), (cq, x_N G 16 ctr), (dq, .inr (1, [.ref d1, .ref d2, .ref d3])), (d1, x_I G 8 Hf), (d2, x_I G 64 w0), (d3, x_N G 32 go), (rq, x_N G 1040 rr), (tq, x_N G 32 tt)] ((Nat → Int32) × (Nat → Int32)) (fun _ => True) (fun u => [(h0, .inr (3, [.ref kq, .ref cq, .ref pq, .int (nI rs), .int ck, .int lt, .ref dq, .ref e0, .ref rq, .ref tq])), (kq, x_N G 16 (h_tw (va_cpy key (va_cpy f rr fr 16 cnt) 0 0 16) (16 + cnt))), (cq, x_N G 16 (g_ct ctr)), (dq, .inr (1, [.ref d1, .ref d2, .ref d3])), (d1, x_I G 8 u.1), (d2, x_I G 64 u.2), (d3, x_N G 32 (h_dg (va_cpy key (va_cpy f rr fr 16 cnt) 0 0 16) (16 + cnt))), (rq, x_N G 1040 (va_cpy key (va_cpy f rr fr 16 cnt) 0 0 16)), (tq, x_N G 32 (h_tw (va_cpy key (va_cpy f rr fr 16 cnt) 0 0 16) (16 + cnt)))]) 0 0 := by
  refine xMv.by r_Ge (by decide +kernel) (Nat.le_of_ble_eq_true rfl) rfl ?_
  intro p e s m args below meth c A ls Q E hin B hro hl hret
  have hl : lv_has ls 4 [(0, .ref h0), (1, .ref bq), (2, .int (nI fr)), (3, .int (nI cnt))] := hl
  have hR0 : x_R A s s.heap bq bn (nA f) := hro _ (List.mem_of_getElem? (i := 0) rfl)
  refine lv_aload_n E.1 E.2.1 d_Ge_reseedWith_0 rfl (lv_at hl 1 rfl) ?_
  refine lv_iload_n E.1 E.2.1 d_Ge_reseedWith_1 rfl (lv_at hl 2 rfl) ?_
  refine lv_aload_n E.1 E.2.1 d_Ge_reseedWith_2 rfl (lv_at hl 0 rfl) ?_
  refine x_get E B 0 rfl k_Ge 8 (by decide) wd_123 rfl d_Ge_reseedWith_3 ?_
  refine lv_bipush (v := nI 16) E.1 E.2.1 d_Ge_reseedWith_6 (by decide) ?_
  refine lv_iload_n E.1 E.2.1 d_Ge_reseedWith_8 rfl (lv_at hl 3 rfl) ?_
  refine x_cpt E B wd_280 wd_217 wd_216 wd_41 hR0 7 (sp := fr) (dp := 16) (n := cnt) rfl (by omega) (by omega) (by omega) (by decide) hl.1 (Nat.le_of_ble_eq_true rfl) (Nat.le_of_ble_eq_true rfl) d_Ge_reseedWith_9 (fun H locs B => ?_)
  rw [x_cpN] at B
  have B : xB G A s _ _ ([(h0, .inr (3, [.ref kq, .ref cq, .ref pq, .int (nI rs), .int ck, .int lt, .ref dq, .ref e0, .ref rq, .ref tq])), (kq, x_N G 16 key), (cq, x_N G 16 ctr), (dq, .inr (1, [.ref d1, .ref d2, .ref d3])), (d1, x_I G 8 Hf), (d2, x_I G 64 w0), (d3, x_N G 32 go), (rq, x_N G 1040 (va_cpy f rr fr 16 cnt)), (tq, x_N G 32 tt)]) := B
  refine lv_aload_n E.1 E.2.1 d_Ge_reseedWith_12 rfl (lv_at hl 0 rfl) ?_
  refine lv_bipush (v := nI 16) E.1 E.2.1 d_Ge_reseedWith_13 (by decide) ?_
  refine lv_iload_n E.1 E.2.1 d_Ge_reseedWith_15 rfl (lv_at hl 3 rfl) ?_
  refine x_iadd E d_Ge_reseedWith_16 ?_
  refine x_cv (ws' := (fun u => [(h0, .inr (3, [.ref kq, .ref cq, .ref pq, .int (nI rs), .int ck, .int lt, .ref dq, .ref e0, .ref rq, .ref tq])), (kq, x_N G 16 (h_tw (va_cpy key (va_cpy f rr fr 16 cnt) 0 0 16) (16 + cnt))), (cq, x_N G 16 (g_ct ctr)), (dq, .inr (1, [.ref d1, .ref d2, .ref d3])), (d1, x_I G 8 u.1), (d2, x_I G 64 u.2), (d3, x_N G 32 (h_dg (va_cpy key (va_cpy f rr fr 16 cnt) 0 0 16) (16 + cnt))), (rq, x_N G 1040 (va_cpy key (va_cpy f rr fr 16 cnt) 0 0 16)), (tq, x_N G 32 (h_tw (va_cpy key (va_cpy f rr fr 16 cnt) 0 0 16) (16 + cnt)))])) (wr := []) B (x_rV (rest := []) E B (q_Ge_reseed G l h0 kq cq pq dq e0 rq tq rs ck lt d1 d2 d3 Hf w0 go (16 + cnt) key ctr (va_cpy f rr fr 16 cnt) tt (by omega) (r_wb hk hf) (hb) _) (x_pre B [0, 1, 2, 3, 4, 5, 6, 7, 8] rfl (by decide) x_ro0) 0 rfl k_Ge (gg_V wd_276 wd_278 wd_7 wd_35 wd_279) ⟨rfl, p_Ge_reseed⟩ rfl rfl ⟨Nat.le_of_ble_eq_true rfl, Nat.le_of_ble_eq_true rfl⟩ rfl hl.1 rfl (Nat.le_of_ble_eq_true rfl) d_Ge_reseedWith_17 ⟨Nat.le_of_ble_eq_true rfl, Nat.le_of_ble_eq_true rfl⟩) [0, 1, 2, 3, 4, 5, 6, 7, 8] [] [0, 1, 2, 3, 4, 5, 6, 7, 8] rfl rfl (by decide) (by decide) (by decide) (fun _ => rfl) (fun u17 H locs hw17 B => ?_)
  have B : xB G A s _ _ ([(h0, .inr (3, [.ref kq, .ref cq, .ref pq, .int (nI rs), .int ck, .int lt, .ref dq, .ref e0, .ref rq, .ref tq])), (kq, x_N G 16 (h_tw (va_cpy key (va_cpy f rr fr 16 cnt) 0 0 16) (16 + cnt))), (cq, x_N G 16 (g_ct ctr)), (dq, .inr (1, [.ref d1, .ref d2, .ref d3])), (d1, x_I G 8 u17.1), (d2, x_I G 64 u17.2), (d3, x_N G 32 (h_dg (va_cpy key (va_cpy f rr fr 16 cnt) 0 0 16) (16 + cnt))), (rq, x_N G 1040 (va_cpy key (va_cpy f rr fr 16 cnt) 0 0 16)), (tq, x_N G 32 (h_tw (va_cpy key (va_cpy f rr fr 16 cnt) 0 0 16) (16 + cnt)))]) := B
  exact hret u17 _ _ _ _ B trivial d_Ge_reseedWith_20
