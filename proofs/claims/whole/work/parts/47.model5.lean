set_option maxHeartbeats 4000000 in
set_option maxRecDepth 100000 in
theorem q_Mo_generatesAll (G : xG) (l : Launch) (h0 cd kq cq rs lq pq oq os bq rq ln wq hq dq nq aq xq yq sq tq rd : Nat) (ck lt tc wr : Int32) (n_ nb : Nat) (key ctr md bl ot s0 tt : Nat → Nat) (hk : g_bt 16 key) (hb : g_bt 16 ctr) (hn : n_ ≤ 256) (hnb : nb = (n_ + 15) / 16) (hrd : g_rd rd tt) : xMv G l y_Mo_generatesAll c_Mo_generatesAll 4 ({ frames := 5, cells := 0, slots := 0, locals := 121 }) [.ref h0, .int (nI n_)] [] [(h0, .inr (6, [.int (nI cd), .ref kq, .ref cq, .int (nI rs), .int ck, .int lt, .ref lq, .ref pq, .ref oq, .int (nI os), .ref bq, .int tc, .int wr, .ref rq, .int (nI ln), .ref wq, .ref hq, .ref dq, .ref nq, .ref aq, .ref xq, .ref yq, .ref sq, .ref tq, .int (nI rd)])), (kq, x_N G 16 key), (cq, x_N G 16 ctr), (aq, x_N G 272 md), (xq, x_N G 16 bl), (yq, x_N G 16 ot), (sq, x_N G 176 s0), (tq, x_N G 256 tt)] (Nat × (Nat → Nat) × (Nat → Nat) × (Nat → Nat)) (fun u => g_rd u.1 u.2.1) (fun u => [(h0, .inr (6, [.int (nI cd), .ref kq, .ref cq, .int (nI rs), .int ck, .int lt, .ref lq, .ref pq, .ref oq, .int (nI os), .ref bq, .int tc, .int wr, .ref rq, .int (nI ln), .ref wq, .ref hq, .ref dq, .ref nq, .ref aq, .ref xq, .ref yq, .ref sq, .ref tq, .int (nI u.1)])), (kq, x_N G 16 (g_key key ctr nb)), (cq, x_N G 16 (g_cts ctr (nb + 1))), (aq, x_N G 272 (va_cpy (g_key key ctr nb) (g_gen (g_sch key) ctr md nb) 0 256 16)), (xq, x_N G 16 u.2.2.1), (yq, x_N G 16 u.2.2.2), (sq, x_N G 176 (g_sch key)), (tq, x_N G 256 u.2.1)]) 0 0 := by
  refine xMv.by r_Mo (by decide +kernel) (Nat.le_of_ble_eq_true rfl) rfl ?_
  intro p e s m args below meth c A ls Q E hin B hro hl hret
  have hl : lv_has ls 4 [(0, .ref h0), (1, .int (nI n_))] := hl
  refine lv_iload_n E.1 E.2.1 d_Mo_generatesAll_0 rfl (lv_at hl 1 rfl) ?_
  refine lv_bipush (v := nI 15) E.1 E.2.1 d_Mo_generatesAll_1 (by decide) ?_
  refine x_iadd E d_Mo_generatesAll_3 ?_
  refine lv_bipush (v := nI 16) E.1 E.2.1 d_Mo_generatesAll_4 (by decide) ?_
  refine x_idiv E d_Mo_generatesAll_6 (by omega) (by decide) (by decide) ?_
  refine x_top (show nI ((n_ + 15) / 16) = nI nb from congrArg nI (by exact hnb.symm)) ?_
  refine lv_istore_n (lv' := [(2, .int (nI nb)), (0, .ref h0), (1, .int (nI n_))]) E.1 E.2.1 d_Mo_generatesAll_7 rfl hl (by decide) rfl (fun ls hl => ?_)
  refine lv_iconst (v := nI 0) E.1 E.2.1 d_Mo_generatesAll_8 (by decide) ?_
  refine lv_istore_n (lv' := [(3, .int (nI 0)), (2, .int (nI nb)), (0, .ref h0), (1, .int (nI n_))]) E.1 E.2.1 d_Mo_generatesAll_9 rfl hl (by decide) rfl (fun ls hl => ?_)
  have hL10 : ∀ (kf : Nat) (b : Nat) (bl_ ot_ s0_ : Nat → Nat) (rd_ : Nat) (tt_ : Nat → Nat), nb - b < kf → (b ≤ nb) → (g_rd rd_ tt_) → ∀ (H : Heap) (locs : List Loc) (ls : Array Slot), xB G A s H locs ([(h0, .inr (6, [.int (nI cd), .ref kq, .ref cq, .int (nI rs), .int ck, .int lt, .ref lq, .ref pq, .ref oq, .int (nI os), .ref bq, .int tc, .int wr, .ref rq, .int (nI ln), .ref wq, .ref hq, .ref dq, .ref nq, .ref aq, .ref xq, .ref yq, .ref sq, .ref tq, .int (nI rd_)])), (kq, x_N G 16 key), (cq, x_N G 16 (g_cts ctr b)), (aq, x_N G 272 (g_gen (g_sch key) ctr md b)), (xq, x_N G 16 bl_), (yq, x_N G 16 ot_), (sq, x_N G 176 s0_), (tq, x_N G 256 tt_)]) → lv_has ls 4 [(3, .int (nI b)), (2, .int (nI nb)), (0, .ref h0), (1, .int (nI n_))] → W p l e ({ frames := 5, cells := 0, slots := 0, locals := 121 }) s m args below meth c H locs 0 0 Q (F0 m 10 ls []) := by
    intro k10
    induction k10 with
    | zero =>
      intro b bl_ ot_ s0_ rd_ tt_ hk
      exact absurd hk (Nat.not_lt_zero _)
    | succ k10 ih10 =>
      intro b bl_ ot_ s0_ rd_ tt_ hk10 hbn hrd_ H locs ls B hl
      refine lv_iload_n E.1 E.2.1 d_Mo_generatesAll_10 rfl (lv_at hl 0 rfl) ?_
      refine lv_iload_n E.1 E.2.1 d_Mo_generatesAll_11 rfl (lv_at hl 1 rfl) ?_
      refine x_ge (tgt := 29) E d_Mo_generatesAll_12 (by decide) (by omega) (by omega) (fun c1 => ?_) (fun c1 => ?_)
      · obtain rfl : nb = b := by omega
        refine lv_aload_n E.1 E.2.1 d_Mo_generatesAll_29 rfl (lv_at hl 2 rfl) ?_
        refine lv_sipush (v := nI 256) E.1 E.2.1 d_Mo_generatesAll_30 (by decide) ?_
        refine x_cv (ws' := (fun u => [(h0, .inr (6, [.int (nI cd), .ref kq, .ref cq, .int (nI rs), .int ck, .int lt, .ref lq, .ref pq, .ref oq, .int (nI os), .ref bq, .int tc, .int wr, .ref rq, .int (nI ln), .ref wq, .ref hq, .ref dq, .ref nq, .ref aq, .ref xq, .ref yq, .ref sq, .ref tq, .int (nI u.1)])), (kq, x_N G 16 key), (cq, x_N G 16 (g_ct (g_cts ctr nb))), (aq, x_N G 272 (va_cpy (g_blk (g_sch key) (g_cts ctr nb) 10) (g_gen (g_sch key) ctr md nb) 0 256 16)), (xq, x_N G 16 (g_blk (g_sch key) (g_cts ctr nb) 10)), (yq, x_N G 16 u.2.2), (sq, x_N G 176 (g_sch key)), (tq, x_N G 256 u.2.1)])) (wr := []) B (x_rV (rest := []) E B (q_Mo_generates G l h0 cd kq cq rs lq pq oq os bq rq ln wq hq dq nq aq xq yq sq tq rd_ ck lt tc wr 256 key (g_cts ctr nb) (g_gen (g_sch key) ctr md nb) bl_ ot_ s0_ tt_ (hk) (g_cts_bt hb _) (by omega) (hrd_) _) (x_pre B [0, 1, 2, 3, 4, 5, 6, 7] rfl (by decide) x_ro0) 0 rfl k_Mo (gg_V wd_614 wd_616 wd_28 wd_40 wd_617) ⟨rfl, p_Mo_generates⟩ rfl rfl ⟨Nat.le_of_ble_eq_true rfl, Nat.le_of_ble_eq_true rfl⟩ rfl hl.1 rfl (Nat.le_of_ble_eq_true rfl) d_Mo_generatesAll_33 ⟨Nat.le_of_ble_eq_true rfl, Nat.le_of_ble_eq_true rfl⟩) [0, 1, 2, 3, 4, 5, 6, 7] [] [0, 1, 2, 3, 4, 5, 6, 7] rfl rfl (by decide) (by decide) (by decide) (fun _ => rfl) (fun u33 H locs hw33 B => ?_)
        have B : xB G A s _ _ ([(h0, .inr (6, [.int (nI cd), .ref kq, .ref cq, .int (nI rs), .int ck, .int lt, .ref lq, .ref pq, .ref oq, .int (nI os), .ref bq, .int tc, .int wr, .ref rq, .int (nI ln), .ref wq, .ref hq, .ref dq, .ref nq, .ref aq, .ref xq, .ref yq, .ref sq, .ref tq, .int (nI u33.1)])), (kq, x_N G 16 key), (cq, x_N G 16 (g_ct (g_cts ctr nb))), (aq, x_N G 272 (va_cpy (g_blk (g_sch key) (g_cts ctr nb) 10) (g_gen (g_sch key) ctr md nb) 0 256 16)), (xq, x_N G 16 (g_blk (g_sch key) (g_cts ctr nb) 10)), (yq, x_N G 16 u33.2.2), (sq, x_N G 176 (g_sch key)), (tq, x_N G 256 u33.2.1)]) := B
        refine lv_iconst (v := nI 0) E.1 E.2.1 d_Mo_generatesAll_36 (by decide) ?_
        refine lv_istore_n (lv' := [(3, .int (nI 0)), (2, .int (nI nb)), (0, .ref h0), (1, .int (nI n_))]) E.1 E.2.1 d_Mo_generatesAll_37 rfl hl (by decide) rfl (fun ls hl => ?_)
        have hL38 : ∀ (kf : Nat) (i : Nat), 16 - i < kf → (i ≤ 16) → ∀ (H : Heap) (locs : List Loc) (ls : Array Slot), xB G A s H locs ([(h0, .inr (6, [.int (nI cd), .ref kq, .ref cq, .int (nI rs), .int ck, .int lt, .ref lq, .ref pq, .ref oq, .int (nI os), .ref bq, .int tc, .int wr, .ref rq, .int (nI ln), .ref wq, .ref hq, .ref dq, .ref nq, .ref aq, .ref xq, .ref yq, .ref sq, .ref tq, .int (nI u33.1)])), (kq, x_N G 16 (mx i (g_key key ctr nb) key)), (cq, x_N G 16 (g_cts ctr (nb + 1))), (aq, x_N G 272 (va_cpy (g_key key ctr nb) (g_gen (g_sch key) ctr md nb) 0 256 16)), (xq, x_N G 16 (g_blk (g_sch key) (g_cts ctr nb) 10)), (yq, x_N G 16 u33.2.2), (sq, x_N G 176 (g_sch key)), (tq, x_N G 256 u33.2.1)]) → lv_has ls 4 [(3, .int (nI i)), (0, .ref h0)] → W p l e ({ frames := 5, cells := 0, slots := 0, locals := 121 }) s m args below meth c H locs 0 0 Q (F0 m 38 ls []) := by
          intro k38
          induction k38 with
          | zero =>
            intro i hk
            exact absurd hk (Nat.not_lt_zero _)
          | succ k38 ih38 =>
            intro i hk38 hi H locs ls B hl
            refine lv_iload_n E.1 E.2.1 d_Mo_generatesAll_38 rfl (lv_at hl 0 rfl) ?_
            refine lv_bipush (v := nI 16) E.1 E.2.1 d_Mo_generatesAll_39 (by decide) ?_
            refine x_ge (tgt := 66) E d_Mo_generatesAll_41 (by decide) (by omega) (by omega) (fun c2 => ?_) (fun c2 => ?_)
            · obtain rfl : i = 16 := by omega
              have B := B.fn 1 rfl (nA (g_key key ctr nb)) (mx_e)
              have B : xB G A s _ _ ([(h0, .inr (6, [.int (nI cd), .ref kq, .ref cq, .int (nI rs), .int ck, .int lt, .ref lq, .ref pq, .ref oq, .int (nI os), .ref bq, .int tc, .int wr, .ref rq, .int (nI ln), .ref wq, .ref hq, .ref dq, .ref nq, .ref aq, .ref xq, .ref yq, .ref sq, .ref tq, .int (nI u33.1)])), (kq, x_N G 16 (g_key key ctr nb)), (cq, x_N G 16 (g_cts ctr (nb + 1))), (aq, x_N G 272 (va_cpy (g_key key ctr nb) (g_gen (g_sch key) ctr md nb) 0 256 16)), (xq, x_N G 16 (g_blk (g_sch key) (g_cts ctr nb) 10)), (yq, x_N G 16 u33.2.2), (sq, x_N G 176 (g_sch key)), (tq, x_N G 256 u33.2.1)]) := B
              exact hret (u33.1, u33.2.1, _, _) _ _ _ _ B hw33 d_Mo_generatesAll_66
            · refine lv_aload_n E.1 E.2.1 d_Mo_generatesAll_44 rfl (lv_at hl 1 rfl) ?_
              refine x_get E B 0 rfl k_Mo 1 (by decide) wd_394 rfl d_Mo_generatesAll_45 ?_
              refine lv_iload_n E.1 E.2.1 d_Mo_generatesAll_48 rfl (lv_at hl 0 rfl) ?_
              refine lv_aload_n E.1 E.2.1 d_Mo_generatesAll_49 rfl (lv_at hl 1 rfl) ?_
              refine x_get E B 0 rfl k_Mo 19 (by decide) wd_412 rfl d_Mo_generatesAll_50 ?_
              refine lv_sipush (v := nI 256) E.1 E.2.1 d_Mo_generatesAll_53 (by decide) ?_
              refine lv_iload_n E.1 E.2.1 d_Mo_generatesAll_56 rfl (lv_at hl 0 rfl) ?_
              refine x_iadd E d_Mo_generatesAll_57 ?_
              refine x_aldN E B 3 rfl (i := 256 + i) (by omega) (by decide) d_Mo_generatesAll_58 ?_
              refine x_top (show nI ((va_cpy (g_key key ctr nb) (g_gen (g_sch key) ctr md nb) 0 256 16) (256 + i)) = nI (g_key key ctr nb i) from congrArg nI (by rw [pk_cpy_in (by omega) (by omega)]; show g_key key ctr nb (0 + (256 + i - 256)) = _; congr 1; omega)) ?_
              refine x_astN E B 1 rfl (i := i) (v := g_key key ctr nb i) (by omega) (by decide) d_Mo_generatesAll_59 (fun H locs B => ?_)
              have B : xB G A s _ _ ([(h0, .inr (6, [.int (nI cd), .ref kq, .ref cq, .int (nI rs), .int ck, .int lt, .ref lq, .ref pq, .ref oq, .int (nI os), .ref bq, .int tc, .int wr, .ref rq, .int (nI ln), .ref wq, .ref hq, .ref dq, .ref nq, .ref aq, .ref xq, .ref yq, .ref sq, .ref tq, .int (nI u33.1)])), (kq, x_N G 16 (va_up (mx i (g_key key ctr nb) key) i (g_key key ctr nb i))), (cq, x_N G 16 (g_cts ctr (nb + 1))), (aq, x_N G 272 (va_cpy (g_key key ctr nb) (g_gen (g_sch key) ctr md nb) 0 256 16)), (xq, x_N G 16 (g_blk (g_sch key) (g_cts ctr nb) 10)), (yq, x_N G 16 u33.2.2), (sq, x_N G 176 (g_sch key)), (tq, x_N G 256 u33.2.1)]) := B
              have B := B.fn 1 rfl (nA (mx (i + 1) (g_key key ctr nb) key)) (mx_fn rfl)
              have B : xB G A s _ _ ([(h0, .inr (6, [.int (nI cd), .ref kq, .ref cq, .int (nI rs), .int ck, .int lt, .ref lq, .ref pq, .ref oq, .int (nI os), .ref bq, .int tc, .int wr, .ref rq, .int (nI ln), .ref wq, .ref hq, .ref dq, .ref nq, .ref aq, .ref xq, .ref yq, .ref sq, .ref tq, .int (nI u33.1)])), (kq, x_N G 16 (mx (i + 1) (g_key key ctr nb) key)), (cq, x_N G 16 (g_cts ctr (nb + 1))), (aq, x_N G 272 (va_cpy (g_key key ctr nb) (g_gen (g_sch key) ctr md nb) 0 256 16)), (xq, x_N G 16 (g_blk (g_sch key) (g_cts ctr nb) 10)), (yq, x_N G 16 u33.2.2), (sq, x_N G 176 (g_sch key)), (tq, x_N G 256 u33.2.1)]) := B
              refine x_inc E 1 (lv' := [(3, .int (nI (i + 1))), (0, .ref h0)]) d_Mo_generatesAll_60 hl (k := 0) rfl rfl (by decide) rfl (fun ls hl => ?_)
              refine lv_goto (tgt := 38) E.1 E.2.1 d_Mo_generatesAll_63 (by decide) ?_
              exact ih38  (i + 1) (by omega) (by omega) _ _ _ B (lv_sub hl [0, 1] rfl)
        have B := B.fn 1 rfl (nA (mx 0 (g_key key ctr nb) key)) (mx_z _ _)
        have B : xB G A s _ _ ([(h0, .inr (6, [.int (nI cd), .ref kq, .ref cq, .int (nI rs), .int ck, .int lt, .ref lq, .ref pq, .ref oq, .int (nI os), .ref bq, .int tc, .int wr, .ref rq, .int (nI ln), .ref wq, .ref hq, .ref dq, .ref nq, .ref aq, .ref xq, .ref yq, .ref sq, .ref tq, .int (nI u33.1)])), (kq, x_N G 16 (mx 0 (g_key key ctr nb) key)), (cq, x_N G 16 (g_ct (g_cts ctr nb))), (aq, x_N G 272 (va_cpy (g_blk (g_sch key) (g_cts ctr nb) 10) (g_gen (g_sch key) ctr md nb) 0 256 16)), (xq, x_N G 16 (g_blk (g_sch key) (g_cts ctr nb) 10)), (yq, x_N G 16 u33.2.2), (sq, x_N G 176 (g_sch key)), (tq, x_N G 256 u33.2.1)]) := B
        exact hL38 (17) 0 (by omega) (by omega) _ _ _ B (lv_sub hl [0, 2] rfl)
      · refine lv_aload_n E.1 E.2.1 d_Mo_generatesAll_15 rfl (lv_at hl 2 rfl) ?_
        refine lv_bipush (v := nI 16) E.1 E.2.1 d_Mo_generatesAll_16 (by decide) ?_
        refine lv_iload_n E.1 E.2.1 d_Mo_generatesAll_18 rfl (lv_at hl 0 rfl) ?_
        refine x_imul E d_Mo_generatesAll_19 ?_
        refine x_cv (ws' := (fun u => [(h0, .inr (6, [.int (nI cd), .ref kq, .ref cq, .int (nI rs), .int ck, .int lt, .ref lq, .ref pq, .ref oq, .int (nI os), .ref bq, .int tc, .int wr, .ref rq, .int (nI ln), .ref wq, .ref hq, .ref dq, .ref nq, .ref aq, .ref xq, .ref yq, .ref sq, .ref tq, .int (nI u.1)])), (kq, x_N G 16 key), (cq, x_N G 16 (g_ct (g_cts ctr b))), (aq, x_N G 272 (va_cpy (g_blk (g_sch key) (g_cts ctr b) 10) (g_gen (g_sch key) ctr md b) 0 (16 * b) 16)), (xq, x_N G 16 (g_blk (g_sch key) (g_cts ctr b) 10)), (yq, x_N G 16 u.2.2), (sq, x_N G 176 (g_sch key)), (tq, x_N G 256 u.2.1)])) (wr := []) B (x_rV (rest := []) E B (q_Mo_generates G l h0 cd kq cq rs lq pq oq os bq rq ln wq hq dq nq aq xq yq sq tq rd_ ck lt tc wr (16 * b) key (g_cts ctr b) (g_gen (g_sch key) ctr md b) bl_ ot_ s0_ tt_ (hk) (g_cts_bt hb _) (by omega) (hrd_) _) (x_pre B [0, 1, 2, 3, 4, 5, 6, 7] rfl (by decide) x_ro0) 0 rfl k_Mo (gg_V wd_614 wd_616 wd_28 wd_40 wd_617) ⟨rfl, p_Mo_generates⟩ rfl rfl ⟨Nat.le_of_ble_eq_true rfl, Nat.le_of_ble_eq_true rfl⟩ rfl hl.1 rfl (Nat.le_of_ble_eq_true rfl) d_Mo_generatesAll_20 ⟨Nat.le_of_ble_eq_true rfl, Nat.le_of_ble_eq_true rfl⟩) [0, 1, 2, 3, 4, 5, 6, 7] [] [0, 1, 2, 3, 4, 5, 6, 7] rfl rfl (by decide) (by decide) (by decide) (fun _ => rfl) (fun u20 H locs hw20 B => ?_)
        have B : xB G A s _ _ ([(h0, .inr (6, [.int (nI cd), .ref kq, .ref cq, .int (nI rs), .int ck, .int lt, .ref lq, .ref pq, .ref oq, .int (nI os), .ref bq, .int tc, .int wr, .ref rq, .int (nI ln), .ref wq, .ref hq, .ref dq, .ref nq, .ref aq, .ref xq, .ref yq, .ref sq, .ref tq, .int (nI u20.1)])), (kq, x_N G 16 key), (cq, x_N G 16 (g_ct (g_cts ctr b))), (aq, x_N G 272 (va_cpy (g_blk (g_sch key) (g_cts ctr b) 10) (g_gen (g_sch key) ctr md b) 0 (16 * b) 16)), (xq, x_N G 16 (g_blk (g_sch key) (g_cts ctr b) 10)), (yq, x_N G 16 u20.2.2), (sq, x_N G 176 (g_sch key)), (tq, x_N G 256 u20.2.1)]) := B
        refine x_inc E 1 (lv' := [(3, .int (nI (b + 1))), (2, .int (nI nb)), (0, .ref h0), (1, .int (nI n_))]) d_Mo_generatesAll_23 hl (k := 0) rfl rfl (by decide) rfl (fun ls hl => ?_)
        refine lv_goto (tgt := 10) E.1 E.2.1 d_Mo_generatesAll_26 (by decide) ?_
        exact ih10  (b + 1) _ _ _ _ _ (by omega) (by omega) (hw20) _ _ _ B (lv_sub hl [0, 1, 2, 3] rfl)
  exact hL10 (nb + 1) 0 bl ot s0 rd tt (by omega) (by omega) (hrd) _ _ _ B (lv_sub hl [0, 1, 2, 3] rfl)
set_option maxHeartbeats 4000000 in
set_option maxRecDepth 100000 in
theorem q_Mo_reseeds (G : xG) (l : Launch) (h0 cd kq cq rs lq pq oq os bq rq ln wq hq dq nq aq xq yq sq tq rd : Nat) (ck lt tc wr : Int32) (n_ : Nat) (key ctr f dd dr : Nat → Nat) (w0 Hf : Nat → Int32) (hk : g_bt 16 key) (hb : g_bt 16 ctr) (hn : n_ ≤ 1024) (hdr : ∀ j, j < n_ → dr j < 256) : xMv G l y_Mo_reseeds c_Mo_reseeds 3 ({ frames := 4, cells := 0, slots := 0, locals := 99 }) [.ref h0, .int (nI n_)] [] [(h0, .inr (6, [.int (nI cd), .ref kq, .ref cq, .int (nI rs), .int ck, .int lt, .ref lq, .ref pq, .ref oq, .int (nI os), .ref bq, .int tc, .int wr, .ref rq, .int (nI ln), .ref wq, .ref hq, .ref dq, .ref nq, .ref aq, .ref xq, .ref yq, .ref sq, .ref tq, .int (nI rd)])), (kq, x_N G 16 key), (cq, x_N G 16 ctr), (rq, x_N G 2000 f), (wq, x_I G 64 w0), (hq, x_I G 8 Hf), (dq, x_N G 32 dd), (nq, x_N G 1024 dr)] ((Nat → Int32) × (Nat → Int32) × (Nat → Nat)) (fun _ => True) (fun u => [(h0, .inr (6, [.int (nI cd), .ref kq, .ref cq, .int (nI rs), .int ck, .int lt, .ref lq, .ref pq, .ref oq, .int (nI os), .ref bq, .int tc, .int wr, .ref rq, .int (nI 32), .ref wq, .ref hq, .ref dq, .ref nq, .ref aq, .ref xq, .ref yq, .ref sq, .ref tq, .int (nI rd)])), (kq, x_N G 16 (h_tw (r_kr key dr) (16 + n_))), (cq, x_N G 16 (g_ct ctr)), (rq, x_N G 2000 u.2.2), (wq, x_I G 64 u.1), (hq, x_I G 8 u.2.1), (dq, x_N G 32 (h_tw (r_kr key dr) (16 + n_))), (nq, x_N G 1024 dr)]) 0 0 := by
  refine xMv.by r_Mo (by decide +kernel) (Nat.le_of_ble_eq_true rfl) rfl ?_
  intro p e s m args below meth c A ls Q E hin B hro hl hret
  have hl : lv_has ls 3 [(0, .ref h0), (1, .int (nI n_))] := hl
  refine lv_aload_n E.1 E.2.1 d_Mo_reseeds_0 rfl (lv_at hl 0 rfl) ?_
  refine lv_bipush (v := nI 16) E.1 E.2.1 d_Mo_reseeds_1 (by decide) ?_
  refine lv_iload_n E.1 E.2.1 d_Mo_reseeds_3 rfl (lv_at hl 1 rfl) ?_
  refine x_iadd E d_Mo_reseeds_4 ?_
  refine x_put E B 0 rfl k_Mo 14 (by decide) wd_407 rfl rfl rfl (Nat.le_of_ble_eq_true rfl) d_Mo_reseeds_5 (fun H locs B => ?_)
  have B : xB G A s _ _ ([(h0, .inr (6, [.int (nI cd), .ref kq, .ref cq, .int (nI rs), .int ck, .int lt, .ref lq, .ref pq, .ref oq, .int (nI os), .ref bq, .int tc, .int wr, .ref rq, .int (nI (16 + n_)), .ref wq, .ref hq, .ref dq, .ref nq, .ref aq, .ref xq, .ref yq, .ref sq, .ref tq, .int (nI rd)])), (kq, x_N G 16 key), (cq, x_N G 16 ctr), (rq, x_N G 2000 f), (wq, x_I G 64 w0), (hq, x_I G 8 Hf), (dq, x_N G 32 dd), (nq, x_N G 1024 dr)]) := B
  refine lv_iconst (v := nI 0) E.1 E.2.1 d_Mo_reseeds_8 (by decide) ?_
  refine lv_istore_n (lv' := [(2, .int (nI 0)), (0, .ref h0), (1, .int (nI n_))]) E.1 E.2.1 d_Mo_reseeds_9 rfl hl (by decide) rfl (fun ls hl => ?_)
  have hL10 : ∀ (kf : Nat) (i : Nat), 16 - i < kf → (i ≤ 16) → ∀ (H : Heap) (locs : List Loc) (ls : Array Slot), xB G A s H locs ([(h0, .inr (6, [.int (nI cd), .ref kq, .ref cq, .int (nI rs), .int ck, .int lt, .ref lq, .ref pq, .ref oq, .int (nI os), .ref bq, .int tc, .int wr, .ref rq, .int (nI (16 + n_)), .ref wq, .ref hq, .ref dq, .ref nq, .ref aq, .ref xq, .ref yq, .ref sq, .ref tq, .int (nI rd)])), (kq, x_N G 16 key), (cq, x_N G 16 ctr), (rq, x_N G 2000 (mx i (r_kr key dr) f)), (wq, x_I G 64 w0), (hq, x_I G 8 Hf), (dq, x_N G 32 dd), (nq, x_N G 1024 dr)]) → lv_has ls 3 [(2, .int (nI i)), (0, .ref h0), (1, .int (nI n_))] → W p l e ({ frames := 4, cells := 0, slots := 0, locals := 99 }) s m args below meth c H locs 0 0 Q (F0 m 10 ls []) := by
    intro k10
    induction k10 with
    | zero =>
      intro i hk
      exact absurd hk (Nat.not_lt_zero _)
    | succ k10 ih10 =>
      intro i hk10 hi H locs ls B hl
      refine lv_iload_n E.1 E.2.1 d_Mo_reseeds_10 rfl (lv_at hl 0 rfl) ?_
      refine lv_bipush (v := nI 16) E.1 E.2.1 d_Mo_reseeds_11 (by decide) ?_
      refine x_ge (tgt := 34) E d_Mo_reseeds_13 (by decide) (by omega) (by omega) (fun c1 => ?_) (fun c1 => ?_)
      · obtain rfl : i = 16 := by omega
        refine lv_iconst (v := nI 0) E.1 E.2.1 d_Mo_reseeds_34 (by decide) ?_
        refine lv_istore_n (lv' := [(2, .int (nI 0)), (0, .ref h0), (1, .int (nI n_))]) E.1 E.2.1 d_Mo_reseeds_35 rfl hl (by decide) rfl (fun ls hl => ?_)
        have hL36 : ∀ (kf : Nat) (i : Nat), n_ - i < kf → (i ≤ n_) → ∀ (H : Heap) (locs : List Loc) (ls : Array Slot), xB G A s H locs ([(h0, .inr (6, [.int (nI cd), .ref kq, .ref cq, .int (nI rs), .int ck, .int lt, .ref lq, .ref pq, .ref oq, .int (nI os), .ref bq, .int tc, .int wr, .ref rq, .int (nI (16 + n_)), .ref wq, .ref hq, .ref dq, .ref nq, .ref aq, .ref xq, .ref yq, .ref sq, .ref tq, .int (nI rd)])), (kq, x_N G 16 key), (cq, x_N G 16 ctr), (rq, x_N G 2000 (mx (16 + i) (r_kr key dr) f)), (wq, x_I G 64 w0), (hq, x_I G 8 Hf), (dq, x_N G 32 dd), (nq, x_N G 1024 dr)]) → lv_has ls 3 [(2, .int (nI i)), (0, .ref h0), (1, .int (nI n_))] → W p l e ({ frames := 4, cells := 0, slots := 0, locals := 99 }) s m args below meth c H locs 0 0 Q (F0 m 36 ls []) := by
          intro k36
          induction k36 with
          | zero =>
            intro i hk
            exact absurd hk (Nat.not_lt_zero _)
          | succ k36 ih36 =>
            intro i hk36 hi H locs ls B hl
            refine lv_iload_n E.1 E.2.1 d_Mo_reseeds_36 rfl (lv_at hl 0 rfl) ?_
            refine lv_iload_n E.1 E.2.1 d_Mo_reseeds_37 rfl (lv_at hl 2 rfl) ?_
            refine x_ge (tgt := 62) E d_Mo_reseeds_38 (by decide) (by omega) (by omega) (fun c2 => ?_) (fun c2 => ?_)
            · obtain rfl : n_ = i := by omega
              refine lv_aload_n E.1 E.2.1 d_Mo_reseeds_62 rfl (lv_at hl 1 rfl) ?_
              refine x_cv (ws' := (fun u => [(h0, .inr (6, [.int (nI cd), .ref kq, .ref cq, .int (nI rs), .int ck, .int lt, .ref lq, .ref pq, .ref oq, .int (nI os), .ref bq, .int tc, .int wr, .ref rq, .int (nI 32), .ref wq, .ref hq, .ref dq, .ref nq, .ref aq, .ref xq, .ref yq, .ref sq, .ref tq, .int (nI rd)])), (kq, x_N G 16 key), (cq, x_N G 16 ctr), (rq, x_N G 2000 (mx 32 (h_dg (mx (16 + n_) (r_kr key dr) f) (16 + n_)) (mx (16 + n_) (r_kr key dr) f))), (wq, x_I G 64 u.1), (hq, x_I G 8 u.2), (dq, x_N G 32 (h_tw (mx (16 + n_) (r_kr key dr) f) (16 + n_))), (nq, x_N G 1024 dr)])) (wr := [(kq, x_N G 16 key), (cq, x_N G 16 ctr), (nq, x_N G 1024 dr)]) B (x_rV (rest := []) E B (q_Mo_twice G l h0 cd kq cq rs lq pq oq os bq rq (16 + n_) wq hq dq nq aq xq yq sq tq rd ck lt tc wr (mx (16 + n_) (r_kr key dr) f) dd w0 Hf (by omega) (fun j hj => by rw [mx_lt hj]; exact r_kr_lt hk hdr j hj) _) (x_pre B [0, 3, 4, 5, 6] rfl (by decide) x_ro0) 0 rfl k_Mo (gg_V wd_501 wd_503 wd_20 wd_40 wd_504) ⟨rfl, p_Mo_twice⟩ rfl rfl ⟨Nat.le_of_ble_eq_true rfl, Nat.le_of_ble_eq_true rfl⟩ rfl hl.1 rfl (Nat.le_of_ble_eq_true rfl) d_Mo_reseeds_63 ⟨Nat.le_of_ble_eq_true rfl, Nat.le_of_ble_eq_true rfl⟩) [0, 3, 4, 5, 6] [1, 2, 7] [3, 0, 1, 4, 5, 6, 7, 2] rfl rfl (by decide) (by decide) (by decide) (fun _ => rfl) (fun u63 H locs hw63 B => ?_)
              have B : xB G A s _ _ ([(h0, .inr (6, [.int (nI cd), .ref kq, .ref cq, .int (nI rs), .int ck, .int lt, .ref lq, .ref pq, .ref oq, .int (nI os), .ref bq, .int tc, .int wr, .ref rq, .int (nI 32), .ref wq, .ref hq, .ref dq, .ref nq, .ref aq, .ref xq, .ref yq, .ref sq, .ref tq, .int (nI rd)])), (kq, x_N G 16 key), (cq, x_N G 16 ctr), (rq, x_N G 2000 (mx 32 (h_dg (mx (16 + n_) (r_kr key dr) f) (16 + n_)) (mx (16 + n_) (r_kr key dr) f))), (wq, x_I G 64 u63.1), (hq, x_I G 8 u63.2), (dq, x_N G 32 (h_tw (mx (16 + n_) (r_kr key dr) f) (16 + n_))), (nq, x_N G 1024 dr)]) := B
              have B := B.fn 6 rfl (nA (h_tw (r_kr key dr) (16 + n_))) (h_twC (fun j hj => mx_lt hj))
              have B : xB G A s _ _ ([(h0, .inr (6, [.int (nI cd), .ref kq, .ref cq, .int (nI rs), .int ck, .int lt, .ref lq, .ref pq, .ref oq, .int (nI os), .ref bq, .int tc, .int wr, .ref rq, .int (nI 32), .ref wq, .ref hq, .ref dq, .ref nq, .ref aq, .ref xq, .ref yq, .ref sq, .ref tq, .int (nI rd)])), (kq, x_N G 16 key), (cq, x_N G 16 ctr), (rq, x_N G 2000 (mx 32 (h_dg (mx (16 + n_) (r_kr key dr) f) (16 + n_)) (mx (16 + n_) (r_kr key dr) f))), (wq, x_I G 64 u63.1), (hq, x_I G 8 u63.2), (dq, x_N G 32 (h_tw (r_kr key dr) (16 + n_))), (nq, x_N G 1024 dr)]) := B
              refine lv_iconst (v := nI 0) E.1 E.2.1 d_Mo_reseeds_66 (by decide) ?_
              refine lv_istore_n (lv' := [(2, .int (nI 0)), (0, .ref h0), (1, .int (nI n_))]) E.1 E.2.1 d_Mo_reseeds_67 rfl hl (by decide) rfl (fun ls hl => ?_)
              have hL68 : ∀ (kf : Nat) (i : Nat), 16 - i < kf → (i ≤ 16) → ∀ (H : Heap) (locs : List Loc) (ls : Array Slot), xB G A s H locs ([(h0, .inr (6, [.int (nI cd), .ref kq, .ref cq, .int (nI rs), .int ck, .int lt, .ref lq, .ref pq, .ref oq, .int (nI os), .ref bq, .int tc, .int wr, .ref rq, .int (nI 32), .ref wq, .ref hq, .ref dq, .ref nq, .ref aq, .ref xq, .ref yq, .ref sq, .ref tq, .int (nI rd)])), (kq, x_N G 16 (mx i (h_tw (r_kr key dr) (16 + n_)) key)), (cq, x_N G 16 ctr), (rq, x_N G 2000 (mx 32 (h_dg (mx (16 + n_) (r_kr key dr) f) (16 + n_)) (mx (16 + n_) (r_kr key dr) f))), (wq, x_I G 64 u63.1), (hq, x_I G 8 u63.2), (dq, x_N G 32 (h_tw (r_kr key dr) (16 + n_))), (nq, x_N G 1024 dr)]) → lv_has ls 3 [(2, .int (nI i)), (0, .ref h0), (1, .int (nI n_))] → W p l e ({ frames := 4, cells := 0, slots := 0, locals := 99 }) s m args below meth c H locs 0 0 Q (F0 m 68 ls []) := by
                intro k68
                induction k68 with
                | zero =>
                  intro i hk
                  exact absurd hk (Nat.not_lt_zero _)
                | succ k68 ih68 =>
                  intro i hk68 hi H locs ls B hl
                  refine lv_iload_n E.1 E.2.1 d_Mo_reseeds_68 rfl (lv_at hl 0 rfl) ?_
                  refine lv_bipush (v := nI 16) E.1 E.2.1 d_Mo_reseeds_69 (by decide) ?_
                  refine x_ge (tgt := 92) E d_Mo_reseeds_71 (by decide) (by omega) (by omega) (fun c3 => ?_) (fun c3 => ?_)
                  · obtain rfl : i = 16 := by omega
                    have B := B.fn 1 rfl (nA (h_tw (r_kr key dr) (16 + n_))) (mx_e)
                    have B : xB G A s _ _ ([(h0, .inr (6, [.int (nI cd), .ref kq, .ref cq, .int (nI rs), .int ck, .int lt, .ref lq, .ref pq, .ref oq, .int (nI os), .ref bq, .int tc, .int wr, .ref rq, .int (nI 32), .ref wq, .ref hq, .ref dq, .ref nq, .ref aq, .ref xq, .ref yq, .ref sq, .ref tq, .int (nI rd)])), (kq, x_N G 16 (h_tw (r_kr key dr) (16 + n_))), (cq, x_N G 16 ctr), (rq, x_N G 2000 (mx 32 (h_dg (mx (16 + n_) (r_kr key dr) f) (16 + n_)) (mx (16 + n_) (r_kr key dr) f))), (wq, x_I G 64 u63.1), (hq, x_I G 8 u63.2), (dq, x_N G 32 (h_tw (r_kr key dr) (16 + n_))), (nq, x_N G 1024 dr)]) := B
                    refine lv_aload_n E.1 E.2.1 d_Mo_reseeds_92 rfl (lv_at hl 1 rfl) ?_
                    refine x_cv (ws' := (fun u => [(h0, .inr (6, [.int (nI cd), .ref kq, .ref cq, .int (nI rs), .int ck, .int lt, .ref lq, .ref pq, .ref oq, .int (nI os), .ref bq, .int tc, .int wr, .ref rq, .int (nI 32), .ref wq, .ref hq, .ref dq, .ref nq, .ref aq, .ref xq, .ref yq, .ref sq, .ref tq, .int (nI rd)])), (kq, x_N G 16 (h_tw (r_kr key dr) (16 + n_))), (cq, x_N G 16 (g_ct ctr)), (rq, x_N G 2000 (mx 32 (h_dg (mx (16 + n_) (r_kr key dr) f) (16 + n_)) (mx (16 + n_) (r_kr key dr) f))), (wq, x_I G 64 u63.1), (hq, x_I G 8 u63.2), (dq, x_N G 32 (h_tw (r_kr key dr) (16 + n_))), (nq, x_N G 1024 dr)])) (wr := [(kq, x_N G 16 (h_tw (r_kr key dr) (16 + n_))), (rq, x_N G 2000 (mx 32 (h_dg (mx (16 + n_) (r_kr key dr) f) (16 + n_)) (mx (16 + n_) (r_kr key dr) f))), (wq, x_I G 64 u63.1), (hq, x_I G 8 u63.2), (dq, x_N G 32 (h_tw (r_kr key dr) (16 + n_))), (nq, x_N G 1024 dr)]) B (x_rV (rest := []) E B (q_Mo_counts G l h0 cd kq cq rs lq pq oq os bq rq 32 wq hq dq nq aq xq yq sq tq rd ck lt tc wr ctr (hb) _) (x_pre B [0, 2] rfl (by decide) x_ro0) 0 rfl k_Mo (gg_V wd_602 wd_604 wd_25 wd_40 wd_605) ⟨rfl, p_Mo_counts⟩ rfl rfl ⟨Nat.le_of_ble_eq_true rfl, Nat.le_of_ble_eq_true rfl⟩ rfl hl.1 rfl (Nat.le_of_ble_eq_true rfl) d_Mo_reseeds_93 ⟨Nat.le_of_ble_eq_true rfl, Nat.le_of_ble_eq_true rfl⟩) [0, 2] [1, 3, 4, 5, 6, 7] [6, 0, 7, 1, 2, 3, 4, 5] rfl rfl (by decide) (by decide) (by decide) (fun _ => rfl) (fun u93 H locs hw93 B => ?_)
                    have B : xB G A s _ _ ([(h0, .inr (6, [.int (nI cd), .ref kq, .ref cq, .int (nI rs), .int ck, .int lt, .ref lq, .ref pq, .ref oq, .int (nI os), .ref bq, .int tc, .int wr, .ref rq, .int (nI 32), .ref wq, .ref hq, .ref dq, .ref nq, .ref aq, .ref xq, .ref yq, .ref sq, .ref tq, .int (nI rd)])), (kq, x_N G 16 (h_tw (r_kr key dr) (16 + n_))), (cq, x_N G 16 (g_ct ctr)), (rq, x_N G 2000 (mx 32 (h_dg (mx (16 + n_) (r_kr key dr) f) (16 + n_)) (mx (16 + n_) (r_kr key dr) f))), (wq, x_I G 64 u63.1), (hq, x_I G 8 u63.2), (dq, x_N G 32 (h_tw (r_kr key dr) (16 + n_))), (nq, x_N G 1024 dr)]) := B
                    exact hret (u63.1, u63.2, _) _ _ _ _ B trivial d_Mo_reseeds_96
                  · refine lv_aload_n E.1 E.2.1 d_Mo_reseeds_74 rfl (lv_at hl 1 rfl) ?_
                    refine x_get E B 0 rfl k_Mo 1 (by decide) wd_394 rfl d_Mo_reseeds_75 ?_
                    refine lv_iload_n E.1 E.2.1 d_Mo_reseeds_78 rfl (lv_at hl 0 rfl) ?_
                    refine lv_aload_n E.1 E.2.1 d_Mo_reseeds_79 rfl (lv_at hl 1 rfl) ?_
                    refine x_get E B 0 rfl k_Mo 17 (by decide) wd_410 rfl d_Mo_reseeds_80 ?_
                    refine lv_iload_n E.1 E.2.1 d_Mo_reseeds_83 rfl (lv_at hl 0 rfl) ?_
                    refine x_aldN E B 6 rfl (i := i) (by omega) (by decide) d_Mo_reseeds_84 ?_
                    refine x_astN E B 1 rfl (i := i) (v := (h_tw (r_kr key dr) (16 + n_)) i) (by omega) (by decide) d_Mo_reseeds_85 (fun H locs B => ?_)
                    have B : xB G A s _ _ ([(h0, .inr (6, [.int (nI cd), .ref kq, .ref cq, .int (nI rs), .int ck, .int lt, .ref lq, .ref pq, .ref oq, .int (nI os), .ref bq, .int tc, .int wr, .ref rq, .int (nI 32), .ref wq, .ref hq, .ref dq, .ref nq, .ref aq, .ref xq, .ref yq, .ref sq, .ref tq, .int (nI rd)])), (kq, x_N G 16 (va_up (mx i (h_tw (r_kr key dr) (16 + n_)) key) i ((h_tw (r_kr key dr) (16 + n_)) i))), (cq, x_N G 16 ctr), (rq, x_N G 2000 (mx 32 (h_dg (mx (16 + n_) (r_kr key dr) f) (16 + n_)) (mx (16 + n_) (r_kr key dr) f))), (wq, x_I G 64 u63.1), (hq, x_I G 8 u63.2), (dq, x_N G 32 (h_tw (r_kr key dr) (16 + n_))), (nq, x_N G 1024 dr)]) := B
                    have B := B.fn 1 rfl (nA (mx (i + 1) (h_tw (r_kr key dr) (16 + n_)) key)) (mx_fn rfl)
                    have B : xB G A s _ _ ([(h0, .inr (6, [.int (nI cd), .ref kq, .ref cq, .int (nI rs), .int ck, .int lt, .ref lq, .ref pq, .ref oq, .int (nI os), .ref bq, .int tc, .int wr, .ref rq, .int (nI 32), .ref wq, .ref hq, .ref dq, .ref nq, .ref aq, .ref xq, .ref yq, .ref sq, .ref tq, .int (nI rd)])), (kq, x_N G 16 (mx (i + 1) (h_tw (r_kr key dr) (16 + n_)) key)), (cq, x_N G 16 ctr), (rq, x_N G 2000 (mx 32 (h_dg (mx (16 + n_) (r_kr key dr) f) (16 + n_)) (mx (16 + n_) (r_kr key dr) f))), (wq, x_I G 64 u63.1), (hq, x_I G 8 u63.2), (dq, x_N G 32 (h_tw (r_kr key dr) (16 + n_))), (nq, x_N G 1024 dr)]) := B
                    refine x_inc E 1 (lv' := [(2, .int (nI (i + 1))), (0, .ref h0), (1, .int (nI n_))]) d_Mo_reseeds_86 hl (k := 0) rfl rfl (by decide) rfl (fun ls hl => ?_)
                    refine lv_goto (tgt := 68) E.1 E.2.1 d_Mo_reseeds_89 (by decide) ?_
                    exact ih68  (i + 1) (by omega) (by omega) _ _ _ B (lv_sub hl [0, 1, 2] rfl)
              have B := B.fn 1 rfl (nA (mx 0 (h_tw (r_kr key dr) (16 + n_)) key)) (mx_z _ _)
              have B : xB G A s _ _ ([(h0, .inr (6, [.int (nI cd), .ref kq, .ref cq, .int (nI rs), .int ck, .int lt, .ref lq, .ref pq, .ref oq, .int (nI os), .ref bq, .int tc, .int wr, .ref rq, .int (nI 32), .ref wq, .ref hq, .ref dq, .ref nq, .ref aq, .ref xq, .ref yq, .ref sq, .ref tq, .int (nI rd)])), (kq, x_N G 16 (mx 0 (h_tw (r_kr key dr) (16 + n_)) key)), (cq, x_N G 16 ctr), (rq, x_N G 2000 (mx 32 (h_dg (mx (16 + n_) (r_kr key dr) f) (16 + n_)) (mx (16 + n_) (r_kr key dr) f))), (wq, x_I G 64 u63.1), (hq, x_I G 8 u63.2), (dq, x_N G 32 (h_tw (r_kr key dr) (16 + n_))), (nq, x_N G 1024 dr)]) := B
              exact hL68 (17) 0 (by omega) (by omega) _ _ _ B (lv_sub hl [0, 1, 2] rfl)
            · refine lv_aload_n E.1 E.2.1 d_Mo_reseeds_41 rfl (lv_at hl 1 rfl) ?_
              refine x_get E B 0 rfl k_Mo 13 (by decide) wd_406 rfl d_Mo_reseeds_42 ?_
              refine lv_bipush (v := nI 16) E.1 E.2.1 d_Mo_reseeds_45 (by decide) ?_
              refine lv_iload_n E.1 E.2.1 d_Mo_reseeds_47 rfl (lv_at hl 0 rfl) ?_
              refine x_iadd E d_Mo_reseeds_48 ?_
              refine lv_aload_n E.1 E.2.1 d_Mo_reseeds_49 rfl (lv_at hl 1 rfl) ?_
              refine x_get E B 0 rfl k_Mo 18 (by decide) wd_411 rfl d_Mo_reseeds_50 ?_
              refine lv_iload_n E.1 E.2.1 d_Mo_reseeds_53 rfl (lv_at hl 0 rfl) ?_
              refine x_aldN E B 7 rfl (i := i) (by omega) (by decide) d_Mo_reseeds_54 ?_
              refine x_astN E B 3 rfl (i := 16 + i) (v := dr i) (by omega) (by decide) d_Mo_reseeds_55 (fun H locs B => ?_)
              have B : xB G A s _ _ ([(h0, .inr (6, [.int (nI cd), .ref kq, .ref cq, .int (nI rs), .int ck, .int lt, .ref lq, .ref pq, .ref oq, .int (nI os), .ref bq, .int tc, .int wr, .ref rq, .int (nI (16 + n_)), .ref wq, .ref hq, .ref dq, .ref nq, .ref aq, .ref xq, .ref yq, .ref sq, .ref tq, .int (nI rd)])), (kq, x_N G 16 key), (cq, x_N G 16 ctr), (rq, x_N G 2000 (va_up (mx (16 + i) (r_kr key dr) f) (16 + i) (dr i))), (wq, x_I G 64 w0), (hq, x_I G 8 Hf), (dq, x_N G 32 dd), (nq, x_N G 1024 dr)]) := B
              have B := B.fn 3 rfl (nA (mx (16 + (i + 1)) (r_kr key dr) f)) (mx_fn (r_kr_b _ _ _).symm)
              have B : xB G A s _ _ ([(h0, .inr (6, [.int (nI cd), .ref kq, .ref cq, .int (nI rs), .int ck, .int lt, .ref lq, .ref pq, .ref oq, .int (nI os), .ref bq, .int tc, .int wr, .ref rq, .int (nI (16 + n_)), .ref wq, .ref hq, .ref dq, .ref nq, .ref aq, .ref xq, .ref yq, .ref sq, .ref tq, .int (nI rd)])), (kq, x_N G 16 key), (cq, x_N G 16 ctr), (rq, x_N G 2000 (mx (16 + (i + 1)) (r_kr key dr) f)), (wq, x_I G 64 w0), (hq, x_I G 8 Hf), (dq, x_N G 32 dd), (nq, x_N G 1024 dr)]) := B
              refine x_inc E 1 (lv' := [(2, .int (nI (i + 1))), (0, .ref h0), (1, .int (nI n_))]) d_Mo_reseeds_56 hl (k := 0) rfl rfl (by decide) rfl (fun ls hl => ?_)
              refine lv_goto (tgt := 36) E.1 E.2.1 d_Mo_reseeds_59 (by decide) ?_
              exact ih36  (i + 1) (by omega) (by omega) _ _ _ B (lv_sub hl [0, 1, 2] rfl)
        exact hL36 (n_ + 1) 0 (by omega) (by omega) _ _ _ B (lv_sub hl [0, 1, 2] rfl)
      · refine lv_aload_n E.1 E.2.1 d_Mo_reseeds_16 rfl (lv_at hl 1 rfl) ?_
        refine x_get E B 0 rfl k_Mo 13 (by decide) wd_406 rfl d_Mo_reseeds_17 ?_
        refine lv_iload_n E.1 E.2.1 d_Mo_reseeds_20 rfl (lv_at hl 0 rfl) ?_
        refine lv_aload_n E.1 E.2.1 d_Mo_reseeds_21 rfl (lv_at hl 1 rfl) ?_
        refine x_get E B 0 rfl k_Mo 1 (by decide) wd_394 rfl d_Mo_reseeds_22 ?_
        refine lv_iload_n E.1 E.2.1 d_Mo_reseeds_25 rfl (lv_at hl 0 rfl) ?_
        refine x_aldN E B 1 rfl (i := i) (by omega) (by decide) d_Mo_reseeds_26 ?_
        refine x_astN E B 3 rfl (i := i) (v := key i) (by omega) (by decide) d_Mo_reseeds_27 (fun H locs B => ?_)
        have B : xB G A s _ _ ([(h0, .inr (6, [.int (nI cd), .ref kq, .ref cq, .int (nI rs), .int ck, .int lt, .ref lq, .ref pq, .ref oq, .int (nI os), .ref bq, .int tc, .int wr, .ref rq, .int (nI (16 + n_)), .ref wq, .ref hq, .ref dq, .ref nq, .ref aq, .ref xq, .ref yq, .ref sq, .ref tq, .int (nI rd)])), (kq, x_N G 16 key), (cq, x_N G 16 ctr), (rq, x_N G 2000 (va_up (mx i (r_kr key dr) f) i (key i))), (wq, x_I G 64 w0), (hq, x_I G 8 Hf), (dq, x_N G 32 dd), (nq, x_N G 1024 dr)]) := B
        have B := B.fn 3 rfl (nA (mx (i + 1) (r_kr key dr) f)) (mx_fn (r_kr_a (by omega)).symm)
        have B : xB G A s _ _ ([(h0, .inr (6, [.int (nI cd), .ref kq, .ref cq, .int (nI rs), .int ck, .int lt, .ref lq, .ref pq, .ref oq, .int (nI os), .ref bq, .int tc, .int wr, .ref rq, .int (nI (16 + n_)), .ref wq, .ref hq, .ref dq, .ref nq, .ref aq, .ref xq, .ref yq, .ref sq, .ref tq, .int (nI rd)])), (kq, x_N G 16 key), (cq, x_N G 16 ctr), (rq, x_N G 2000 (mx (i + 1) (r_kr key dr) f)), (wq, x_I G 64 w0), (hq, x_I G 8 Hf), (dq, x_N G 32 dd), (nq, x_N G 1024 dr)]) := B
        refine x_inc E 1 (lv' := [(2, .int (nI (i + 1))), (0, .ref h0), (1, .int (nI n_))]) d_Mo_reseeds_28 hl (k := 0) rfl rfl (by decide) rfl (fun ls hl => ?_)
        refine lv_goto (tgt := 10) E.1 E.2.1 d_Mo_reseeds_31 (by decide) ?_
        exact ih10  (i + 1) (by omega) (by omega) _ _ _ B (lv_sub hl [0, 1, 2] rfl)
  have B := B.fn 3 rfl (nA (mx 0 (r_kr key dr) f)) (mx_z _ _)
  have B : xB G A s _ _ ([(h0, .inr (6, [.int (nI cd), .ref kq, .ref cq, .int (nI rs), .int ck, .int lt, .ref lq, .ref pq, .ref oq, .int (nI os), .ref bq, .int tc, .int wr, .ref rq, .int (nI (16 + n_)), .ref wq, .ref hq, .ref dq, .ref nq, .ref aq, .ref xq, .ref yq, .ref sq, .ref tq, .int (nI rd)])), (kq, x_N G 16 key), (cq, x_N G 16 ctr), (rq, x_N G 2000 (mx 0 (r_kr key dr) f)), (wq, x_I G 64 w0), (hq, x_I G 8 Hf), (dq, x_N G 32 dd), (nq, x_N G 1024 dr)]) := B
  exact hL10 (17) 0 (by omega) (by omega) _ _ _ B (lv_sub hl [0, 1, 2] rfl)
set_option maxHeartbeats 4000000 in
set_option maxRecDepth 100000 in
theorem q_Mo_first (G : xG) (l : Launch) (h0 cd kq cq rs lq pq oq os bq rq ln wq hq dq nq aq xq yq sq tq rd : Nat) (ck lt tc wr : Int32) (key ctr len : Nat → Nat)  : xMv G l y_Mo_first c_Mo_first 2 ({ frames := 0, cells := 0, slots := 0, locals := 0 }) [.ref h0] [] [(h0, .inr (6, [.int (nI cd), .ref kq, .ref cq, .int (nI rs), .int ck, .int lt, .ref lq, .ref pq, .ref oq, .int (nI os), .ref bq, .int tc, .int wr, .ref rq, .int (nI ln), .ref wq, .ref hq, .ref dq, .ref nq, .ref aq, .ref xq, .ref yq, .ref sq, .ref tq, .int (nI rd)])), (kq, x_N G 16 key), (cq, x_N G 16 ctr), (lq, x_N G 32 len)] Unit (fun _ => True) (fun u => [(h0, .inr (6, [.int (nI cd), .ref kq, .ref cq, .int (nI 0), .int (nI 0), .int (-1), .ref lq, .ref pq, .ref oq, .int (nI 0), .ref bq, .int (nI 0), .int wr, .ref rq, .int (nI ln), .ref wq, .ref hq, .ref dq, .ref nq, .ref aq, .ref xq, .ref yq, .ref sq, .ref tq, .int (nI rd)])), (kq, x_N G 16 (fun _ => 0)), (cq, x_N G 16 (fun _ => 0)), (lq, x_N G 32 (fun _ => 0))]) 0 0 := by
  refine xMv.by r_Mo (by decide +kernel) (Nat.le_of_ble_eq_true rfl) rfl ?_
  intro p e s m args below meth c A ls Q E hin B hro hl hret
  have hl : lv_has ls 2 [(0, .ref h0)] := hl
  refine lv_iconst (v := nI 0) E.1 E.2.1 d_Mo_first_0 (by decide) ?_
  refine lv_istore_n (lv' := [(1, .int (nI 0)), (0, .ref h0)]) E.1 E.2.1 d_Mo_first_1 rfl hl (by decide) rfl (fun ls hl => ?_)
  have hL2 : ∀ (kf : Nat) (i : Nat), 16 - i < kf → (i ≤ 16) → ∀ (H : Heap) (locs : List Loc) (ls : Array Slot), xB G A s H locs ([(h0, .inr (6, [.int (nI cd), .ref kq, .ref cq, .int (nI rs), .int ck, .int lt, .ref lq, .ref pq, .ref oq, .int (nI os), .ref bq, .int tc, .int wr, .ref rq, .int (nI ln), .ref wq, .ref hq, .ref dq, .ref nq, .ref aq, .ref xq, .ref yq, .ref sq, .ref tq, .int (nI rd)])), (kq, x_N G 16 (mx i (fun _ => 0) key)), (cq, x_N G 16 (mx i (fun _ => 0) ctr)), (lq, x_N G 32 len)]) → lv_has ls 2 [(1, .int (nI i)), (0, .ref h0)] → W p l e ({ frames := 0, cells := 0, slots := 0, locals := 0 }) s m args below meth c H locs 0 0 Q (F0 m 2 ls []) := by
    intro k2
    induction k2 with
    | zero =>
      intro i hk
      exact absurd hk (Nat.not_lt_zero _)
    | succ k2 ih2 =>
      intro i hk2 hi H locs ls B hl
      refine lv_iload_n E.1 E.2.1 d_Mo_first_2 rfl (lv_at hl 0 rfl) ?_
      refine lv_bipush (v := nI 16) E.1 E.2.1 d_Mo_first_3 (by decide) ?_
      refine x_ge (tgt := 28) E d_Mo_first_5 (by decide) (by omega) (by omega) (fun c1 => ?_) (fun c1 => ?_)
      · obtain rfl : i = 16 := by omega
        have B := B.fn 1 rfl (nA (fun _ => 0)) (mx_e)
        have B : xB G A s _ _ ([(h0, .inr (6, [.int (nI cd), .ref kq, .ref cq, .int (nI rs), .int ck, .int lt, .ref lq, .ref pq, .ref oq, .int (nI os), .ref bq, .int tc, .int wr, .ref rq, .int (nI ln), .ref wq, .ref hq, .ref dq, .ref nq, .ref aq, .ref xq, .ref yq, .ref sq, .ref tq, .int (nI rd)])), (kq, x_N G 16 (fun _ => 0)), (cq, x_N G 16 (mx 16 (fun _ => 0) ctr)), (lq, x_N G 32 len)]) := B
        have B := B.fn 2 rfl (nA (fun _ => 0)) (mx_e)
        have B : xB G A s _ _ ([(h0, .inr (6, [.int (nI cd), .ref kq, .ref cq, .int (nI rs), .int ck, .int lt, .ref lq, .ref pq, .ref oq, .int (nI os), .ref bq, .int tc, .int wr, .ref rq, .int (nI ln), .ref wq, .ref hq, .ref dq, .ref nq, .ref aq, .ref xq, .ref yq, .ref sq, .ref tq, .int (nI rd)])), (kq, x_N G 16 (fun _ => 0)), (cq, x_N G 16 (fun _ => 0)), (lq, x_N G 32 len)]) := B
        refine lv_iconst (v := nI 0) E.1 E.2.1 d_Mo_first_28 (by decide) ?_
        refine lv_istore_n (lv' := [(1, .int (nI 0)), (0, .ref h0)]) E.1 E.2.1 d_Mo_first_29 rfl hl (by decide) rfl (fun ls hl => ?_)
        have hL30 : ∀ (kf : Nat) (i : Nat), 32 - i < kf → (i ≤ 32) → ∀ (H : Heap) (locs : List Loc) (ls : Array Slot), xB G A s H locs ([(h0, .inr (6, [.int (nI cd), .ref kq, .ref cq, .int (nI rs), .int ck, .int lt, .ref lq, .ref pq, .ref oq, .int (nI os), .ref bq, .int tc, .int wr, .ref rq, .int (nI ln), .ref wq, .ref hq, .ref dq, .ref nq, .ref aq, .ref xq, .ref yq, .ref sq, .ref tq, .int (nI rd)])), (kq, x_N G 16 (fun _ => 0)), (cq, x_N G 16 (fun _ => 0)), (lq, x_N G 32 (mx i (fun _ => 0) len))]) → lv_has ls 2 [(1, .int (nI i)), (0, .ref h0)] → W p l e ({ frames := 0, cells := 0, slots := 0, locals := 0 }) s m args below meth c H locs 0 0 Q (F0 m 30 ls []) := by
          intro k30
          induction k30 with
          | zero =>
            intro i hk
            exact absurd hk (Nat.not_lt_zero _)
          | succ k30 ih30 =>
            intro i hk30 hi H locs ls B hl
            refine lv_iload_n E.1 E.2.1 d_Mo_first_30 rfl (lv_at hl 0 rfl) ?_
            refine lv_bipush (v := nI 32) E.1 E.2.1 d_Mo_first_31 (by decide) ?_
            refine x_ge (tgt := 49) E d_Mo_first_33 (by decide) (by omega) (by omega) (fun c2 => ?_) (fun c2 => ?_)
            · obtain rfl : i = 32 := by omega
              have B := B.fn 3 rfl (nA (fun _ => 0)) (mx_e)
              have B : xB G A s _ _ ([(h0, .inr (6, [.int (nI cd), .ref kq, .ref cq, .int (nI rs), .int ck, .int lt, .ref lq, .ref pq, .ref oq, .int (nI os), .ref bq, .int tc, .int wr, .ref rq, .int (nI ln), .ref wq, .ref hq, .ref dq, .ref nq, .ref aq, .ref xq, .ref yq, .ref sq, .ref tq, .int (nI rd)])), (kq, x_N G 16 (fun _ => 0)), (cq, x_N G 16 (fun _ => 0)), (lq, x_N G 32 (fun _ => 0))]) := B
              refine lv_aload_n E.1 E.2.1 d_Mo_first_49 rfl (lv_at hl 1 rfl) ?_
              refine lv_iconst (v := nI 0) E.1 E.2.1 d_Mo_first_50 (by decide) ?_
              refine x_put E B 0 rfl k_Mo 3 (by decide) wd_396 rfl rfl rfl (Nat.le_of_ble_eq_true rfl) d_Mo_first_51 (fun H locs B => ?_)
              have B : xB G A s _ _ ([(h0, .inr (6, [.int (nI cd), .ref kq, .ref cq, .int (nI 0), .int ck, .int lt, .ref lq, .ref pq, .ref oq, .int (nI os), .ref bq, .int tc, .int wr, .ref rq, .int (nI ln), .ref wq, .ref hq, .ref dq, .ref nq, .ref aq, .ref xq, .ref yq, .ref sq, .ref tq, .int (nI rd)])), (kq, x_N G 16 (fun _ => 0)), (cq, x_N G 16 (fun _ => 0)), (lq, x_N G 32 (fun _ => 0))]) := B
              refine lv_aload_n E.1 E.2.1 d_Mo_first_54 rfl (lv_at hl 1 rfl) ?_
              refine lv_iconst (v := nI 0) E.1 E.2.1 d_Mo_first_55 (by decide) ?_
              refine x_put E B 0 rfl k_Mo 4 (by decide) wd_397 rfl rfl rfl (Nat.le_of_ble_eq_true rfl) d_Mo_first_56 (fun H locs B => ?_)
              have B : xB G A s _ _ ([(h0, .inr (6, [.int (nI cd), .ref kq, .ref cq, .int (nI 0), .int (nI 0), .int lt, .ref lq, .ref pq, .ref oq, .int (nI os), .ref bq, .int tc, .int wr, .ref rq, .int (nI ln), .ref wq, .ref hq, .ref dq, .ref nq, .ref aq, .ref xq, .ref yq, .ref sq, .ref tq, .int (nI rd)])), (kq, x_N G 16 (fun _ => 0)), (cq, x_N G 16 (fun _ => 0)), (lq, x_N G 32 (fun _ => 0))]) := B
              refine lv_aload_n E.1 E.2.1 d_Mo_first_59 rfl (lv_at hl 1 rfl) ?_
              refine lv_iconst (v := -1) E.1 E.2.1 d_Mo_first_60 (by decide) ?_
              refine x_put E B 0 rfl k_Mo 5 (by decide) wd_398 rfl rfl rfl (Nat.le_of_ble_eq_true rfl) d_Mo_first_61 (fun H locs B => ?_)
              have B : xB G A s _ _ ([(h0, .inr (6, [.int (nI cd), .ref kq, .ref cq, .int (nI 0), .int (nI 0), .int (-1), .ref lq, .ref pq, .ref oq, .int (nI os), .ref bq, .int tc, .int wr, .ref rq, .int (nI ln), .ref wq, .ref hq, .ref dq, .ref nq, .ref aq, .ref xq, .ref yq, .ref sq, .ref tq, .int (nI rd)])), (kq, x_N G 16 (fun _ => 0)), (cq, x_N G 16 (fun _ => 0)), (lq, x_N G 32 (fun _ => 0))]) := B
              refine lv_aload_n E.1 E.2.1 d_Mo_first_64 rfl (lv_at hl 1 rfl) ?_
              refine lv_iconst (v := nI 0) E.1 E.2.1 d_Mo_first_65 (by decide) ?_
              refine x_put E B 0 rfl k_Mo 9 (by decide) wd_402 rfl rfl rfl (Nat.le_of_ble_eq_true rfl) d_Mo_first_66 (fun H locs B => ?_)
              have B : xB G A s _ _ ([(h0, .inr (6, [.int (nI cd), .ref kq, .ref cq, .int (nI 0), .int (nI 0), .int (-1), .ref lq, .ref pq, .ref oq, .int (nI 0), .ref bq, .int tc, .int wr, .ref rq, .int (nI ln), .ref wq, .ref hq, .ref dq, .ref nq, .ref aq, .ref xq, .ref yq, .ref sq, .ref tq, .int (nI rd)])), (kq, x_N G 16 (fun _ => 0)), (cq, x_N G 16 (fun _ => 0)), (lq, x_N G 32 (fun _ => 0))]) := B
              refine lv_aload_n E.1 E.2.1 d_Mo_first_69 rfl (lv_at hl 1 rfl) ?_
              refine lv_iconst (v := nI 0) E.1 E.2.1 d_Mo_first_70 (by decide) ?_
              refine x_put E B 0 rfl k_Mo 11 (by decide) wd_404 rfl rfl rfl (Nat.le_of_ble_eq_true rfl) d_Mo_first_71 (fun H locs B => ?_)
              have B : xB G A s _ _ ([(h0, .inr (6, [.int (nI cd), .ref kq, .ref cq, .int (nI 0), .int (nI 0), .int (-1), .ref lq, .ref pq, .ref oq, .int (nI 0), .ref bq, .int (nI 0), .int wr, .ref rq, .int (nI ln), .ref wq, .ref hq, .ref dq, .ref nq, .ref aq, .ref xq, .ref yq, .ref sq, .ref tq, .int (nI rd)])), (kq, x_N G 16 (fun _ => 0)), (cq, x_N G 16 (fun _ => 0)), (lq, x_N G 32 (fun _ => 0))]) := B
              exact hret () _ _ _ _ B trivial d_Mo_first_74
            · refine lv_aload_n E.1 E.2.1 d_Mo_first_36 rfl (lv_at hl 1 rfl) ?_
              refine x_get E B 0 rfl k_Mo 6 (by decide) wd_399 rfl d_Mo_first_37 ?_
              refine lv_iload_n E.1 E.2.1 d_Mo_first_40 rfl (lv_at hl 0 rfl) ?_
              refine lv_iconst (v := nI 0) E.1 E.2.1 d_Mo_first_41 (by decide) ?_
              refine x_astN E B 3 rfl (i := i) (v := 0) (by omega) (by decide) d_Mo_first_42 (fun H locs B => ?_)
              have B : xB G A s _ _ ([(h0, .inr (6, [.int (nI cd), .ref kq, .ref cq, .int (nI rs), .int ck, .int lt, .ref lq, .ref pq, .ref oq, .int (nI os), .ref bq, .int tc, .int wr, .ref rq, .int (nI ln), .ref wq, .ref hq, .ref dq, .ref nq, .ref aq, .ref xq, .ref yq, .ref sq, .ref tq, .int (nI rd)])), (kq, x_N G 16 (fun _ => 0)), (cq, x_N G 16 (fun _ => 0)), (lq, x_N G 32 (va_up (mx i (fun _ => 0) len) i 0))]) := B
              have B := B.fn 3 rfl (nA (mx (i + 1) (fun _ => 0) len)) (mx_fn rfl)
              have B : xB G A s _ _ ([(h0, .inr (6, [.int (nI cd), .ref kq, .ref cq, .int (nI rs), .int ck, .int lt, .ref lq, .ref pq, .ref oq, .int (nI os), .ref bq, .int tc, .int wr, .ref rq, .int (nI ln), .ref wq, .ref hq, .ref dq, .ref nq, .ref aq, .ref xq, .ref yq, .ref sq, .ref tq, .int (nI rd)])), (kq, x_N G 16 (fun _ => 0)), (cq, x_N G 16 (fun _ => 0)), (lq, x_N G 32 (mx (i + 1) (fun _ => 0) len))]) := B
              refine x_inc E 1 (lv' := [(1, .int (nI (i + 1))), (0, .ref h0)]) d_Mo_first_43 hl (k := 0) rfl rfl (by decide) rfl (fun ls hl => ?_)
              refine lv_goto (tgt := 30) E.1 E.2.1 d_Mo_first_46 (by decide) ?_
              exact ih30  (i + 1) (by omega) (by omega) _ _ _ B (lv_sub hl [0, 1] rfl)
        have B := B.fn 3 rfl (nA (mx 0 (fun _ => 0) len)) (mx_z _ _)
        have B : xB G A s _ _ ([(h0, .inr (6, [.int (nI cd), .ref kq, .ref cq, .int (nI rs), .int ck, .int lt, .ref lq, .ref pq, .ref oq, .int (nI os), .ref bq, .int tc, .int wr, .ref rq, .int (nI ln), .ref wq, .ref hq, .ref dq, .ref nq, .ref aq, .ref xq, .ref yq, .ref sq, .ref tq, .int (nI rd)])), (kq, x_N G 16 (fun _ => 0)), (cq, x_N G 16 (fun _ => 0)), (lq, x_N G 32 (mx 0 (fun _ => 0) len))]) := B
        exact hL30 (33) 0 (by omega) (by omega) _ _ _ B (lv_sub hl [0, 1] rfl)
      · refine lv_aload_n E.1 E.2.1 d_Mo_first_8 rfl (lv_at hl 1 rfl) ?_
        refine x_get E B 0 rfl k_Mo 1 (by decide) wd_394 rfl d_Mo_first_9 ?_
        refine lv_iload_n E.1 E.2.1 d_Mo_first_12 rfl (lv_at hl 0 rfl) ?_
        refine lv_iconst (v := nI 0) E.1 E.2.1 d_Mo_first_13 (by decide) ?_
        refine x_astN E B 1 rfl (i := i) (v := 0) (by omega) (by decide) d_Mo_first_14 (fun H locs B => ?_)
        have B : xB G A s _ _ ([(h0, .inr (6, [.int (nI cd), .ref kq, .ref cq, .int (nI rs), .int ck, .int lt, .ref lq, .ref pq, .ref oq, .int (nI os), .ref bq, .int tc, .int wr, .ref rq, .int (nI ln), .ref wq, .ref hq, .ref dq, .ref nq, .ref aq, .ref xq, .ref yq, .ref sq, .ref tq, .int (nI rd)])), (kq, x_N G 16 (va_up (mx i (fun _ => 0) key) i 0)), (cq, x_N G 16 (mx i (fun _ => 0) ctr)), (lq, x_N G 32 len)]) := B
        have B := B.fn 1 rfl (nA (mx (i + 1) (fun _ => 0) key)) (mx_fn rfl)
        have B : xB G A s _ _ ([(h0, .inr (6, [.int (nI cd), .ref kq, .ref cq, .int (nI rs), .int ck, .int lt, .ref lq, .ref pq, .ref oq, .int (nI os), .ref bq, .int tc, .int wr, .ref rq, .int (nI ln), .ref wq, .ref hq, .ref dq, .ref nq, .ref aq, .ref xq, .ref yq, .ref sq, .ref tq, .int (nI rd)])), (kq, x_N G 16 (mx (i + 1) (fun _ => 0) key)), (cq, x_N G 16 (mx i (fun _ => 0) ctr)), (lq, x_N G 32 len)]) := B
        refine lv_aload_n E.1 E.2.1 d_Mo_first_15 rfl (lv_at hl 1 rfl) ?_
        refine x_get E B 0 rfl k_Mo 2 (by decide) wd_395 rfl d_Mo_first_16 ?_
        refine lv_iload_n E.1 E.2.1 d_Mo_first_19 rfl (lv_at hl 0 rfl) ?_
        refine lv_iconst (v := nI 0) E.1 E.2.1 d_Mo_first_20 (by decide) ?_
        refine x_astN E B 2 rfl (i := i) (v := 0) (by omega) (by decide) d_Mo_first_21 (fun H locs B => ?_)
        have B : xB G A s _ _ ([(h0, .inr (6, [.int (nI cd), .ref kq, .ref cq, .int (nI rs), .int ck, .int lt, .ref lq, .ref pq, .ref oq, .int (nI os), .ref bq, .int tc, .int wr, .ref rq, .int (nI ln), .ref wq, .ref hq, .ref dq, .ref nq, .ref aq, .ref xq, .ref yq, .ref sq, .ref tq, .int (nI rd)])), (kq, x_N G 16 (mx (i + 1) (fun _ => 0) key)), (cq, x_N G 16 (va_up (mx i (fun _ => 0) ctr) i 0)), (lq, x_N G 32 len)]) := B
        have B := B.fn 2 rfl (nA (mx (i + 1) (fun _ => 0) ctr)) (mx_fn rfl)
        have B : xB G A s _ _ ([(h0, .inr (6, [.int (nI cd), .ref kq, .ref cq, .int (nI rs), .int ck, .int lt, .ref lq, .ref pq, .ref oq, .int (nI os), .ref bq, .int tc, .int wr, .ref rq, .int (nI ln), .ref wq, .ref hq, .ref dq, .ref nq, .ref aq, .ref xq, .ref yq, .ref sq, .ref tq, .int (nI rd)])), (kq, x_N G 16 (mx (i + 1) (fun _ => 0) key)), (cq, x_N G 16 (mx (i + 1) (fun _ => 0) ctr)), (lq, x_N G 32 len)]) := B
        refine x_inc E 1 (lv' := [(1, .int (nI (i + 1))), (0, .ref h0)]) d_Mo_first_22 hl (k := 0) rfl rfl (by decide) rfl (fun ls hl => ?_)
        refine lv_goto (tgt := 2) E.1 E.2.1 d_Mo_first_25 (by decide) ?_
        exact ih2  (i + 1) (by omega) (by omega) _ _ _ B (lv_sub hl [0, 1] rfl)
  have B := B.fn 1 rfl (nA (mx 0 (fun _ => 0) key)) (mx_z _ _)
  have B : xB G A s _ _ ([(h0, .inr (6, [.int (nI cd), .ref kq, .ref cq, .int (nI rs), .int ck, .int lt, .ref lq, .ref pq, .ref oq, .int (nI os), .ref bq, .int tc, .int wr, .ref rq, .int (nI ln), .ref wq, .ref hq, .ref dq, .ref nq, .ref aq, .ref xq, .ref yq, .ref sq, .ref tq, .int (nI rd)])), (kq, x_N G 16 (mx 0 (fun _ => 0) key)), (cq, x_N G 16 ctr), (lq, x_N G 32 len)]) := B
  have B := B.fn 2 rfl (nA (mx 0 (fun _ => 0) ctr)) (mx_z _ _)
  have B : xB G A s _ _ ([(h0, .inr (6, [.int (nI cd), .ref kq, .ref cq, .int (nI rs), .int ck, .int lt, .ref lq, .ref pq, .ref oq, .int (nI os), .ref bq, .int tc, .int wr, .ref rq, .int (nI ln), .ref wq, .ref hq, .ref dq, .ref nq, .ref aq, .ref xq, .ref yq, .ref sq, .ref tq, .int (nI rd)])), (kq, x_N G 16 (mx 0 (fun _ => 0) key)), (cq, x_N G 16 (mx 0 (fun _ => 0) ctr)), (lq, x_N G 32 len)]) := B
  exact hL2 (17) 0 (by omega) (by omega) _ _ _ B (lv_sub hl [0, 1] rfl)
