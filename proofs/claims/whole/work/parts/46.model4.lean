set_option maxHeartbeats 4000000 in
set_option maxRecDepth 100000 in
theorem q_Mo_generates (G : xG) (l : Launch) (h0 cd kq cq rs lq pq oq os bq rq ln wq hq dq nq aq xq yq sq tq rd : Nat) (ck lt tc wr : Int32) (to : Nat) (key ctr md bl ot s0 tt : Nat → Nat) (hk : g_bt 16 key) (hb : g_bt 16 ctr) (hto : to + 16 ≤ 272) (hrd : g_rd rd tt) : xMv G l y_Mo_generates c_Mo_generates 7 ({ frames := 4, cells := 0, slots := 0, locals := 95 }) [.ref h0, .int (nI to)] [] [(h0, .inr (6, [.int (nI cd), .ref kq, .ref cq, .int (nI rs), .int ck, .int lt, .ref lq, .ref pq, .ref oq, .int (nI os), .ref bq, .int tc, .int wr, .ref rq, .int (nI ln), .ref wq, .ref hq, .ref dq, .ref nq, .ref aq, .ref xq, .ref yq, .ref sq, .ref tq, .int (nI rd)])), (kq, x_N G 16 key), (cq, x_N G 16 ctr), (aq, x_N G 272 md), (xq, x_N G 16 bl), (yq, x_N G 16 ot), (sq, x_N G 176 s0), (tq, x_N G 256 tt)] (Nat × (Nat → Nat) × (Nat → Nat)) (fun u => g_rd u.1 u.2.1) (fun u => [(h0, .inr (6, [.int (nI cd), .ref kq, .ref cq, .int (nI rs), .int ck, .int lt, .ref lq, .ref pq, .ref oq, .int (nI os), .ref bq, .int tc, .int wr, .ref rq, .int (nI ln), .ref wq, .ref hq, .ref dq, .ref nq, .ref aq, .ref xq, .ref yq, .ref sq, .ref tq, .int (nI u.1)])), (kq, x_N G 16 key), (cq, x_N G 16 (g_ct ctr)), (aq, x_N G 272 (va_cpy (g_blk (g_sch key) ctr 10) md 0 to 16)), (xq, x_N G 16 (g_blk (g_sch key) ctr 10)), (yq, x_N G 16 u.2.2), (sq, x_N G 176 (g_sch key)), (tq, x_N G 256 u.2.1)]) 0 0 := by
  refine xMv.by r_Mo (by decide +kernel) (Nat.le_of_ble_eq_true rfl) rfl ?_
  intro p e s m args below meth c A ls Q E hin B hro hl hret
  have hl : lv_has ls 7 [(0, .ref h0), (1, .int (nI to))] := hl
  have hK := g_sch_bt hk
  refine lv_aload_n E.1 E.2.1 d_Mo_generates_0 rfl (lv_at hl 0 rfl) ?_
  refine x_cv (ws' := (fun u => [(h0, .inr (6, [.int (nI cd), .ref kq, .ref cq, .int (nI rs), .int ck, .int lt, .ref lq, .ref pq, .ref oq, .int (nI os), .ref bq, .int tc, .int wr, .ref rq, .int (nI ln), .ref wq, .ref hq, .ref dq, .ref nq, .ref aq, .ref xq, .ref yq, .ref sq, .ref tq, .int (nI u.1)])), (kq, x_N G 16 key), (cq, x_N G 16 ctr), (aq, x_N G 272 md), (xq, x_N G 16 bl), (yq, x_N G 16 ot), (sq, x_N G 176 (g_sch key)), (tq, x_N G 256 u.2)])) (wr := [(cq, x_N G 16 ctr), (aq, x_N G 272 md), (xq, x_N G 16 bl), (yq, x_N G 16 ot)]) B (x_rV (rest := []) E B (q_Mo_schedules G l h0 cd kq cq rs lq pq oq os bq rq ln wq hq dq nq aq xq yq sq tq rd ck lt tc wr key s0 tt (hk) (hrd) _) (x_pre B [0, 1, 6, 7] rfl (by decide) x_ro0) 0 rfl k_Mo (gg_V wd_618 wd_620 wd_29 wd_40 wd_621) ⟨rfl, p_Mo_schedules⟩ rfl rfl ⟨Nat.le_of_ble_eq_true rfl, Nat.le_of_ble_eq_true rfl⟩ rfl hl.1 rfl (Nat.le_of_ble_eq_true rfl) d_Mo_generates_1 ⟨Nat.le_of_ble_eq_true rfl, Nat.le_of_ble_eq_true rfl⟩) [0, 1, 6, 7] [2, 3, 4, 5] [4, 5, 0, 1, 2, 3, 6, 7] rfl rfl (by decide) (by decide) (by decide) (fun _ => rfl) (fun u1 H locs hw1 B => ?_)
  have B : xB G A s _ _ ([(h0, .inr (6, [.int (nI cd), .ref kq, .ref cq, .int (nI rs), .int ck, .int lt, .ref lq, .ref pq, .ref oq, .int (nI os), .ref bq, .int tc, .int wr, .ref rq, .int (nI ln), .ref wq, .ref hq, .ref dq, .ref nq, .ref aq, .ref xq, .ref yq, .ref sq, .ref tq, .int (nI u1.1)])), (kq, x_N G 16 key), (cq, x_N G 16 ctr), (aq, x_N G 272 md), (xq, x_N G 16 bl), (yq, x_N G 16 ot), (sq, x_N G 176 (g_sch key)), (tq, x_N G 256 u1.2)]) := B
  refine lv_iconst (v := nI 0) E.1 E.2.1 d_Mo_generates_4 (by decide) ?_
  refine lv_istore_n (lv' := [(2, .int (nI 0)), (0, .ref h0), (1, .int (nI to))]) E.1 E.2.1 d_Mo_generates_5 rfl hl (by decide) rfl (fun ls hl => ?_)
  have hL6 : ∀ (kf : Nat) (i : Nat), 16 - i < kf → (i ≤ 16) → ∀ (H : Heap) (locs : List Loc) (ls : Array Slot), xB G A s H locs ([(h0, .inr (6, [.int (nI cd), .ref kq, .ref cq, .int (nI rs), .int ck, .int lt, .ref lq, .ref pq, .ref oq, .int (nI os), .ref bq, .int tc, .int wr, .ref rq, .int (nI ln), .ref wq, .ref hq, .ref dq, .ref nq, .ref aq, .ref xq, .ref yq, .ref sq, .ref tq, .int (nI u1.1)])), (kq, x_N G 16 key), (cq, x_N G 16 ctr), (aq, x_N G 272 md), (xq, x_N G 16 (mx i (g_blk (g_sch key) ctr 0) bl)), (yq, x_N G 16 ot), (sq, x_N G 176 (g_sch key)), (tq, x_N G 256 u1.2)]) → lv_has ls 7 [(2, .int (nI i)), (0, .ref h0), (1, .int (nI to))] → W p l e ({ frames := 4, cells := 0, slots := 0, locals := 95 }) s m args below meth c H locs 0 0 Q (F0 m 6 ls []) := by
    intro k6
    induction k6 with
    | zero =>
      intro i hk
      exact absurd hk (Nat.not_lt_zero _)
    | succ k6 ih6 =>
      intro i hk6 hi H locs ls B hl
      refine lv_iload_n E.1 E.2.1 d_Mo_generates_6 rfl (lv_at hl 0 rfl) ?_
      refine lv_bipush (v := nI 16) E.1 E.2.1 d_Mo_generates_7 (by decide) ?_
      refine x_ge (tgt := 37) E d_Mo_generates_9 (by decide) (by omega) (by omega) (fun c1 => ?_) (fun c1 => ?_)
      · obtain rfl : i = 16 := by omega
        have B := B.fn 4 rfl (nA (g_blk (g_sch key) ctr 0)) (mx_e)
        have B : xB G A s _ _ ([(h0, .inr (6, [.int (nI cd), .ref kq, .ref cq, .int (nI rs), .int ck, .int lt, .ref lq, .ref pq, .ref oq, .int (nI os), .ref bq, .int tc, .int wr, .ref rq, .int (nI ln), .ref wq, .ref hq, .ref dq, .ref nq, .ref aq, .ref xq, .ref yq, .ref sq, .ref tq, .int (nI u1.1)])), (kq, x_N G 16 key), (cq, x_N G 16 ctr), (aq, x_N G 272 md), (xq, x_N G 16 (g_blk (g_sch key) ctr 0)), (yq, x_N G 16 ot), (sq, x_N G 176 (g_sch key)), (tq, x_N G 256 u1.2)]) := B
        refine lv_iconst (v := nI 1) E.1 E.2.1 d_Mo_generates_37 (by decide) ?_
        refine lv_istore_n (lv' := [(2, .int (nI 1)), (0, .ref h0), (1, .int (nI to))]) E.1 E.2.1 d_Mo_generates_38 rfl hl (by decide) rfl (fun ls hl => ?_)
        have hL39 : ∀ (kf : Nat) (r : Nat) (ot_ : Nat → Nat) (rd_ : Nat) (tt_ : Nat → Nat), 10 - r < kf → (r ≤ 10) → (g_rd rd_ tt_) → ∀ (H : Heap) (locs : List Loc) (ls : Array Slot), xB G A s H locs ([(h0, .inr (6, [.int (nI cd), .ref kq, .ref cq, .int (nI rs), .int ck, .int lt, .ref lq, .ref pq, .ref oq, .int (nI os), .ref bq, .int tc, .int wr, .ref rq, .int (nI ln), .ref wq, .ref hq, .ref dq, .ref nq, .ref aq, .ref xq, .ref yq, .ref sq, .ref tq, .int (nI rd_)])), (kq, x_N G 16 key), (cq, x_N G 16 ctr), (aq, x_N G 272 md), (xq, x_N G 16 (g_blk (g_sch key) ctr r)), (yq, x_N G 16 ot_), (sq, x_N G 176 (g_sch key)), (tq, x_N G 256 tt_)]) → lv_has ls 7 [(2, .int (nI (r + 1))), (0, .ref h0), (1, .int (nI to))] → W p l e ({ frames := 4, cells := 0, slots := 0, locals := 95 }) s m args below meth c H locs 0 0 Q (F0 m 39 ls []) := by
          intro k39
          induction k39 with
          | zero =>
            intro r ot_ rd_ tt_ hk
            exact absurd hk (Nat.not_lt_zero _)
          | succ k39 ih39 =>
            intro r ot_ rd_ tt_ hk39 hr hrd_ H locs ls B hl
            refine lv_iload_n E.1 E.2.1 d_Mo_generates_39 rfl (lv_at hl 0 rfl) ?_
            refine lv_bipush (v := nI 11) E.1 E.2.1 d_Mo_generates_40 (by decide) ?_
            refine x_ge (tgt := 236) E d_Mo_generates_42 (by decide) (by omega) (by omega) (fun c2 => ?_) (fun c2 => ?_)
            · obtain rfl : r = 10 := by omega
              refine lv_iconst (v := nI 0) E.1 E.2.1 d_Mo_generates_236 (by decide) ?_
              refine lv_istore_n (lv' := [(2, .int (nI 0)), (0, .ref h0), (1, .int (nI to))]) E.1 E.2.1 d_Mo_generates_237 rfl hl (by decide) rfl (fun ls hl => ?_)
              have hL238 : ∀ (kf : Nat) (i : Nat), 16 - i < kf → (i ≤ 16) → ∀ (H : Heap) (locs : List Loc) (ls : Array Slot), xB G A s H locs ([(h0, .inr (6, [.int (nI cd), .ref kq, .ref cq, .int (nI rs), .int ck, .int lt, .ref lq, .ref pq, .ref oq, .int (nI os), .ref bq, .int tc, .int wr, .ref rq, .int (nI ln), .ref wq, .ref hq, .ref dq, .ref nq, .ref aq, .ref xq, .ref yq, .ref sq, .ref tq, .int (nI rd_)])), (kq, x_N G 16 key), (cq, x_N G 16 ctr), (aq, x_N G 272 (va_cpy (g_blk (g_sch key) ctr 10) md 0 to i)), (xq, x_N G 16 (g_blk (g_sch key) ctr 10)), (yq, x_N G 16 ot_), (sq, x_N G 176 (g_sch key)), (tq, x_N G 256 tt_)]) → lv_has ls 7 [(2, .int (nI i)), (0, .ref h0), (1, .int (nI to))] → W p l e ({ frames := 4, cells := 0, slots := 0, locals := 95 }) s m args below meth c H locs 0 0 Q (F0 m 238 ls []) := by
                intro k238
                induction k238 with
                | zero =>
                  intro i hk
                  exact absurd hk (Nat.not_lt_zero _)
                | succ k238 ih238 =>
                  intro i hk238 hi H locs ls B hl
                  refine lv_iload_n E.1 E.2.1 d_Mo_generates_238 rfl (lv_at hl 0 rfl) ?_
                  refine lv_bipush (v := nI 16) E.1 E.2.1 d_Mo_generates_239 (by decide) ?_
                  refine x_ge (tgt := 264) E d_Mo_generates_241 (by decide) (by omega) (by omega) (fun c3 => ?_) (fun c3 => ?_)
                  · obtain rfl : i = 16 := by omega
                    refine lv_aload_n E.1 E.2.1 d_Mo_generates_264 rfl (lv_at hl 1 rfl) ?_
                    refine x_cv (ws' := (fun u => [(h0, .inr (6, [.int (nI cd), .ref kq, .ref cq, .int (nI rs), .int ck, .int lt, .ref lq, .ref pq, .ref oq, .int (nI os), .ref bq, .int tc, .int wr, .ref rq, .int (nI ln), .ref wq, .ref hq, .ref dq, .ref nq, .ref aq, .ref xq, .ref yq, .ref sq, .ref tq, .int (nI rd_)])), (kq, x_N G 16 key), (cq, x_N G 16 (g_ct ctr)), (aq, x_N G 272 (va_cpy (g_blk (g_sch key) ctr 10) md 0 to 16)), (xq, x_N G 16 (g_blk (g_sch key) ctr 10)), (yq, x_N G 16 ot_), (sq, x_N G 176 (g_sch key)), (tq, x_N G 256 tt_)])) (wr := [(kq, x_N G 16 key), (aq, x_N G 272 (va_cpy (g_blk (g_sch key) ctr 10) md 0 to 16)), (xq, x_N G 16 (g_blk (g_sch key) ctr 10)), (yq, x_N G 16 ot_), (sq, x_N G 176 (g_sch key)), (tq, x_N G 256 tt_)]) B (x_rV (rest := []) E B (q_Mo_counts G l h0 cd kq cq rs lq pq oq os bq rq ln wq hq dq nq aq xq yq sq tq rd_ ck lt tc wr ctr (hb) _) (x_pre B [0, 2] rfl (by decide) x_ro0) 0 rfl k_Mo (gg_V wd_602 wd_604 wd_25 wd_40 wd_605) ⟨rfl, p_Mo_counts⟩ rfl rfl ⟨Nat.le_of_ble_eq_true rfl, Nat.le_of_ble_eq_true rfl⟩ rfl hl.1 rfl (Nat.le_of_ble_eq_true rfl) d_Mo_generates_265 ⟨Nat.le_of_ble_eq_true rfl, Nat.le_of_ble_eq_true rfl⟩) [0, 2] [1, 3, 4, 5, 6, 7] [6, 0, 7, 1, 2, 3, 4, 5] rfl rfl (by decide) (by decide) (by decide) (fun _ => rfl) (fun u265 H locs hw265 B => ?_)
                    have B : xB G A s _ _ ([(h0, .inr (6, [.int (nI cd), .ref kq, .ref cq, .int (nI rs), .int ck, .int lt, .ref lq, .ref pq, .ref oq, .int (nI os), .ref bq, .int tc, .int wr, .ref rq, .int (nI ln), .ref wq, .ref hq, .ref dq, .ref nq, .ref aq, .ref xq, .ref yq, .ref sq, .ref tq, .int (nI rd_)])), (kq, x_N G 16 key), (cq, x_N G 16 (g_ct ctr)), (aq, x_N G 272 (va_cpy (g_blk (g_sch key) ctr 10) md 0 to 16)), (xq, x_N G 16 (g_blk (g_sch key) ctr 10)), (yq, x_N G 16 ot_), (sq, x_N G 176 (g_sch key)), (tq, x_N G 256 tt_)]) := B
                    exact hret (rd_, tt_, _) _ _ _ _ B hrd_ d_Mo_generates_268
                  · refine lv_aload_n E.1 E.2.1 d_Mo_generates_244 rfl (lv_at hl 1 rfl) ?_
                    refine x_get E B 0 rfl k_Mo 19 (by decide) wd_412 rfl d_Mo_generates_245 ?_
                    refine lv_iload_n E.1 E.2.1 d_Mo_generates_248 rfl (lv_at hl 2 rfl) ?_
                    refine lv_iload_n E.1 E.2.1 d_Mo_generates_249 rfl (lv_at hl 0 rfl) ?_
                    refine x_iadd E d_Mo_generates_250 ?_
                    refine lv_aload_n E.1 E.2.1 d_Mo_generates_251 rfl (lv_at hl 1 rfl) ?_
                    refine x_get E B 0 rfl k_Mo 20 (by decide) wd_413 rfl d_Mo_generates_252 ?_
                    refine lv_iload_n E.1 E.2.1 d_Mo_generates_255 rfl (lv_at hl 0 rfl) ?_
                    refine x_aldN E B 4 rfl (i := i) (by omega) (by decide) d_Mo_generates_256 ?_
                    refine x_astN E B 3 rfl (i := to + i) (v := (g_blk (g_sch key) ctr 10) i) (by omega) (by decide) d_Mo_generates_257 (fun H locs B => ?_)
                    have B : xB G A s _ _ ([(h0, .inr (6, [.int (nI cd), .ref kq, .ref cq, .int (nI rs), .int ck, .int lt, .ref lq, .ref pq, .ref oq, .int (nI os), .ref bq, .int tc, .int wr, .ref rq, .int (nI ln), .ref wq, .ref hq, .ref dq, .ref nq, .ref aq, .ref xq, .ref yq, .ref sq, .ref tq, .int (nI rd_)])), (kq, x_N G 16 key), (cq, x_N G 16 ctr), (aq, x_N G 272 (va_up (va_cpy (g_blk (g_sch key) ctr 10) md 0 to i) (to + i) ((g_blk (g_sch key) ctr 10) i))), (xq, x_N G 16 (g_blk (g_sch key) ctr 10)), (yq, x_N G 16 ot_), (sq, x_N G 176 (g_sch key)), (tq, x_N G 256 tt_)]) := B
                    have B := B.fn 3 rfl (nA (va_cpy (g_blk (g_sch key) ctr 10) md 0 to (i + 1))) (cp_s rfl)
                    have B : xB G A s _ _ ([(h0, .inr (6, [.int (nI cd), .ref kq, .ref cq, .int (nI rs), .int ck, .int lt, .ref lq, .ref pq, .ref oq, .int (nI os), .ref bq, .int tc, .int wr, .ref rq, .int (nI ln), .ref wq, .ref hq, .ref dq, .ref nq, .ref aq, .ref xq, .ref yq, .ref sq, .ref tq, .int (nI rd_)])), (kq, x_N G 16 key), (cq, x_N G 16 ctr), (aq, x_N G 272 (va_cpy (g_blk (g_sch key) ctr 10) md 0 to (i + 1))), (xq, x_N G 16 (g_blk (g_sch key) ctr 10)), (yq, x_N G 16 ot_), (sq, x_N G 176 (g_sch key)), (tq, x_N G 256 tt_)]) := B
                    refine x_inc E 1 (lv' := [(2, .int (nI (i + 1))), (0, .ref h0), (1, .int (nI to))]) d_Mo_generates_258 hl (k := 0) rfl rfl (by decide) rfl (fun ls hl => ?_)
                    refine lv_goto (tgt := 238) E.1 E.2.1 d_Mo_generates_261 (by decide) ?_
                    exact ih238  (i + 1) (by omega) (by omega) _ _ _ B (lv_sub hl [0, 1, 2] rfl)
              have B := B.fn 3 rfl (nA (va_cpy (g_blk (g_sch key) ctr 10) md 0 to 0)) (cp_z)
              have B : xB G A s _ _ ([(h0, .inr (6, [.int (nI cd), .ref kq, .ref cq, .int (nI rs), .int ck, .int lt, .ref lq, .ref pq, .ref oq, .int (nI os), .ref bq, .int tc, .int wr, .ref rq, .int (nI ln), .ref wq, .ref hq, .ref dq, .ref nq, .ref aq, .ref xq, .ref yq, .ref sq, .ref tq, .int (nI rd_)])), (kq, x_N G 16 key), (cq, x_N G 16 ctr), (aq, x_N G 272 (va_cpy (g_blk (g_sch key) ctr 10) md 0 to 0)), (xq, x_N G 16 (g_blk (g_sch key) ctr 10)), (yq, x_N G 16 ot_), (sq, x_N G 176 (g_sch key)), (tq, x_N G 256 tt_)]) := B
              exact hL238 (17) 0 (by omega) (by omega) _ _ _ B (lv_sub hl [0, 1, 2] rfl)
            · refine lv_iconst (v := nI 0) E.1 E.2.1 d_Mo_generates_45 (by decide) ?_
              refine lv_istore_n (lv' := [(3, .int (nI 0)), (2, .int (nI (r + 1))), (0, .ref h0), (1, .int (nI to))]) E.1 E.2.1 d_Mo_generates_46 rfl hl (by decide) rfl (fun ls hl => ?_)
              have hL47 : ∀ (kf : Nat) (z : Nat) (rd_ : Nat) (tt_ : Nat → Nat), 4 - z < kf → (z ≤ 4) → (g_rd rd_ tt_) → ∀ (H : Heap) (locs : List Loc) (ls : Array Slot), xB G A s H locs ([(h0, .inr (6, [.int (nI cd), .ref kq, .ref cq, .int (nI rs), .int ck, .int lt, .ref lq, .ref pq, .ref oq, .int (nI os), .ref bq, .int tc, .int wr, .ref rq, .int (nI ln), .ref wq, .ref hq, .ref dq, .ref nq, .ref aq, .ref xq, .ref yq, .ref sq, .ref tq, .int (nI rd_)])), (kq, x_N G 16 key), (cq, x_N G 16 ctr), (aq, x_N G 272 md), (xq, x_N G 16 (g_blk (g_sch key) ctr r)), (yq, x_N G 16 (mx (4 * z) (g_sm (g_blk (g_sch key) ctr r)) ot_)), (sq, x_N G 176 (g_sch key)), (tq, x_N G 256 tt_)]) → lv_has ls 7 [(3, .int (nI z)), (2, .int (nI (r + 1))), (0, .ref h0), (1, .int (nI to))] → W p l e ({ frames := 4, cells := 0, slots := 0, locals := 95 }) s m args below meth c H locs 0 0 Q (F0 m 47 ls []) := by
                intro k47
                induction k47 with
                | zero =>
                  intro z rd_ tt_ hk
                  exact absurd hk (Nat.not_lt_zero _)
                | succ k47 ih47 =>
                  intro z rd_ tt_ hk47 hz hrd_ H locs ls B hl
                  refine lv_iload_n E.1 E.2.1 d_Mo_generates_47 rfl (lv_at hl 0 rfl) ?_
                  refine lv_iconst (v := nI 4) E.1 E.2.1 d_Mo_generates_48 (by decide) ?_
                  refine x_ge (tgt := 104) E d_Mo_generates_49 (by decide) (by omega) (by omega) (fun c4 => ?_) (fun c4 => ?_)
                  · obtain rfl : z = 4 := by omega
                    have B := B.fn 5 rfl (nA (g_sm (g_blk (g_sch key) ctr r))) (mx_e)
                    have B : xB G A s _ _ ([(h0, .inr (6, [.int (nI cd), .ref kq, .ref cq, .int (nI rs), .int ck, .int lt, .ref lq, .ref pq, .ref oq, .int (nI os), .ref bq, .int tc, .int wr, .ref rq, .int (nI ln), .ref wq, .ref hq, .ref dq, .ref nq, .ref aq, .ref xq, .ref yq, .ref sq, .ref tq, .int (nI rd_)])), (kq, x_N G 16 key), (cq, x_N G 16 ctr), (aq, x_N G 272 md), (xq, x_N G 16 (g_blk (g_sch key) ctr r)), (yq, x_N G 16 (g_sm (g_blk (g_sch key) ctr r))), (sq, x_N G 176 (g_sch key)), (tq, x_N G 256 tt_)]) := B
                    refine lv_iconst (v := nI 0) E.1 E.2.1 d_Mo_generates_104 (by decide) ?_
                    refine lv_istore_n (lv' := [(3, .int (nI 0)), (2, .int (nI (r + 1))), (0, .ref h0), (1, .int (nI to))]) E.1 E.2.1 d_Mo_generates_105 rfl hl (by decide) rfl (fun ls hl => ?_)
                    have hL106 : ∀ (kf : Nat) (i : Nat), 16 - i < kf → (i ≤ 16) → ∀ (H : Heap) (locs : List Loc) (ls : Array Slot), xB G A s H locs ([(h0, .inr (6, [.int (nI cd), .ref kq, .ref cq, .int (nI rs), .int ck, .int lt, .ref lq, .ref pq, .ref oq, .int (nI os), .ref bq, .int tc, .int wr, .ref rq, .int (nI ln), .ref wq, .ref hq, .ref dq, .ref nq, .ref aq, .ref xq, .ref yq, .ref sq, .ref tq, .int (nI rd_)])), (kq, x_N G 16 key), (cq, x_N G 16 ctr), (aq, x_N G 272 md), (xq, x_N G 16 (mx i (g_blk (g_sch key) ctr (r + 1)) (g_blk (g_sch key) ctr r))), (yq, x_N G 16 (g_sm (g_blk (g_sch key) ctr r))), (sq, x_N G 176 (g_sch key)), (tq, x_N G 256 tt_)]) → lv_has ls 7 [(3, .int (nI i)), (2, .int (nI (r + 1))), (0, .ref h0), (1, .int (nI to))] → W p l e ({ frames := 4, cells := 0, slots := 0, locals := 95 }) s m args below meth c H locs 0 0 Q (F0 m 106 ls []) := by
                      intro k106
                      induction k106 with
                      | zero =>
                        intro i hk
                        exact absurd hk (Nat.not_lt_zero _)
                      | succ k106 ih106 =>
                        intro i hk106 hi H locs ls B hl
                        refine lv_iload_n E.1 E.2.1 d_Mo_generates_106 rfl (lv_at hl 0 rfl) ?_
                        refine lv_bipush (v := nI 16) E.1 E.2.1 d_Mo_generates_107 (by decide) ?_
                        refine x_ge (tgt := 230) E d_Mo_generates_109 (by decide) (by omega) (by omega) (fun c5 => ?_) (fun c5 => ?_)
                        · obtain rfl : i = 16 := by omega
                          have B := B.fn 4 rfl (nA (g_blk (g_sch key) ctr (r + 1))) (mx_e)
                          have B : xB G A s _ _ ([(h0, .inr (6, [.int (nI cd), .ref kq, .ref cq, .int (nI rs), .int ck, .int lt, .ref lq, .ref pq, .ref oq, .int (nI os), .ref bq, .int tc, .int wr, .ref rq, .int (nI ln), .ref wq, .ref hq, .ref dq, .ref nq, .ref aq, .ref xq, .ref yq, .ref sq, .ref tq, .int (nI rd_)])), (kq, x_N G 16 key), (cq, x_N G 16 ctr), (aq, x_N G 272 md), (xq, x_N G 16 (g_blk (g_sch key) ctr (r + 1))), (yq, x_N G 16 (g_sm (g_blk (g_sch key) ctr r))), (sq, x_N G 176 (g_sch key)), (tq, x_N G 256 tt_)]) := B
                          refine x_inc E 1 (lv' := [(2, .int (nI ((r + 1) + 1))), (3, .int (nI 16)), (0, .ref h0), (1, .int (nI to))]) d_Mo_generates_230 hl (k := 1) rfl rfl (by decide) rfl (fun ls hl => ?_)
                          refine lv_goto (tgt := 39) E.1 E.2.1 d_Mo_generates_233 (by decide) ?_
                          exact ih39  (r + 1) _ rd_ tt_ (by omega) (by omega) (hrd_) _ _ _ B (lv_sub hl [0, 2, 3] rfl)
                        · refine lv_iload_n E.1 E.2.1 d_Mo_generates_112 rfl (lv_at hl 0 rfl) ?_
                          refine lv_iconst (v := nI 4) E.1 E.2.1 d_Mo_generates_113 (by decide) ?_
                          refine x_idiv E d_Mo_generates_114 (by omega) (by decide) (by decide) ?_
                          refine lv_iconst (v := nI 4) E.1 E.2.1 d_Mo_generates_115 (by decide) ?_
                          refine x_imul E d_Mo_generates_116 ?_
                          refine lv_istore (lv' := [(4, .int (nI ((i / 4) * 4))), (3, .int (nI i)), (2, .int (nI (r + 1))), (0, .ref h0), (1, .int (nI to))]) E.1 E.2.1 d_Mo_generates_117 hl (by decide) rfl (fun ls hl => ?_)
                          refine lv_iload_n E.1 E.2.1 d_Mo_generates_119 rfl (lv_at hl 1 rfl) ?_
                          refine lv_iconst (v := nI 4) E.1 E.2.1 d_Mo_generates_120 (by decide) ?_
                          refine x_irem E d_Mo_generates_121 (by omega) (by decide) (by decide) ?_
                          refine lv_istore (lv' := [(5, .int (nI (i % 4))), (4, .int (nI ((i / 4) * 4))), (3, .int (nI i)), (2, .int (nI (r + 1))), (0, .ref h0), (1, .int (nI to))]) E.1 E.2.1 d_Mo_generates_122 hl (by decide) rfl (fun ls hl => ?_)
                          refine lv_aload_n E.1 E.2.1 d_Mo_generates_124 rfl (lv_at hl 4 rfl) ?_
                          refine x_get E B 0 rfl k_Mo 21 (by decide) wd_414 rfl d_Mo_generates_125 ?_
                          refine lv_iload E.1 E.2.1 d_Mo_generates_128 (lv_at hl 1 rfl) ?_
                          refine lv_iload E.1 E.2.1 d_Mo_generates_130 (lv_at hl 0 rfl) ?_
                          refine x_iadd E d_Mo_generates_132 ?_
                          refine x_aldN E B 5 rfl (i := ((i / 4) * 4) + (i % 4)) (by omega) (by decide) d_Mo_generates_133 ?_
                          refine lv_iconst (v := nI 2) E.1 E.2.1 d_Mo_generates_134 (by decide) ?_
                          refine x_cf (x_rS (rest := []) E (q_Mo_times l ((g_sm (g_blk (g_sch key) ctr r)) (((i / 4) * 4) + (i % 4))) 2 (g_sm_bt (g_blk_bt (g_sch_bt hk) hb r) _ (by omega)) (by decide)) x_pf (gg_S wd_629 wd_630 wd_40 wd_631) p_Mo_times rfl rfl ⟨Nat.le_of_ble_eq_true rfl, Nat.le_of_ble_eq_true rfl⟩ rfl hl.1 rfl (Nat.le_of_ble_eq_true rfl) d_Mo_generates_135 ⟨Nat.le_of_ble_eq_true rfl, Nat.le_of_ble_eq_true rfl⟩) ?_
                          refine lv_aload_n E.1 E.2.1 d_Mo_generates_138 rfl (lv_at hl 4 rfl) ?_
                          refine x_get E B 0 rfl k_Mo 21 (by decide) wd_414 rfl d_Mo_generates_139 ?_
                          refine lv_iload E.1 E.2.1 d_Mo_generates_142 (lv_at hl 1 rfl) ?_
                          refine lv_iload E.1 E.2.1 d_Mo_generates_144 (lv_at hl 0 rfl) ?_
                          refine lv_iconst (v := nI 1) E.1 E.2.1 d_Mo_generates_146 (by decide) ?_
                          refine x_iadd E d_Mo_generates_147 ?_
                          refine lv_iconst (v := nI 4) E.1 E.2.1 d_Mo_generates_148 (by decide) ?_
                          refine x_irem E d_Mo_generates_149 (by omega) (by decide) (by decide) ?_
                          refine x_iadd E d_Mo_generates_150 ?_
                          refine x_aldN E B 5 rfl (i := ((i / 4) * 4) + (((i % 4) + 1) % 4)) (by omega) (by decide) d_Mo_generates_151 ?_
                          refine lv_iconst (v := nI 3) E.1 E.2.1 d_Mo_generates_152 (by decide) ?_
                          refine x_cf (x_rS (rest := [.int (nI (g_tm ((g_sm (g_blk (g_sch key) ctr r)) (((i / 4) * 4) + (i % 4))) 2))]) E (q_Mo_times l ((g_sm (g_blk (g_sch key) ctr r)) (((i / 4) * 4) + (((i % 4) + 1) % 4))) 3 (g_sm_bt (g_blk_bt (g_sch_bt hk) hb r) _ (by omega)) (by decide)) x_pf (gg_S wd_629 wd_630 wd_40 wd_631) p_Mo_times rfl rfl ⟨Nat.le_of_ble_eq_true rfl, Nat.le_of_ble_eq_true rfl⟩ rfl hl.1 rfl (Nat.le_of_ble_eq_true rfl) d_Mo_generates_153 ⟨Nat.le_of_ble_eq_true rfl, Nat.le_of_ble_eq_true rfl⟩) ?_
                          refine x_ixor E d_Mo_generates_156 ?_
                          refine lv_aload_n E.1 E.2.1 d_Mo_generates_157 rfl (lv_at hl 4 rfl) ?_
                          refine x_get E B 0 rfl k_Mo 21 (by decide) wd_414 rfl d_Mo_generates_158 ?_
                          refine lv_iload E.1 E.2.1 d_Mo_generates_161 (lv_at hl 1 rfl) ?_
                          refine lv_iload E.1 E.2.1 d_Mo_generates_163 (lv_at hl 0 rfl) ?_
                          refine lv_iconst (v := nI 2) E.1 E.2.1 d_Mo_generates_165 (by decide) ?_
                          refine x_iadd E d_Mo_generates_166 ?_
                          refine lv_iconst (v := nI 4) E.1 E.2.1 d_Mo_generates_167 (by decide) ?_
                          refine x_irem E d_Mo_generates_168 (by omega) (by decide) (by decide) ?_
                          refine x_iadd E d_Mo_generates_169 ?_
                          refine x_aldN E B 5 rfl (i := ((i / 4) * 4) + (((i % 4) + 2) % 4)) (by omega) (by decide) d_Mo_generates_170 ?_
                          refine x_ixor E d_Mo_generates_171 ?_
                          refine lv_aload_n E.1 E.2.1 d_Mo_generates_172 rfl (lv_at hl 4 rfl) ?_
                          refine x_get E B 0 rfl k_Mo 21 (by decide) wd_414 rfl d_Mo_generates_173 ?_
                          refine lv_iload E.1 E.2.1 d_Mo_generates_176 (lv_at hl 1 rfl) ?_
                          refine lv_iload E.1 E.2.1 d_Mo_generates_178 (lv_at hl 0 rfl) ?_
                          refine lv_iconst (v := nI 3) E.1 E.2.1 d_Mo_generates_180 (by decide) ?_
                          refine x_iadd E d_Mo_generates_181 ?_
                          refine lv_iconst (v := nI 4) E.1 E.2.1 d_Mo_generates_182 (by decide) ?_
                          refine x_irem E d_Mo_generates_183 (by omega) (by decide) (by decide) ?_
                          refine x_iadd E d_Mo_generates_184 ?_
                          refine x_aldN E B 5 rfl (i := ((i / 4) * 4) + (((i % 4) + 3) % 4)) (by omega) (by decide) d_Mo_generates_185 ?_
                          refine x_ixor E d_Mo_generates_186 ?_
                          refine x_top (show nI ((((g_tm ((g_sm (g_blk (g_sch key) ctr r)) (((i / 4) * 4) + (i % 4))) 2) ^^^ (g_tm ((g_sm (g_blk (g_sch key) ctr r)) (((i / 4) * 4) + (((i % 4) + 1) % 4))) 3)) ^^^ ((g_sm (g_blk (g_sch key) ctr r)) (((i / 4) * 4) + (((i % 4) + 2) % 4)))) ^^^ ((g_sm (g_blk (g_sch key) ctr r)) (((i / 4) * 4) + (((i % 4) + 3) % 4)))) = nI (g_mc (g_sm (g_blk (g_sch key) ctr r)) i) from congrArg nI (by exact g_mcE (g_sm_bt (g_blk_bt (g_sch_bt hk) hb r)) (by omega))) ?_
                          refine lv_istore (lv' := [(6, .int (nI (g_mc (g_sm (g_blk (g_sch key) ctr r)) i))), (5, .int (nI (i % 4))), (4, .int (nI ((i / 4) * 4))), (3, .int (nI i)), (2, .int (nI (r + 1))), (0, .ref h0), (1, .int (nI to))]) E.1 E.2.1 d_Mo_generates_187 hl (by decide) rfl (fun ls hl => ?_)
                          refine lv_aload_n E.1 E.2.1 d_Mo_generates_189 rfl (lv_at hl 5 rfl) ?_
                          refine x_get E B 0 rfl k_Mo 20 (by decide) wd_413 rfl d_Mo_generates_190 ?_
                          refine lv_iload_n E.1 E.2.1 d_Mo_generates_193 rfl (lv_at hl 3 rfl) ?_
                          refine lv_iload_n E.1 E.2.1 d_Mo_generates_194 rfl (lv_at hl 4 rfl) ?_
                          refine lv_bipush (v := nI 10) E.1 E.2.1 d_Mo_generates_195 (by decide) ?_
                          refine x_ne (tgt := 209) E d_Mo_generates_197 (by decide) (by omega) (by omega) (fun h10 => ?_) (fun h10 => ?_)
                          · refine lv_iload E.1 E.2.1 d_Mo_generates_209 (lv_at hl 0 rfl) ?_
                            refine lv_aload_n E.1 E.2.1 d_Mo_generates_211 rfl (lv_at hl 5 rfl) ?_
                            refine x_get E B 0 rfl k_Mo 22 (by decide) wd_415 rfl d_Mo_generates_212 ?_
                            refine lv_bipush (v := nI 16) E.1 E.2.1 d_Mo_generates_215 (by decide) ?_
                            refine lv_iload_n E.1 E.2.1 d_Mo_generates_217 rfl (lv_at hl 4 rfl) ?_
                            refine x_imul E d_Mo_generates_218 ?_
                            refine lv_iload_n E.1 E.2.1 d_Mo_generates_219 rfl (lv_at hl 3 rfl) ?_
                            refine x_iadd E d_Mo_generates_220 ?_
                            refine x_aldN E B 6 rfl (i := (16 * (r + 1)) + i) (by omega) (by decide) d_Mo_generates_221 ?_
                            refine x_ixor E d_Mo_generates_222 ?_
                            refine x_astN E B 4 rfl (i := i) (v := (g_mc (g_sm (g_blk (g_sch key) ctr r)) i) ^^^ ((g_sch key) ((16 * (r + 1)) + i))) (by omega) (by decide) d_Mo_generates_223 (fun H locs B => ?_)
                            have B : xB G A s _ _ ([(h0, .inr (6, [.int (nI cd), .ref kq, .ref cq, .int (nI rs), .int ck, .int lt, .ref lq, .ref pq, .ref oq, .int (nI os), .ref bq, .int tc, .int wr, .ref rq, .int (nI ln), .ref wq, .ref hq, .ref dq, .ref nq, .ref aq, .ref xq, .ref yq, .ref sq, .ref tq, .int (nI rd_)])), (kq, x_N G 16 key), (cq, x_N G 16 ctr), (aq, x_N G 272 md), (xq, x_N G 16 (va_up (mx i (g_blk (g_sch key) ctr (r + 1)) (g_blk (g_sch key) ctr r)) i ((g_mc (g_sm (g_blk (g_sch key) ctr r)) i) ^^^ ((g_sch key) ((16 * (r + 1)) + i))))), (yq, x_N G 16 (g_sm (g_blk (g_sch key) ctr r))), (sq, x_N G 176 (g_sch key)), (tq, x_N G 256 tt_)]) := B
                            have B := B.fn 4 rfl (nA (mx (i + 1) (g_blk (g_sch key) ctr (r + 1)) (g_blk (g_sch key) ctr r))) (mx_fn (by first | exact g_bkE (by rw [if_neg (by omega)]) | exact g_bkE (by rw [if_pos (by omega)])))
                            have B : xB G A s _ _ ([(h0, .inr (6, [.int (nI cd), .ref kq, .ref cq, .int (nI rs), .int ck, .int lt, .ref lq, .ref pq, .ref oq, .int (nI os), .ref bq, .int tc, .int wr, .ref rq, .int (nI ln), .ref wq, .ref hq, .ref dq, .ref nq, .ref aq, .ref xq, .ref yq, .ref sq, .ref tq, .int (nI rd_)])), (kq, x_N G 16 key), (cq, x_N G 16 ctr), (aq, x_N G 272 md), (xq, x_N G 16 (mx (i + 1) (g_blk (g_sch key) ctr (r + 1)) (g_blk (g_sch key) ctr r))), (yq, x_N G 16 (g_sm (g_blk (g_sch key) ctr r))), (sq, x_N G 176 (g_sch key)), (tq, x_N G 256 tt_)]) := B
                            refine x_inc E 1 (lv' := [(3, .int (nI (i + 1))), (6, .int (nI (g_mc (g_sm (g_blk (g_sch key) ctr r)) i))), (5, .int (nI (i % 4))), (4, .int (nI ((i / 4) * 4))), (2, .int (nI (r + 1))), (0, .ref h0), (1, .int (nI to))]) d_Mo_generates_224 hl (k := 3) rfl rfl (by decide) rfl (fun ls hl => ?_)
                            refine lv_goto (tgt := 106) E.1 E.2.1 d_Mo_generates_227 (by decide) ?_
                            exact ih106  (i + 1) (by omega) (by omega) _ _ _ B (lv_sub hl [0, 4, 5, 6] rfl)
                          · refine lv_aload_n E.1 E.2.1 d_Mo_generates_200 rfl (lv_at hl 5 rfl) ?_
                            refine x_get E B 0 rfl k_Mo 21 (by decide) wd_414 rfl d_Mo_generates_201 ?_
                            refine lv_iload_n E.1 E.2.1 d_Mo_generates_204 rfl (lv_at hl 3 rfl) ?_
                            refine x_aldN E B 5 rfl (i := i) (by omega) (by decide) d_Mo_generates_205 ?_
                            refine lv_goto (tgt := 211) E.1 E.2.1 d_Mo_generates_206 (by decide) ?_
                            refine lv_aload_n E.1 E.2.1 d_Mo_generates_211 rfl (lv_at hl 5 rfl) ?_
                            refine x_get E B 0 rfl k_Mo 22 (by decide) wd_415 rfl d_Mo_generates_212 ?_
                            refine lv_bipush (v := nI 16) E.1 E.2.1 d_Mo_generates_215 (by decide) ?_
                            refine lv_iload_n E.1 E.2.1 d_Mo_generates_217 rfl (lv_at hl 4 rfl) ?_
                            refine x_imul E d_Mo_generates_218 ?_
                            refine lv_iload_n E.1 E.2.1 d_Mo_generates_219 rfl (lv_at hl 3 rfl) ?_
                            refine x_iadd E d_Mo_generates_220 ?_
                            refine x_aldN E B 6 rfl (i := (16 * (r + 1)) + i) (by omega) (by decide) d_Mo_generates_221 ?_
                            refine x_ixor E d_Mo_generates_222 ?_
                            refine x_astN E B 4 rfl (i := i) (v := ((g_sm (g_blk (g_sch key) ctr r)) i) ^^^ ((g_sch key) ((16 * (r + 1)) + i))) (by omega) (by decide) d_Mo_generates_223 (fun H locs B => ?_)
                            have B : xB G A s _ _ ([(h0, .inr (6, [.int (nI cd), .ref kq, .ref cq, .int (nI rs), .int ck, .int lt, .ref lq, .ref pq, .ref oq, .int (nI os), .ref bq, .int tc, .int wr, .ref rq, .int (nI ln), .ref wq, .ref hq, .ref dq, .ref nq, .ref aq, .ref xq, .ref yq, .ref sq, .ref tq, .int (nI rd_)])), (kq, x_N G 16 key), (cq, x_N G 16 ctr), (aq, x_N G 272 md), (xq, x_N G 16 (va_up (mx i (g_blk (g_sch key) ctr (r + 1)) (g_blk (g_sch key) ctr r)) i (((g_sm (g_blk (g_sch key) ctr r)) i) ^^^ ((g_sch key) ((16 * (r + 1)) + i))))), (yq, x_N G 16 (g_sm (g_blk (g_sch key) ctr r))), (sq, x_N G 176 (g_sch key)), (tq, x_N G 256 tt_)]) := B
                            have B := B.fn 4 rfl (nA (mx (i + 1) (g_blk (g_sch key) ctr (r + 1)) (g_blk (g_sch key) ctr r))) (mx_fn (by first | exact g_bkE (by rw [if_neg (by omega)]) | exact g_bkE (by rw [if_pos (by omega)])))
                            have B : xB G A s _ _ ([(h0, .inr (6, [.int (nI cd), .ref kq, .ref cq, .int (nI rs), .int ck, .int lt, .ref lq, .ref pq, .ref oq, .int (nI os), .ref bq, .int tc, .int wr, .ref rq, .int (nI ln), .ref wq, .ref hq, .ref dq, .ref nq, .ref aq, .ref xq, .ref yq, .ref sq, .ref tq, .int (nI rd_)])), (kq, x_N G 16 key), (cq, x_N G 16 ctr), (aq, x_N G 272 md), (xq, x_N G 16 (mx (i + 1) (g_blk (g_sch key) ctr (r + 1)) (g_blk (g_sch key) ctr r))), (yq, x_N G 16 (g_sm (g_blk (g_sch key) ctr r))), (sq, x_N G 176 (g_sch key)), (tq, x_N G 256 tt_)]) := B
                            refine x_inc E 1 (lv' := [(3, .int (nI (i + 1))), (6, .int (nI (g_mc (g_sm (g_blk (g_sch key) ctr r)) i))), (5, .int (nI (i % 4))), (4, .int (nI ((i / 4) * 4))), (2, .int (nI (r + 1))), (0, .ref h0), (1, .int (nI to))]) d_Mo_generates_224 hl (k := 3) rfl rfl (by decide) rfl (fun ls hl => ?_)
                            refine lv_goto (tgt := 106) E.1 E.2.1 d_Mo_generates_227 (by decide) ?_
                            exact ih106  (i + 1) (by omega) (by omega) _ _ _ B (lv_sub hl [0, 4, 5, 6] rfl)
                    have B := B.fn 4 rfl (nA (mx 0 (g_blk (g_sch key) ctr (r + 1)) (g_blk (g_sch key) ctr r))) (mx_z _ _)
                    have B : xB G A s _ _ ([(h0, .inr (6, [.int (nI cd), .ref kq, .ref cq, .int (nI rs), .int ck, .int lt, .ref lq, .ref pq, .ref oq, .int (nI os), .ref bq, .int tc, .int wr, .ref rq, .int (nI ln), .ref wq, .ref hq, .ref dq, .ref nq, .ref aq, .ref xq, .ref yq, .ref sq, .ref tq, .int (nI rd_)])), (kq, x_N G 16 key), (cq, x_N G 16 ctr), (aq, x_N G 272 md), (xq, x_N G 16 (mx 0 (g_blk (g_sch key) ctr (r + 1)) (g_blk (g_sch key) ctr r))), (yq, x_N G 16 (g_sm (g_blk (g_sch key) ctr r))), (sq, x_N G 176 (g_sch key)), (tq, x_N G 256 tt_)]) := B
                    exact hL106 (17) 0 (by omega) (by omega) _ _ _ B (lv_sub hl [0, 1, 2, 3] rfl)
                  · refine lv_iconst (v := nI 0) E.1 E.2.1 d_Mo_generates_52 (by decide) ?_
                    refine lv_istore (lv' := [(4, .int (nI 0)), (3, .int (nI z)), (2, .int (nI (r + 1))), (0, .ref h0), (1, .int (nI to))]) E.1 E.2.1 d_Mo_generates_53 hl (by decide) rfl (fun ls hl => ?_)
                    have hL55 : ∀ (kf : Nat) (k : Nat) (rd_ : Nat) (tt_ : Nat → Nat), 4 - k < kf → (k ≤ 4) → (g_rd rd_ tt_) → ∀ (H : Heap) (locs : List Loc) (ls : Array Slot), xB G A s H locs ([(h0, .inr (6, [.int (nI cd), .ref kq, .ref cq, .int (nI rs), .int ck, .int lt, .ref lq, .ref pq, .ref oq, .int (nI os), .ref bq, .int tc, .int wr, .ref rq, .int (nI ln), .ref wq, .ref hq, .ref dq, .ref nq, .ref aq, .ref xq, .ref yq, .ref sq, .ref tq, .int (nI rd_)])), (kq, x_N G 16 key), (cq, x_N G 16 ctr), (aq, x_N G 272 md), (xq, x_N G 16 (g_blk (g_sch key) ctr r)), (yq, x_N G 16 (mx (4 * z + k) (g_sm (g_blk (g_sch key) ctr r)) ot_)), (sq, x_N G 176 (g_sch key)), (tq, x_N G 256 tt_)]) → lv_has ls 7 [(4, .int (nI k)), (3, .int (nI z)), (2, .int (nI (r + 1))), (0, .ref h0), (1, .int (nI to))] → W p l e ({ frames := 4, cells := 0, slots := 0, locals := 95 }) s m args below meth c H locs 0 0 Q (F0 m 55 ls []) := by
                      intro k55
                      induction k55 with
                      | zero =>
                        intro k rd_ tt_ hk
                        exact absurd hk (Nat.not_lt_zero _)
                      | succ k55 ih55 =>
                        intro k rd_ tt_ hk55 hk4 hrd_ H locs ls B hl
                        refine lv_iload E.1 E.2.1 d_Mo_generates_55 (lv_at hl 0 rfl) ?_
                        refine lv_iconst (v := nI 4) E.1 E.2.1 d_Mo_generates_57 (by decide) ?_
                        refine x_ge (tgt := 98) E d_Mo_generates_58 (by decide) (by omega) (by omega) (fun c7 => ?_) (fun c7 => ?_)
                        · obtain rfl : k = 4 := by omega
                          refine x_inc E 1 (lv' := [(3, .int (nI (z + 1))), (4, .int (nI 4)), (2, .int (nI (r + 1))), (0, .ref h0), (1, .int (nI to))]) d_Mo_generates_98 hl (k := 1) rfl rfl (by decide) rfl (fun ls hl => ?_)
                          refine lv_goto (tgt := 47) E.1 E.2.1 d_Mo_generates_101 (by decide) ?_
                          exact ih47  (z + 1) rd_ tt_ (by omega) (by omega) (hrd_) _ _ _ B (lv_sub hl [0, 2, 3, 4] rfl)
                        · refine lv_aload_n E.1 E.2.1 d_Mo_generates_61 rfl (lv_at hl 3 rfl) ?_
                          refine x_get E B 0 rfl k_Mo 21 (by decide) wd_414 rfl d_Mo_generates_62 ?_
                          refine lv_iconst (v := nI 4) E.1 E.2.1 d_Mo_generates_65 (by decide) ?_
                          refine lv_iload_n E.1 E.2.1 d_Mo_generates_66 rfl (lv_at hl 1 rfl) ?_
                          refine x_imul E d_Mo_generates_67 ?_
                          refine lv_iload E.1 E.2.1 d_Mo_generates_68 (lv_at hl 0 rfl) ?_
                          refine x_iadd E d_Mo_generates_70 ?_
                          refine lv_aload_n E.1 E.2.1 d_Mo_generates_71 rfl (lv_at hl 3 rfl) ?_
                          refine lv_aload_n E.1 E.2.1 d_Mo_generates_72 rfl (lv_at hl 3 rfl) ?_
                          refine x_get E B 0 rfl k_Mo 20 (by decide) wd_413 rfl d_Mo_generates_73 ?_
                          refine lv_iconst (v := nI 4) E.1 E.2.1 d_Mo_generates_76 (by decide) ?_
                          refine lv_iload_n E.1 E.2.1 d_Mo_generates_77 rfl (lv_at hl 1 rfl) ?_
                          refine lv_iload E.1 E.2.1 d_Mo_generates_78 (lv_at hl 0 rfl) ?_
                          refine x_iadd E d_Mo_generates_80 ?_
                          refine lv_iconst (v := nI 4) E.1 E.2.1 d_Mo_generates_81 (by decide) ?_
                          refine x_irem E d_Mo_generates_82 (by omega) (by decide) (by decide) ?_
                          refine x_imul E d_Mo_generates_83 ?_
                          refine lv_iload E.1 E.2.1 d_Mo_generates_84 (lv_at hl 0 rfl) ?_
                          refine x_iadd E d_Mo_generates_86 ?_
                          refine x_aldN E B 4 rfl (i := (4 * ((z + k) % 4)) + k) (by omega) (by decide) d_Mo_generates_87 ?_
                          refine x_ci (ws' := (fun u => [(h0, .inr (6, [.int (nI cd), .ref kq, .ref cq, .int (nI rs), .int ck, .int lt, .ref lq, .ref pq, .ref oq, .int (nI os), .ref bq, .int tc, .int wr, .ref rq, .int (nI ln), .ref wq, .ref hq, .ref dq, .ref nq, .ref aq, .ref xq, .ref yq, .ref sq, .ref tq, .int (nI 1)])), (kq, x_N G 16 key), (cq, x_N G 16 ctr), (aq, x_N G 272 md), (xq, x_N G 16 (g_blk (g_sch key) ctr r)), (yq, x_N G 16 (mx (4 * z + k) (g_sm (g_blk (g_sch key) ctr r)) ot_)), (sq, x_N G 176 (g_sch key)), (tq, x_N G 256 k_S)])) (wr := [(kq, x_N G 16 key), (cq, x_N G 16 ctr), (aq, x_N G 272 md), (xq, x_N G 16 (g_blk (g_sch key) ctr r)), (yq, x_N G 16 (mx (4 * z + k) (g_sm (g_blk (g_sch key) ctr r)) ot_)), (sq, x_N G 176 (g_sch key))]) B (x_rV (rest := [.int (nI ((4 * z) + k)), .ref yq]) E B (q_Mo_s G l h0 cd kq cq rs lq pq oq os bq rq ln wq hq dq nq aq xq yq sq tq rd_ ck lt tc wr ((g_blk (g_sch key) ctr r) ((4 * ((z + k) % 4)) + k)) tt_ (g_blk_bt (g_sch_bt hk) hb r _ (by omega)) (hrd_) _) (x_pre B [0, 7] rfl (by decide) x_ro0) 0 rfl k_Mo (gg_V wd_622 wd_624 wd_30 wd_40 wd_625) ⟨rfl, p_Mo_s⟩ rfl rfl ⟨Nat.le_of_ble_eq_true rfl, Nat.le_of_ble_eq_true rfl⟩ rfl hl.1 rfl (Nat.le_of_ble_eq_true rfl) d_Mo_generates_88 ⟨Nat.le_of_ble_eq_true rfl, Nat.le_of_ble_eq_true rfl⟩) [0, 7] [1, 2, 3, 4, 5, 6] [6, 0, 1, 2, 3, 4, 5, 7] rfl rfl (by decide) (by decide) (by decide) (fun _ => rfl) (fun r88 u88 H locs hw88 B => ?_)
                          subst hw88
                          have B : xB G A s _ _ ([(h0, .inr (6, [.int (nI cd), .ref kq, .ref cq, .int (nI rs), .int ck, .int lt, .ref lq, .ref pq, .ref oq, .int (nI os), .ref bq, .int tc, .int wr, .ref rq, .int (nI ln), .ref wq, .ref hq, .ref dq, .ref nq, .ref aq, .ref xq, .ref yq, .ref sq, .ref tq, .int (nI 1)])), (kq, x_N G 16 key), (cq, x_N G 16 ctr), (aq, x_N G 272 md), (xq, x_N G 16 (g_blk (g_sch key) ctr r)), (yq, x_N G 16 (mx (4 * z + k) (g_sm (g_blk (g_sch key) ctr r)) ot_)), (sq, x_N G 176 (g_sch key)), (tq, x_N G 256 k_S)]) := B
                          refine x_astN E B 5 rfl (i := (4 * z) + k) (v := k_S ((g_blk (g_sch key) ctr r) ((4 * ((z + k) % 4)) + k))) (by omega) (by decide) d_Mo_generates_91 (fun H locs B => ?_)
                          have B : xB G A s _ _ ([(h0, .inr (6, [.int (nI cd), .ref kq, .ref cq, .int (nI rs), .int ck, .int lt, .ref lq, .ref pq, .ref oq, .int (nI os), .ref bq, .int tc, .int wr, .ref rq, .int (nI ln), .ref wq, .ref hq, .ref dq, .ref nq, .ref aq, .ref xq, .ref yq, .ref sq, .ref tq, .int (nI 1)])), (kq, x_N G 16 key), (cq, x_N G 16 ctr), (aq, x_N G 272 md), (xq, x_N G 16 (g_blk (g_sch key) ctr r)), (yq, x_N G 16 (va_up (mx (4 * z + k) (g_sm (g_blk (g_sch key) ctr r)) ot_) ((4 * z) + k) (k_S ((g_blk (g_sch key) ctr r) ((4 * ((z + k) % 4)) + k))))), (sq, x_N G 176 (g_sch key)), (tq, x_N G 256 k_S)]) := B
                          have B := B.fn 5 rfl (nA (mx (4 * z + (k + 1)) (g_sm (g_blk (g_sch key) ctr r)) ot_)) (mx_fn (g_smE _ (by omega) (by omega)))
                          have B : xB G A s _ _ ([(h0, .inr (6, [.int (nI cd), .ref kq, .ref cq, .int (nI rs), .int ck, .int lt, .ref lq, .ref pq, .ref oq, .int (nI os), .ref bq, .int tc, .int wr, .ref rq, .int (nI ln), .ref wq, .ref hq, .ref dq, .ref nq, .ref aq, .ref xq, .ref yq, .ref sq, .ref tq, .int (nI 1)])), (kq, x_N G 16 key), (cq, x_N G 16 ctr), (aq, x_N G 272 md), (xq, x_N G 16 (g_blk (g_sch key) ctr r)), (yq, x_N G 16 (mx (4 * z + (k + 1)) (g_sm (g_blk (g_sch key) ctr r)) ot_)), (sq, x_N G 176 (g_sch key)), (tq, x_N G 256 k_S)]) := B
                          refine x_inc E 1 (lv' := [(4, .int (nI (k + 1))), (3, .int (nI z)), (2, .int (nI (r + 1))), (0, .ref h0), (1, .int (nI to))]) d_Mo_generates_92 hl (k := 0) rfl rfl (by decide) rfl (fun ls hl => ?_)
                          refine lv_goto (tgt := 55) E.1 E.2.1 d_Mo_generates_95 (by decide) ?_
                          exact ih55  (k + 1) 1 k_S (by omega) (by omega) (Or.inr ⟨rfl, fun _ _ => rfl⟩) _ _ _ B (lv_sub hl [0, 1, 2, 3, 4] rfl)
                    exact hL55 (5) 0 rd_ tt_ (by omega) (by omega) (hrd_) _ _ _ B (lv_sub hl [0, 1, 2, 3, 4] rfl)
              have B := B.fn 5 rfl (nA (mx (4 * 0) (g_sm (g_blk (g_sch key) ctr r)) ot_)) (mx_z _ _)
              have B : xB G A s _ _ ([(h0, .inr (6, [.int (nI cd), .ref kq, .ref cq, .int (nI rs), .int ck, .int lt, .ref lq, .ref pq, .ref oq, .int (nI os), .ref bq, .int tc, .int wr, .ref rq, .int (nI ln), .ref wq, .ref hq, .ref dq, .ref nq, .ref aq, .ref xq, .ref yq, .ref sq, .ref tq, .int (nI rd_)])), (kq, x_N G 16 key), (cq, x_N G 16 ctr), (aq, x_N G 272 md), (xq, x_N G 16 (g_blk (g_sch key) ctr r)), (yq, x_N G 16 (mx (4 * 0) (g_sm (g_blk (g_sch key) ctr r)) ot_)), (sq, x_N G 176 (g_sch key)), (tq, x_N G 256 tt_)]) := B
              exact hL47 (5) 0 rd_ tt_ (by omega) (by omega) (hrd_) _ _ _ B (lv_sub hl [0, 1, 2, 3] rfl)
        exact hL39 (11) 0 ot u1.1 u1.2 (by omega) (by omega) (hw1) _ _ _ B (lv_sub hl [0, 1, 2] rfl)
      · refine lv_aload_n E.1 E.2.1 d_Mo_generates_12 rfl (lv_at hl 1 rfl) ?_
        refine x_get E B 0 rfl k_Mo 20 (by decide) wd_413 rfl d_Mo_generates_13 ?_
        refine lv_iload_n E.1 E.2.1 d_Mo_generates_16 rfl (lv_at hl 0 rfl) ?_
        refine lv_aload_n E.1 E.2.1 d_Mo_generates_17 rfl (lv_at hl 1 rfl) ?_
        refine x_get E B 0 rfl k_Mo 2 (by decide) wd_395 rfl d_Mo_generates_18 ?_
        refine lv_iload_n E.1 E.2.1 d_Mo_generates_21 rfl (lv_at hl 0 rfl) ?_
        refine x_aldN E B 2 rfl (i := i) (by omega) (by decide) d_Mo_generates_22 ?_
        refine lv_aload_n E.1 E.2.1 d_Mo_generates_23 rfl (lv_at hl 1 rfl) ?_
        refine x_get E B 0 rfl k_Mo 22 (by decide) wd_415 rfl d_Mo_generates_24 ?_
        refine lv_iload_n E.1 E.2.1 d_Mo_generates_27 rfl (lv_at hl 0 rfl) ?_
        refine x_aldN E B 6 rfl (i := i) (by omega) (by decide) d_Mo_generates_28 ?_
        refine x_ixor E d_Mo_generates_29 ?_
        refine x_astN E B 4 rfl (i := i) (v := (ctr i) ^^^ ((g_sch key) i)) (by omega) (by decide) d_Mo_generates_30 (fun H locs B => ?_)
        have B : xB G A s _ _ ([(h0, .inr (6, [.int (nI cd), .ref kq, .ref cq, .int (nI rs), .int ck, .int lt, .ref lq, .ref pq, .ref oq, .int (nI os), .ref bq, .int tc, .int wr, .ref rq, .int (nI ln), .ref wq, .ref hq, .ref dq, .ref nq, .ref aq, .ref xq, .ref yq, .ref sq, .ref tq, .int (nI u1.1)])), (kq, x_N G 16 key), (cq, x_N G 16 ctr), (aq, x_N G 272 md), (xq, x_N G 16 (va_up (mx i (g_blk (g_sch key) ctr 0) bl) i ((ctr i) ^^^ ((g_sch key) i)))), (yq, x_N G 16 ot), (sq, x_N G 176 (g_sch key)), (tq, x_N G 256 u1.2)]) := B
        have B := B.fn 4 rfl (nA (mx (i + 1) (g_blk (g_sch key) ctr 0) bl)) (mx_fn (by show _ = ctr i ^^^ g_sch key (0 * 16 + i); rw [Nat.zero_mul, Nat.zero_add]))
        have B : xB G A s _ _ ([(h0, .inr (6, [.int (nI cd), .ref kq, .ref cq, .int (nI rs), .int ck, .int lt, .ref lq, .ref pq, .ref oq, .int (nI os), .ref bq, .int tc, .int wr, .ref rq, .int (nI ln), .ref wq, .ref hq, .ref dq, .ref nq, .ref aq, .ref xq, .ref yq, .ref sq, .ref tq, .int (nI u1.1)])), (kq, x_N G 16 key), (cq, x_N G 16 ctr), (aq, x_N G 272 md), (xq, x_N G 16 (mx (i + 1) (g_blk (g_sch key) ctr 0) bl)), (yq, x_N G 16 ot), (sq, x_N G 176 (g_sch key)), (tq, x_N G 256 u1.2)]) := B
        refine x_inc E 1 (lv' := [(2, .int (nI (i + 1))), (0, .ref h0), (1, .int (nI to))]) d_Mo_generates_31 hl (k := 0) rfl rfl (by decide) rfl (fun ls hl => ?_)
        refine lv_goto (tgt := 6) E.1 E.2.1 d_Mo_generates_34 (by decide) ?_
        exact ih6  (i + 1) (by omega) (by omega) _ _ _ B (lv_sub hl [0, 1, 2] rfl)
  have B := B.fn 4 rfl (nA (mx 0 (g_blk (g_sch key) ctr 0) bl)) (mx_z _ _)
  have B : xB G A s _ _ ([(h0, .inr (6, [.int (nI cd), .ref kq, .ref cq, .int (nI rs), .int ck, .int lt, .ref lq, .ref pq, .ref oq, .int (nI os), .ref bq, .int tc, .int wr, .ref rq, .int (nI ln), .ref wq, .ref hq, .ref dq, .ref nq, .ref aq, .ref xq, .ref yq, .ref sq, .ref tq, .int (nI u1.1)])), (kq, x_N G 16 key), (cq, x_N G 16 ctr), (aq, x_N G 272 md), (xq, x_N G 16 (mx 0 (g_blk (g_sch key) ctr 0) bl)), (yq, x_N G 16 ot), (sq, x_N G 176 (g_sch key)), (tq, x_N G 256 u1.2)]) := B
  exact hL6 (17) 0 (by omega) (by omega) _ _ _ B (lv_sub hl [0, 1, 2] rfl)
