set_option maxHeartbeats 4000000 in
set_option maxRecDepth 100000 in
theorem q_Ge_generate (G : xG) (l : Launch) (h0 kq cq pq dq e0 rq tq rs : Nat) (ck lt : Int32) (e1 e2 e3 : Nat) (k0 s0 v0 : Nat → Nat) (n_ iq ni nb : Nat) (key ctr gi : Nat → Nat) (hk : g_bt 16 key) (hb : g_bt 16 ctr) (hni : ni < 100000) (hn : 16 * nb ≤ ni) (hnb : nb = (n_ + 15) / 16) : xMv G l y_Ge_generate c_Ge_generate 4 ({ frames := 3, cells := 0, slots := 0, locals := 105 }) [.ref h0, .int (nI n_), .ref iq] [] [(h0, .inr (3, [.ref kq, .ref cq, .ref pq, .int (nI rs), .int ck, .int lt, .ref dq, .ref e0, .ref rq, .ref tq])), (kq, x_N G 16 key), (cq, x_N G 16 ctr), (e0, .inr (0, [.ref e1, .ref e2, .ref e3])), (e1, x_N G 176 k0), (e2, x_N G 16 s0), (e3, x_N G 16 v0), (iq, x_N G ni gi)] ((Nat → Nat) × (Nat → Nat)) (fun _ => True) (fun u => [(h0, .inr (3, [.ref kq, .ref cq, .ref pq, .int (nI rs), .int ck, .int lt, .ref dq, .ref e0, .ref rq, .ref tq])), (kq, x_N G 16 (g_key key ctr nb)), (cq, x_N G 16 (g_cts ctr (nb + 1))), (e0, .inr (0, [.ref e1, .ref e2, .ref e3])), (e1, x_N G 176 (g_sch key)), (e2, x_N G 16 u.1), (e3, x_N G 16 u.2), (iq, x_N G ni (g_gen (g_sch key) ctr gi nb))]) 0 0 := by
  refine xMv.by r_Ge (by decide +kernel) (Nat.le_of_ble_eq_true rfl) rfl ?_
  intro p e s m args below meth c A ls Q E hin B hro hl hret
  have hl : lv_has ls 4 [(0, .ref h0), (1, .int (nI n_)), (2, .ref iq)] := hl
  have hK := g_sch_bt hk
  refine lv_aload_n E.1 E.2.1 d_Ge_generate_0 rfl (lv_at hl 0 rfl) ?_
  refine x_get E B 0 rfl k_Ge 7 (by decide) wd_122 rfl d_Ge_generate_1 ?_
  refine lv_aload_n E.1 E.2.1 d_Ge_generate_4 rfl (lv_at hl 0 rfl) ?_
  refine x_get E B 0 rfl k_Ge 0 (by decide) wd_109 rfl d_Ge_generate_5 ?_
  refine x_cv (ws' := (fun u => [(h0, .inr (3, [.ref kq, .ref cq, .ref pq, .int (nI rs), .int ck, .int lt, .ref dq, .ref e0, .ref rq, .ref tq])), (kq, x_N G 16 key), (cq, x_N G 16 ctr), (e0, .inr (0, [.ref e1, .ref e2, .ref e3])), (e1, x_N G 176 (g_sch key)), (e2, x_N G 16 s0), (e3, x_N G 16 v0), (iq, x_N G ni gi)])) (wr := [(h0, .inr (3, [.ref kq, .ref cq, .ref pq, .int (nI rs), .int ck, .int lt, .ref dq, .ref e0, .ref rq, .ref tq])), (kq, x_N G 16 key), (cq, x_N G 16 ctr), (e2, x_N G 16 s0), (e3, x_N G 16 v0), (iq, x_N G ni gi)]) B (x_rV (rest := []) E B (q_Ci_takeKey G l e0 e1 e2 e3 kq key k0 (hk) _) (x_pre B [3, 4] rfl (by decide) (x_ro1 (x_ro_w B 1 rfl [3, 4] rfl (by decide)))) 3 rfl k_Ci (gg_V wd_293 wd_294 wd_295 wd_38 wd_296) ⟨rfl, p_Ci_takeKey⟩ rfl rfl ⟨Nat.le_of_ble_eq_true rfl, Nat.le_of_ble_eq_true rfl⟩ rfl hl.1 rfl (Nat.le_of_ble_eq_true rfl) d_Ge_generate_8 ⟨Nat.le_of_ble_eq_true rfl, Nat.le_of_ble_eq_true rfl⟩) [3, 4] [0, 1, 2, 5, 6, 7] [0, 1, 2, 6, 7, 3, 4, 5] rfl rfl (by decide) (by decide) (by decide) (fun _ => rfl) (fun u8 H locs hw8 B => ?_)
  have B : xB G A s _ _ ([(h0, .inr (3, [.ref kq, .ref cq, .ref pq, .int (nI rs), .int ck, .int lt, .ref dq, .ref e0, .ref rq, .ref tq])), (kq, x_N G 16 key), (cq, x_N G 16 ctr), (e0, .inr (0, [.ref e1, .ref e2, .ref e3])), (e1, x_N G 176 (g_sch key)), (e2, x_N G 16 s0), (e3, x_N G 16 v0), (iq, x_N G ni gi)]) := B
  refine lv_iconst (v := nI 0) E.1 E.2.1 d_Ge_generate_11 (by decide) ?_
  refine lv_istore_n (lv' := [(3, .int (nI 0)), (0, .ref h0), (1, .int (nI n_)), (2, .ref iq)]) E.1 E.2.1 d_Ge_generate_12 rfl hl (by decide) rfl (fun ls hl => ?_)
  have hL13 : ∀ (kf : Nat) (b : Nat) (s1 v1 : Nat → Nat), nb - b < kf → (b ≤ nb) → ∀ (H : Heap) (locs : List Loc) (ls : Array Slot), xB G A s H locs ([(h0, .inr (3, [.ref kq, .ref cq, .ref pq, .int (nI rs), .int ck, .int lt, .ref dq, .ref e0, .ref rq, .ref tq])), (kq, x_N G 16 key), (cq, x_N G 16 (g_cts ctr b)), (e0, .inr (0, [.ref e1, .ref e2, .ref e3])), (e1, x_N G 176 (g_sch key)), (e2, x_N G 16 s1), (e3, x_N G 16 v1), (iq, x_N G ni (g_gen (g_sch key) ctr gi b))]) → lv_has ls 4 [(3, .int (nI (16 * b))), (0, .ref h0), (1, .int (nI n_)), (2, .ref iq)] → W p l e ({ frames := 3, cells := 0, slots := 0, locals := 105 }) s m args below meth c H locs 0 0 Q (F0 m 13 ls []) := by
    intro k13
    induction k13 with
    | zero =>
      intro b s1 v1 hk
      exact absurd hk (Nat.not_lt_zero _)
    | succ k13 ih13 =>
      intro b s1 v1 hk13 hi H locs ls B hl
      refine lv_iload_n E.1 E.2.1 d_Ge_generate_13 rfl (lv_at hl 0 rfl) ?_
      refine lv_iload_n E.1 E.2.1 d_Ge_generate_14 rfl (lv_at hl 2 rfl) ?_
      refine x_ge (tgt := 41) E d_Ge_generate_15 (by decide) (by omega) (by omega) (fun c1 => ?_) (fun c1 => ?_)
      · obtain rfl : nb = b := by omega
        refine lv_aload_n E.1 E.2.1 d_Ge_generate_41 rfl (lv_at hl 1 rfl) ?_
        refine x_get E B 0 rfl k_Ge 7 (by decide) wd_122 rfl d_Ge_generate_42 ?_
        refine lv_aload_n E.1 E.2.1 d_Ge_generate_45 rfl (lv_at hl 1 rfl) ?_
        refine x_get E B 0 rfl k_Ge 1 (by decide) wd_111 rfl d_Ge_generate_46 ?_
        refine lv_aload_n E.1 E.2.1 d_Ge_generate_49 rfl (lv_at hl 1 rfl) ?_
        refine x_get E B 0 rfl k_Ge 0 (by decide) wd_109 rfl d_Ge_generate_50 ?_
        refine lv_iconst (v := nI 0) E.1 E.2.1 d_Ge_generate_53 (by decide) ?_
        refine x_cv (ws' := (fun u => [(h0, .inr (3, [.ref kq, .ref cq, .ref pq, .int (nI rs), .int ck, .int lt, .ref dq, .ref e0, .ref rq, .ref tq])), (kq, x_N G 16 (va_cpy (g_blk (g_sch key) (g_cts ctr nb) 10) key 0 0 16)), (cq, x_N G 16 (g_cts ctr nb)), (e0, .inr (0, [.ref e1, .ref e2, .ref e3])), (e1, x_N G 176 (g_sch key)), (e2, x_N G 16 (g_blk (g_sch key) (g_cts ctr nb) 10)), (e3, x_N G 16 (g_sm (g_blk (g_sch key) (g_cts ctr nb) 9))), (iq, x_N G ni (g_gen (g_sch key) ctr gi nb))])) (wr := [(h0, .inr (3, [.ref kq, .ref cq, .ref pq, .int (nI rs), .int ck, .int lt, .ref dq, .ref e0, .ref rq, .ref tq])), (cq, x_N G 16 (g_cts ctr nb)), (iq, x_N G ni (g_gen (g_sch key) ctr gi nb))]) B (x_rV (rest := []) E B (q_Ci_encrypt G l e0 e1 e2 e3 cq kq 16 0 (g_sch key) s1 v1 key (g_cts ctr nb) (hK) (g_cts_bt hb _) (by omega) (by omega) _) (x_pre B [3, 4, 5, 6, 1] rfl (by decide) (x_ro1 (x_ro_w B 2 rfl [3, 4, 5, 6, 1] rfl (by decide)))) 3 rfl k_Ci (gg_V wd_307 wd_308 wd_309 wd_38 wd_310) ⟨rfl, p_Ci_encrypt⟩ rfl rfl ⟨Nat.le_of_ble_eq_true rfl, Nat.le_of_ble_eq_true rfl⟩ rfl hl.1 rfl (Nat.le_of_ble_eq_true rfl) d_Ge_generate_54 ⟨Nat.le_of_ble_eq_true rfl, Nat.le_of_ble_eq_true rfl⟩) [3, 4, 5, 6, 1] [0, 2, 7] [0, 7, 1, 3, 4, 5, 6, 2] rfl rfl (by decide) (by decide) (by decide) (fun _ => rfl) (fun u54 H locs hw54 B => ?_)
        have B : xB G A s _ _ ([(h0, .inr (3, [.ref kq, .ref cq, .ref pq, .int (nI rs), .int ck, .int lt, .ref dq, .ref e0, .ref rq, .ref tq])), (kq, x_N G 16 (va_cpy (g_blk (g_sch key) (g_cts ctr nb) 10) key 0 0 16)), (cq, x_N G 16 (g_cts ctr nb)), (e0, .inr (0, [.ref e1, .ref e2, .ref e3])), (e1, x_N G 176 (g_sch key)), (e2, x_N G 16 (g_blk (g_sch key) (g_cts ctr nb) 10)), (e3, x_N G 16 (g_sm (g_blk (g_sch key) (g_cts ctr nb) 9))), (iq, x_N G ni (g_gen (g_sch key) ctr gi nb))]) := B
        have B := B.fn 1 rfl (nA (g_key key ctr nb)) (cp_0)
        have B : xB G A s _ _ ([(h0, .inr (3, [.ref kq, .ref cq, .ref pq, .int (nI rs), .int ck, .int lt, .ref dq, .ref e0, .ref rq, .ref tq])), (kq, x_N G 16 (g_key key ctr nb)), (cq, x_N G 16 (g_cts ctr nb)), (e0, .inr (0, [.ref e1, .ref e2, .ref e3])), (e1, x_N G 176 (g_sch key)), (e2, x_N G 16 (g_blk (g_sch key) (g_cts ctr nb) 10)), (e3, x_N G 16 (g_sm (g_blk (g_sch key) (g_cts ctr nb) 9))), (iq, x_N G ni (g_gen (g_sch key) ctr gi nb))]) := B
        refine lv_aload_n E.1 E.2.1 d_Ge_generate_57 rfl (lv_at hl 1 rfl) ?_
        refine x_cv (ws' := (fun u => [(h0, .inr (3, [.ref kq, .ref cq, .ref pq, .int (nI rs), .int ck, .int lt, .ref dq, .ref e0, .ref rq, .ref tq])), (kq, x_N G 16 (g_key key ctr nb)), (cq, x_N G 16 (g_ct (g_cts ctr nb))), (e0, .inr (0, [.ref e1, .ref e2, .ref e3])), (e1, x_N G 176 (g_sch key)), (e2, x_N G 16 (g_blk (g_sch key) (g_cts ctr nb) 10)), (e3, x_N G 16 (g_sm (g_blk (g_sch key) (g_cts ctr nb) 9))), (iq, x_N G ni (g_gen (g_sch key) ctr gi nb))])) (wr := [(kq, x_N G 16 (g_key key ctr nb)), (e0, .inr (0, [.ref e1, .ref e2, .ref e3])), (e1, x_N G 176 (g_sch key)), (e2, x_N G 16 (g_blk (g_sch key) (g_cts ctr nb) 10)), (e3, x_N G 16 (g_sm (g_blk (g_sch key) (g_cts ctr nb) 9))), (iq, x_N G ni (g_gen (g_sch key) ctr gi nb))]) B (x_rV (rest := []) E B (q_Ge_countOn G l h0 kq cq pq dq e0 rq tq rs ck lt (g_cts ctr nb) (g_cts_bt hb _) _) (x_pre B [0, 2] rfl (by decide) x_ro0) 0 rfl k_Ge (gg_V wd_281 wd_283 wd_8 wd_35 wd_284) ⟨rfl, p_Ge_countOn⟩ rfl rfl ⟨Nat.le_of_ble_eq_true rfl, Nat.le_of_ble_eq_true rfl⟩ rfl hl.1 rfl (Nat.le_of_ble_eq_true rfl) d_Ge_generate_58 ⟨Nat.le_of_ble_eq_true rfl, Nat.le_of_ble_eq_true rfl⟩) [0, 2] [1, 3, 4, 5, 6, 7] [6, 0, 7, 1, 2, 3, 4, 5] rfl rfl (by decide) (by decide) (by decide) (fun _ => rfl) (fun u58 H locs hw58 B => ?_)
        have B : xB G A s _ _ ([(h0, .inr (3, [.ref kq, .ref cq, .ref pq, .int (nI rs), .int ck, .int lt, .ref dq, .ref e0, .ref rq, .ref tq])), (kq, x_N G 16 (g_key key ctr nb)), (cq, x_N G 16 (g_ct (g_cts ctr nb))), (e0, .inr (0, [.ref e1, .ref e2, .ref e3])), (e1, x_N G 176 (g_sch key)), (e2, x_N G 16 (g_blk (g_sch key) (g_cts ctr nb) 10)), (e3, x_N G 16 (g_sm (g_blk (g_sch key) (g_cts ctr nb) 9))), (iq, x_N G ni (g_gen (g_sch key) ctr gi nb))]) := B
        exact hret (_, _) _ _ _ _ B trivial d_Ge_generate_61
      · refine lv_aload_n E.1 E.2.1 d_Ge_generate_18 rfl (lv_at hl 1 rfl) ?_
        refine x_get E B 0 rfl k_Ge 7 (by decide) wd_122 rfl d_Ge_generate_19 ?_
        refine lv_aload_n E.1 E.2.1 d_Ge_generate_22 rfl (lv_at hl 1 rfl) ?_
        refine x_get E B 0 rfl k_Ge 1 (by decide) wd_111 rfl d_Ge_generate_23 ?_
        refine lv_aload_n E.1 E.2.1 d_Ge_generate_26 rfl (lv_at hl 3 rfl) ?_
        refine lv_iload_n E.1 E.2.1 d_Ge_generate_27 rfl (lv_at hl 0 rfl) ?_
        refine x_cv (ws' := (fun u => [(h0, .inr (3, [.ref kq, .ref cq, .ref pq, .int (nI rs), .int ck, .int lt, .ref dq, .ref e0, .ref rq, .ref tq])), (kq, x_N G 16 key), (cq, x_N G 16 (g_cts ctr b)), (e0, .inr (0, [.ref e1, .ref e2, .ref e3])), (e1, x_N G 176 (g_sch key)), (e2, x_N G 16 (g_blk (g_sch key) (g_cts ctr b) 10)), (e3, x_N G 16 (g_sm (g_blk (g_sch key) (g_cts ctr b) 9))), (iq, x_N G ni (va_cpy (g_blk (g_sch key) (g_cts ctr b) 10) (g_gen (g_sch key) ctr gi b) 0 (16 * b) 16))])) (wr := [(h0, .inr (3, [.ref kq, .ref cq, .ref pq, .int (nI rs), .int ck, .int lt, .ref dq, .ref e0, .ref rq, .ref tq])), (kq, x_N G 16 key), (cq, x_N G 16 (g_cts ctr b))]) B (x_rV (rest := []) E B (q_Ci_encrypt G l e0 e1 e2 e3 cq iq ni (16 * b) (g_sch key) s1 v1 (g_gen (g_sch key) ctr gi b) (g_cts ctr b) (hK) (g_cts_bt hb b) (by omega) (by omega) _) (x_pre B [3, 4, 5, 6, 7] rfl (by decide) (x_ro1 (x_ro_w B 2 rfl [3, 4, 5, 6, 7] rfl (by decide)))) 3 rfl k_Ci (gg_V wd_307 wd_308 wd_309 wd_38 wd_310) ⟨rfl, p_Ci_encrypt⟩ rfl rfl ⟨Nat.le_of_ble_eq_true rfl, Nat.le_of_ble_eq_true rfl⟩ rfl hl.1 rfl (Nat.le_of_ble_eq_true rfl) d_Ge_generate_28 ⟨Nat.le_of_ble_eq_true rfl, Nat.le_of_ble_eq_true rfl⟩) [3, 4, 5, 6, 7] [0, 1, 2] [0, 1, 2, 3, 4, 5, 6, 7] rfl rfl (by decide) (by decide) (by decide) (fun _ => rfl) (fun u28 H locs hw28 B => ?_)
        have B : xB G A s _ _ ([(h0, .inr (3, [.ref kq, .ref cq, .ref pq, .int (nI rs), .int ck, .int lt, .ref dq, .ref e0, .ref rq, .ref tq])), (kq, x_N G 16 key), (cq, x_N G 16 (g_cts ctr b)), (e0, .inr (0, [.ref e1, .ref e2, .ref e3])), (e1, x_N G 176 (g_sch key)), (e2, x_N G 16 (g_blk (g_sch key) (g_cts ctr b) 10)), (e3, x_N G 16 (g_sm (g_blk (g_sch key) (g_cts ctr b) 9))), (iq, x_N G ni (va_cpy (g_blk (g_sch key) (g_cts ctr b) 10) (g_gen (g_sch key) ctr gi b) 0 (16 * b) 16))]) := B
        refine lv_aload_n E.1 E.2.1 d_Ge_generate_31 rfl (lv_at hl 1 rfl) ?_
        refine x_cv (ws' := (fun u => [(h0, .inr (3, [.ref kq, .ref cq, .ref pq, .int (nI rs), .int ck, .int lt, .ref dq, .ref e0, .ref rq, .ref tq])), (kq, x_N G 16 key), (cq, x_N G 16 (g_ct (g_cts ctr b))), (e0, .inr (0, [.ref e1, .ref e2, .ref e3])), (e1, x_N G 176 (g_sch key)), (e2, x_N G 16 (g_blk (g_sch key) (g_cts ctr b) 10)), (e3, x_N G 16 (g_sm (g_blk (g_sch key) (g_cts ctr b) 9))), (iq, x_N G ni (va_cpy (g_blk (g_sch key) (g_cts ctr b) 10) (g_gen (g_sch key) ctr gi b) 0 (16 * b) 16))])) (wr := [(kq, x_N G 16 key), (e0, .inr (0, [.ref e1, .ref e2, .ref e3])), (e1, x_N G 176 (g_sch key)), (e2, x_N G 16 (g_blk (g_sch key) (g_cts ctr b) 10)), (e3, x_N G 16 (g_sm (g_blk (g_sch key) (g_cts ctr b) 9))), (iq, x_N G ni (va_cpy (g_blk (g_sch key) (g_cts ctr b) 10) (g_gen (g_sch key) ctr gi b) 0 (16 * b) 16))]) B (x_rV (rest := []) E B (q_Ge_countOn G l h0 kq cq pq dq e0 rq tq rs ck lt (g_cts ctr b) (g_cts_bt hb b) _) (x_pre B [0, 2] rfl (by decide) x_ro0) 0 rfl k_Ge (gg_V wd_281 wd_283 wd_8 wd_35 wd_284) ⟨rfl, p_Ge_countOn⟩ rfl rfl ⟨Nat.le_of_ble_eq_true rfl, Nat.le_of_ble_eq_true rfl⟩ rfl hl.1 rfl (Nat.le_of_ble_eq_true rfl) d_Ge_generate_32 ⟨Nat.le_of_ble_eq_true rfl, Nat.le_of_ble_eq_true rfl⟩) [0, 2] [1, 3, 4, 5, 6, 7] [6, 0, 7, 1, 2, 3, 4, 5] rfl rfl (by decide) (by decide) (by decide) (fun _ => rfl) (fun u32 H locs hw32 B => ?_)
        have B : xB G A s _ _ ([(h0, .inr (3, [.ref kq, .ref cq, .ref pq, .int (nI rs), .int ck, .int lt, .ref dq, .ref e0, .ref rq, .ref tq])), (kq, x_N G 16 key), (cq, x_N G 16 (g_ct (g_cts ctr b))), (e0, .inr (0, [.ref e1, .ref e2, .ref e3])), (e1, x_N G 176 (g_sch key)), (e2, x_N G 16 (g_blk (g_sch key) (g_cts ctr b) 10)), (e3, x_N G 16 (g_sm (g_blk (g_sch key) (g_cts ctr b) 9))), (iq, x_N G ni (va_cpy (g_blk (g_sch key) (g_cts ctr b) 10) (g_gen (g_sch key) ctr gi b) 0 (16 * b) 16))]) := B
        refine x_inc E 16 (lv' := [(3, .int (nI ((16 * b) + 16))), (0, .ref h0), (1, .int (nI n_)), (2, .ref iq)]) d_Ge_generate_35 hl (k := 0) rfl rfl (by decide) rfl (fun ls hl => ?_)
        refine lv_goto (tgt := 13) E.1 E.2.1 d_Ge_generate_38 (by decide) ?_
        exact ih13  (b + 1) _ _ (by omega) (by omega) _ _ _ B (lv_sub hl [0, 1, 2, 3] rfl)
  exact hL13 (nb + 1) 0 s0 v0 (by omega) (by omega) _ _ _ B (lv_sub hl [0, 1, 2, 3] rfl)
set_option maxHeartbeats 4000000 in
set_option maxRecDepth 100000 in
theorem q_Ge_isMultiple (l : Launch) (r i : Nat) (hr : r < 2 ^ 31) (hi : i < 32) : xMf l y_Ge_isMultiple c_Ge_isMultiple 2 .boolean ({ frames := 0, cells := 0, slots := 0, locals := 0 }) [.int (nI r), .int (nI i)] (nI (r_m r i)) := by
  refine xMfz.by r_Ge (by decide +kernel) (Nat.le_of_ble_eq_true rfl) rfl ?_
  intro p e s m args below meth c ls Q E hl hret
  have hl : lv_has ls 2 [(0, .int (nI r)), (1, .int (nI i))] := hl
  refine lv_iload_n E.1 E.2.1 d_Ge_isMultiple_0 rfl (lv_at hl 0 rfl) ?_
  refine lv_iconst (v := nI 1) E.1 E.2.1 d_Ge_isMultiple_1 (by decide) ?_
  refine lv_iload_n E.1 E.2.1 d_Ge_isMultiple_2 rfl (lv_at hl 1 rfl) ?_
  refine lv_ishl E.1 E.2.1 d_Ge_isMultiple_3 ?_
  refine lv_iconst (v := nI 1) E.1 E.2.1 d_Ge_isMultiple_4 (by decide) ?_
  refine lv_isub E.1 E.2.1 d_Ge_isMultiple_5 ?_
  refine lv_iand E.1 E.2.1 d_Ge_isMultiple_6 ?_
  refine x_top (v' := nI (r % 2 ^ i)) (r_and hr hi) ?_
  refine x_ifn (tgt := 14) E d_Ge_isMultiple_7 (by decide) (Nat.lt_of_le_of_lt (Nat.mod_le _ _) hr) (fun hz => ?_) (fun hz => ?_)
  · refine lv_iconst (v := nI 0) E.1 E.2.1 d_Ge_isMultiple_14 (by decide) ?_
    exact hret _ _ _ (by unfold r_m; first | rw [if_pos hz] | rw [if_neg hz]) rfl d_Ge_isMultiple_15
  · refine lv_iconst (v := nI 1) E.1 E.2.1 d_Ge_isMultiple_10 (by decide) ?_
    refine lv_goto (tgt := 15) E.1 E.2.1 d_Ge_isMultiple_11 (by decide) ?_
    exact hret _ _ _ (by unfold r_m; first | rw [if_pos hz] | rw [if_neg hz]) rfl d_Ge_isMultiple_15
set_option maxHeartbeats 4000000 in
set_option maxRecDepth 100000 in
theorem q_Ge_draw (G : xG) (l : Launch) (h0 kq cq pq dq e0 rq tq rs : Nat) (ck lt : Int32) (d1 d2 d3 : Nat) (Hf w0 : Nat → Int32) (go : Nat → Nat) (key ctr rr tt : Nat → Nat) (pa ba cap len : Nat → Nat) (pb : Nat → Nat → Nat) (hrs : rs < 100000) (hk : g_bt 16 key) (hb : g_bt 16 ctr) (hcap : ∀ j, j < 32 → cap j < 100000 ∧ len j ≤ cap j) (hpb : ∀ j, j < 32 → ∀ k, k < len j → pb j k < 256) : xMv G l y_Ge_draw c_Ge_draw 3 ({ frames := 5, cells := 0, slots := 0, locals := 129 }) [.ref h0] [] ([(h0, .inr (3, [.ref kq, .ref cq, .ref pq, .int (nI rs), .int ck, .int lt, .ref dq, .ref e0, .ref rq, .ref tq])), (kq, x_N G 16 key), (cq, x_N G 16 ctr), (pq, x_Q G 32 (fun j => some (pa j))), (dq, .inr (1, [.ref d1, .ref d2, .ref d3])), (d1, x_I G 8 Hf), (d2, x_I G 64 w0), (d3, x_N G 32 go), (rq, x_N G 1040 rr), (tq, x_N G 32 tt)] ++ x_pl G pa ba cap len pb) ((Nat → Int32) × (Nat → Int32)) (fun _ => True) (fun u => [(h0, .inr (3, [.ref kq, .ref cq, .ref pq, .int (nI (rs + 1)), .int ck, .int ck, .ref dq, .ref e0, .ref rq, .ref tq])), (kq, x_N G 16 (h_tw (va_cpy key (r_row pb len rr (r_n (rs + 1))) 0 0 16) (16 + 32 * (r_n (rs + 1))))), (cq, x_N G 16 (g_ct ctr)), (pq, x_Q G 32 (fun j => some (pa j))), (dq, .inr (1, [.ref d1, .ref d2, .ref d3])), (d1, x_I G 8 u.1), (d2, x_I G 64 u.2), (d3, x_N G 32 (h_dg (va_cpy key (r_row pb len rr (r_n (rs + 1))) 0 0 16) (16 + 32 * (r_n (rs + 1))))), (rq, x_N G 1040 (va_cpy key (r_row pb len rr (r_n (rs + 1))) 0 0 16)), (tq, x_N G 32 (h_tw (va_cpy key (r_row pb len rr (r_n (rs + 1))) 0 0 16) (16 + 32 * (r_n (rs + 1)))))] ++ x_pl G pa ba cap (mx (r_n (rs + 1)) (fun _ => 0) len) pb) 0 0 := by
  refine xMv.by r_Ge (by decide +kernel) (Nat.le_of_ble_eq_true rfl) rfl ?_
  intro p e s m args below meth c A ls Q E hin B hro hl hret
  have hl : lv_has ls 3 [(0, .ref h0)] := hl
  refine lv_aload_n E.1 E.2.1 d_Ge_draw_0 rfl (lv_at hl 0 rfl) ?_
  refine lv_dup E.1 E.2.1 d_Ge_draw_1 rfl ?_
  refine x_get E B 0 rfl k_Ge 3 (by decide) wd_115 rfl d_Ge_draw_2 ?_
  refine lv_iconst (v := nI 1) E.1 E.2.1 d_Ge_draw_5 (by decide) ?_
  refine x_iadd E d_Ge_draw_6 ?_
  refine x_put E B 0 rfl k_Ge 3 (by decide) wd_115 rfl rfl rfl (Nat.le_of_ble_eq_true rfl) d_Ge_draw_7 (fun H locs B => ?_)
  have B : xB G A s _ _ ([(h0, .inr (3, [.ref kq, .ref cq, .ref pq, .int (nI (rs + 1)), .int ck, .int lt, .ref dq, .ref e0, .ref rq, .ref tq])), (kq, x_N G 16 key), (cq, x_N G 16 ctr), (pq, x_Q G 32 (fun j => some (pa j))), (dq, .inr (1, [.ref d1, .ref d2, .ref d3])), (d1, x_I G 8 Hf), (d2, x_I G 64 w0), (d3, x_N G 32 go), (rq, x_N G 1040 rr), (tq, x_N G 32 tt)] ++ x_pl G pa ba cap len pb) := B
  refine lv_bipush (v := nI 16) E.1 E.2.1 d_Ge_draw_10 (by decide) ?_
  refine lv_istore_n (lv' := [(1, .int (nI 16)), (0, .ref h0)]) E.1 E.2.1 d_Ge_draw_12 rfl hl (by decide) rfl (fun ls hl => ?_)
  refine lv_iconst (v := nI 0) E.1 E.2.1 d_Ge_draw_13 (by decide) ?_
  refine lv_istore_n (lv' := [(2, .int (nI 0)), (1, .int (nI 16)), (0, .ref h0)]) E.1 E.2.1 d_Ge_draw_14 rfl hl (by decide) rfl (fun ls hl => ?_)
  have hL15 : ∀ (kf : Nat) (i : Nat) (Hf w0 : Nat → Int32) (go : Nat → Nat), 32 - i < kf → (r_nE (rs + 1) i) → ∀ (H : Heap) (locs : List Loc) (ls : Array Slot), xB G A s H locs ([(h0, .inr (3, [.ref kq, .ref cq, .ref pq, .int (nI (rs + 1)), .int ck, .int lt, .ref dq, .ref e0, .ref rq, .ref tq])), (kq, x_N G 16 key), (cq, x_N G 16 ctr), (pq, x_Q G 32 (fun j => some (pa j))), (dq, .inr (1, [.ref d1, .ref d2, .ref d3])), (d1, x_I G 8 Hf), (d2, x_I G 64 w0), (d3, x_N G 32 go), (rq, x_N G 1040 (r_row pb len rr i)), (tq, x_N G 32 tt)] ++ x_pl G pa ba cap (mx i (fun _ => 0) len) pb) → lv_has ls 3 [(2, .int (nI i)), (1, .int (nI (16 + 32 * i))), (0, .ref h0)] → W p l e ({ frames := 5, cells := 0, slots := 0, locals := 129 }) s m args below meth c H locs 0 0 Q (F0 m 15 ls []) := by
    intro k15
    induction k15 with
    | zero =>
      intro i Hf w0 go hk
      exact absurd hk (Nat.not_lt_zero _)
    | succ k15 ih15 =>
      intro i Hf w0 go hk15 hE H locs ls B hl
      have hi := hE.1
      refine lv_iload_n E.1 E.2.1 d_Ge_draw_15 rfl (lv_at hl 0 rfl) ?_
      refine lv_bipush (v := nI 32) E.1 E.2.1 d_Ge_draw_16 (by decide) ?_
      refine x_ge (tgt := 81) E d_Ge_draw_18 (by decide) (by omega) (by omega) (fun c1 => ?_) (fun c1 => ?_)
      · have hN : r_n (rs + 1) = i := by first | exact r_nE_n hE (by omega) (r_m0 hz) | exact r_nE_x hE (by omega)
        subst hN
        refine lv_aload_n E.1 E.2.1 d_Ge_draw_81 rfl (lv_at hl 2 rfl) ?_
        refine lv_iload_n E.1 E.2.1 d_Ge_draw_82 rfl (lv_at hl 1 rfl) ?_
        refine x_cvX (X' := fun u => [(h0, .inr (3, [.ref kq, .ref cq, .ref pq, .int (nI (rs + 1)), .int ck, .int lt, .ref dq, .ref e0, .ref rq, .ref tq])), (kq, x_N G 16 (h_tw (va_cpy key (r_row pb len rr (r_n (rs + 1))) 0 0 16) (16 + 32 * (r_n (rs + 1))))), (cq, x_N G 16 (g_ct ctr)), (pq, x_Q G 32 (fun j => some (pa j))), (dq, .inr (1, [.ref d1, .ref d2, .ref d3])), (d1, x_I G 8 u.1), (d2, x_I G 64 u.2), (d3, x_N G 32 (h_dg (va_cpy key (r_row pb len rr (r_n (rs + 1))) 0 0 16) (16 + 32 * (r_n (rs + 1))))), (rq, x_N G 1040 (va_cpy key (r_row pb len rr (r_n (rs + 1))) 0 0 16)), (tq, x_N G 32 (h_tw (va_cpy key (r_row pb len rr (r_n (rs + 1))) 0 0 16) (16 + 32 * (r_n (rs + 1)))))]) 10 B (x_rV (rest := []) E B (q_Ge_reseed G l h0 kq cq pq dq e0 rq tq (rs + 1) ck lt d1 d2 d3 Hf w0 go (16 + 32 * (r_n (rs + 1))) key ctr (r_row pb len rr (r_n (rs + 1))) tt (by have := r_n_le (rs + 1); omega) (r_drb hk _) (hb) _) (x_pre B [0, 1, 2, 4, 5, 6, 7, 8, 9] rfl (by decide) x_ro0) 0 rfl k_Ge (gg_V wd_276 wd_278 wd_7 wd_35 wd_279) ⟨rfl, p_Ge_reseed⟩ rfl rfl ⟨Nat.le_of_ble_eq_true rfl, Nat.le_of_ble_eq_true rfl⟩ rfl hl.1 rfl (Nat.le_of_ble_eq_true rfl) d_Ge_draw_83 ⟨Nat.le_of_ble_eq_true rfl, Nat.le_of_ble_eq_true rfl⟩) [0, 1, 2, 4, 5, 6, 7, 8, 9] [3] rfl rfl (fun _ => rfl) rfl (by decide) (fun _ => rfl) (fun _ => rfl) (fun _ => rfl) (by decide) (fun u83 H locs hw83 B => ?_)
        have B : xB G A s _ _ ([(h0, .inr (3, [.ref kq, .ref cq, .ref pq, .int (nI (rs + 1)), .int ck, .int lt, .ref dq, .ref e0, .ref rq, .ref tq])), (kq, x_N G 16 (h_tw (va_cpy key (r_row pb len rr (r_n (rs + 1))) 0 0 16) (16 + 32 * (r_n (rs + 1))))), (cq, x_N G 16 (g_ct ctr)), (pq, x_Q G 32 (fun j => some (pa j))), (dq, .inr (1, [.ref d1, .ref d2, .ref d3])), (d1, x_I G 8 u83.1), (d2, x_I G 64 u83.2), (d3, x_N G 32 (h_dg (va_cpy key (r_row pb len rr (r_n (rs + 1))) 0 0 16) (16 + 32 * (r_n (rs + 1))))), (rq, x_N G 1040 (va_cpy key (r_row pb len rr (r_n (rs + 1))) 0 0 16)), (tq, x_N G 32 (h_tw (va_cpy key (r_row pb len rr (r_n (rs + 1))) 0 0 16) (16 + 32 * (r_n (rs + 1)))))] ++ x_pl G pa ba cap (mx (r_n (rs + 1)) (fun _ => 0) len) pb) := B
        refine lv_aload_n E.1 E.2.1 d_Ge_draw_86 rfl (lv_at hl 2 rfl) ?_
        refine lv_aload_n E.1 E.2.1 d_Ge_draw_87 rfl (lv_at hl 2 rfl) ?_
        refine x_get E B 0 rfl k_Ge 4 (by decide) wd_117 rfl d_Ge_draw_88 ?_
        refine x_put E B 0 rfl k_Ge 5 (by decide) wd_119 rfl rfl rfl (Nat.le_of_ble_eq_true rfl) d_Ge_draw_91 (fun H locs B => ?_)
        have B : xB G A s _ _ ([(h0, .inr (3, [.ref kq, .ref cq, .ref pq, .int (nI (rs + 1)), .int ck, .int ck, .ref dq, .ref e0, .ref rq, .ref tq])), (kq, x_N G 16 (h_tw (va_cpy key (r_row pb len rr (r_n (rs + 1))) 0 0 16) (16 + 32 * (r_n (rs + 1))))), (cq, x_N G 16 (g_ct ctr)), (pq, x_Q G 32 (fun j => some (pa j))), (dq, .inr (1, [.ref d1, .ref d2, .ref d3])), (d1, x_I G 8 u83.1), (d2, x_I G 64 u83.2), (d3, x_N G 32 (h_dg (va_cpy key (r_row pb len rr (r_n (rs + 1))) 0 0 16) (16 + 32 * (r_n (rs + 1))))), (rq, x_N G 1040 (va_cpy key (r_row pb len rr (r_n (rs + 1))) 0 0 16)), (tq, x_N G 32 (h_tw (va_cpy key (r_row pb len rr (r_n (rs + 1))) 0 0 16) (16 + 32 * (r_n (rs + 1)))))] ++ x_pl G pa ba cap (mx (r_n (rs + 1)) (fun _ => 0) len) pb) := B
        exact hret u83 _ _ _ _ B trivial d_Ge_draw_94
      · refine lv_aload_n E.1 E.2.1 d_Ge_draw_21 rfl (lv_at hl 2 rfl) ?_
        refine x_get E B 0 rfl k_Ge 3 (by decide) wd_115 rfl d_Ge_draw_22 ?_
        refine lv_iload_n E.1 E.2.1 d_Ge_draw_25 rfl (lv_at hl 0 rfl) ?_
        refine x_cf (x_rS (rest := []) E (q_Ge_isMultiple l (rs + 1) i (by omega) (by omega)) x_pf (gg_S wd_239 wd_240 wd_35 wd_241) p_Ge_isMultiple rfl rfl ⟨Nat.le_of_ble_eq_true rfl, Nat.le_of_ble_eq_true rfl⟩ rfl hl.1 rfl (Nat.le_of_ble_eq_true rfl) d_Ge_draw_26 ⟨Nat.le_of_ble_eq_true rfl, Nat.le_of_ble_eq_true rfl⟩) ?_
        refine x_if0 (tgt := 81) E d_Ge_draw_29 (by decide) (by have := r_m_lt (rs + 1) i; omega) (fun hz => ?_) (fun hz => ?_)
        · have hN : r_n (rs + 1) = i := by first | exact r_nE_n hE (by omega) (r_m0 hz) | exact r_nE_x hE (by omega)
          subst hN
          refine lv_aload_n E.1 E.2.1 d_Ge_draw_81 rfl (lv_at hl 2 rfl) ?_
          refine lv_iload_n E.1 E.2.1 d_Ge_draw_82 rfl (lv_at hl 1 rfl) ?_
          refine x_cvX (X' := fun u => [(h0, .inr (3, [.ref kq, .ref cq, .ref pq, .int (nI (rs + 1)), .int ck, .int lt, .ref dq, .ref e0, .ref rq, .ref tq])), (kq, x_N G 16 (h_tw (va_cpy key (r_row pb len rr (r_n (rs + 1))) 0 0 16) (16 + 32 * (r_n (rs + 1))))), (cq, x_N G 16 (g_ct ctr)), (pq, x_Q G 32 (fun j => some (pa j))), (dq, .inr (1, [.ref d1, .ref d2, .ref d3])), (d1, x_I G 8 u.1), (d2, x_I G 64 u.2), (d3, x_N G 32 (h_dg (va_cpy key (r_row pb len rr (r_n (rs + 1))) 0 0 16) (16 + 32 * (r_n (rs + 1))))), (rq, x_N G 1040 (va_cpy key (r_row pb len rr (r_n (rs + 1))) 0 0 16)), (tq, x_N G 32 (h_tw (va_cpy key (r_row pb len rr (r_n (rs + 1))) 0 0 16) (16 + 32 * (r_n (rs + 1)))))]) 10 B (x_rV (rest := []) E B (q_Ge_reseed G l h0 kq cq pq dq e0 rq tq (rs + 1) ck lt d1 d2 d3 Hf w0 go (16 + 32 * (r_n (rs + 1))) key ctr (r_row pb len rr (r_n (rs + 1))) tt (by have := r_n_le (rs + 1); omega) (r_drb hk _) (hb) _) (x_pre B [0, 1, 2, 4, 5, 6, 7, 8, 9] rfl (by decide) x_ro0) 0 rfl k_Ge (gg_V wd_276 wd_278 wd_7 wd_35 wd_279) ⟨rfl, p_Ge_reseed⟩ rfl rfl ⟨Nat.le_of_ble_eq_true rfl, Nat.le_of_ble_eq_true rfl⟩ rfl hl.1 rfl (Nat.le_of_ble_eq_true rfl) d_Ge_draw_83 ⟨Nat.le_of_ble_eq_true rfl, Nat.le_of_ble_eq_true rfl⟩) [0, 1, 2, 4, 5, 6, 7, 8, 9] [3] rfl rfl (fun _ => rfl) rfl (by decide) (fun _ => rfl) (fun _ => rfl) (fun _ => rfl) (by decide) (fun u83 H locs hw83 B => ?_)
          have B : xB G A s _ _ ([(h0, .inr (3, [.ref kq, .ref cq, .ref pq, .int (nI (rs + 1)), .int ck, .int lt, .ref dq, .ref e0, .ref rq, .ref tq])), (kq, x_N G 16 (h_tw (va_cpy key (r_row pb len rr (r_n (rs + 1))) 0 0 16) (16 + 32 * (r_n (rs + 1))))), (cq, x_N G 16 (g_ct ctr)), (pq, x_Q G 32 (fun j => some (pa j))), (dq, .inr (1, [.ref d1, .ref d2, .ref d3])), (d1, x_I G 8 u83.1), (d2, x_I G 64 u83.2), (d3, x_N G 32 (h_dg (va_cpy key (r_row pb len rr (r_n (rs + 1))) 0 0 16) (16 + 32 * (r_n (rs + 1))))), (rq, x_N G 1040 (va_cpy key (r_row pb len rr (r_n (rs + 1))) 0 0 16)), (tq, x_N G 32 (h_tw (va_cpy key (r_row pb len rr (r_n (rs + 1))) 0 0 16) (16 + 32 * (r_n (rs + 1)))))] ++ x_pl G pa ba cap (mx (r_n (rs + 1)) (fun _ => 0) len) pb) := B
          refine lv_aload_n E.1 E.2.1 d_Ge_draw_86 rfl (lv_at hl 2 rfl) ?_
          refine lv_aload_n E.1 E.2.1 d_Ge_draw_87 rfl (lv_at hl 2 rfl) ?_
          refine x_get E B 0 rfl k_Ge 4 (by decide) wd_117 rfl d_Ge_draw_88 ?_
          refine x_put E B 0 rfl k_Ge 5 (by decide) wd_119 rfl rfl rfl (Nat.le_of_ble_eq_true rfl) d_Ge_draw_91 (fun H locs B => ?_)
          have B : xB G A s _ _ ([(h0, .inr (3, [.ref kq, .ref cq, .ref pq, .int (nI (rs + 1)), .int ck, .int ck, .ref dq, .ref e0, .ref rq, .ref tq])), (kq, x_N G 16 (h_tw (va_cpy key (r_row pb len rr (r_n (rs + 1))) 0 0 16) (16 + 32 * (r_n (rs + 1))))), (cq, x_N G 16 (g_ct ctr)), (pq, x_Q G 32 (fun j => some (pa j))), (dq, .inr (1, [.ref d1, .ref d2, .ref d3])), (d1, x_I G 8 u83.1), (d2, x_I G 64 u83.2), (d3, x_N G 32 (h_dg (va_cpy key (r_row pb len rr (r_n (rs + 1))) 0 0 16) (16 + 32 * (r_n (rs + 1))))), (rq, x_N G 1040 (va_cpy key (r_row pb len rr (r_n (rs + 1))) 0 0 16)), (tq, x_N G 32 (h_tw (va_cpy key (r_row pb len rr (r_n (rs + 1))) 0 0 16) (16 + 32 * (r_n (rs + 1)))))] ++ x_pl G pa ba cap (mx (r_n (rs + 1)) (fun _ => 0) len) pb) := B
          exact hret u83 _ _ _ _ B trivial d_Ge_draw_94
        · refine lv_aload_n E.1 E.2.1 d_Ge_draw_32 rfl (lv_at hl 2 rfl) ?_
          refine x_get E B 0 rfl k_Ge 6 (by decide) wd_121 rfl d_Ge_draw_33 ?_
          refine lv_aload_n E.1 E.2.1 d_Ge_draw_36 rfl (lv_at hl 2 rfl) ?_
          refine x_get E B 0 rfl k_Ge 2 (by decide) wd_113 rfl d_Ge_draw_37 ?_
          refine lv_iload_n E.1 E.2.1 d_Ge_draw_40 rfl (lv_at hl 0 rfl) ?_
          refine x_aldp E B 3 rfl (i := i) (by omega) (by decide) d_Ge_draw_41 ?_
          refine x_getP (N := 10) E rfl B (j := i) (by omega) wd_65 d_Ge_draw_42 ?_
          refine lv_aload_n E.1 E.2.1 d_Ge_draw_45 rfl (lv_at hl 2 rfl) ?_
          refine x_get E B 0 rfl k_Ge 2 (by decide) wd_113 rfl d_Ge_draw_46 ?_
          refine lv_iload_n E.1 E.2.1 d_Ge_draw_49 rfl (lv_at hl 0 rfl) ?_
          refine x_aldp E B 3 rfl (i := i) (by omega) (by decide) d_Ge_draw_50 ?_
          refine x_getL (N := 10) E rfl B (j := i) (by omega) wd_67 d_Ge_draw_51 ?_
          refine x_top (show nI ((mx i (fun _ => 0) len) i) = nI (len i) from congrArg nI (by exact mx_ge (Nat.le_refl i))) ?_
          refine lv_aload_n E.1 E.2.1 d_Ge_draw_54 rfl (lv_at hl 2 rfl) ?_
          refine x_get E B 0 rfl k_Ge 8 (by decide) wd_123 rfl d_Ge_draw_55 ?_
          refine lv_iload_n E.1 E.2.1 d_Ge_draw_58 rfl (lv_at hl 1 rfl) ?_
          refine x_cvX (X' := fun u => [(h0, .inr (3, [.ref kq, .ref cq, .ref pq, .int (nI (rs + 1)), .int ck, .int lt, .ref dq, .ref e0, .ref rq, .ref tq])), (kq, x_N G 16 key), (cq, x_N G 16 ctr), (pq, x_Q G 32 (fun j => some (pa j))), (dq, .inr (1, [.ref d1, .ref d2, .ref d3])), (d1, x_I G 8 u.1), (d2, x_I G 64 u.2), (d3, x_N G 32 (h_dg (pb i) (len i))), (rq, x_N G 1040 (va_cpy (h_tw (pb i) (len i)) (r_row pb len rr i) 0 (16 + 32 * i) 32)), (tq, x_N G 32 tt)]) 10 B (x_rV (rest := []) E B (q_Dg_twice G l dq d1 d2 d3 (ba i) (cap i) (len i) rq 1040 (16 + 32 * i) (pb i) go (r_row pb len rr i) Hf w0 ((hcap i (by omega)).2) ((hcap i (by omega)).1) (hpb i (by omega)) (by omega) (by omega) _) (x_pre B [4, 5, 6, 7, 8] rfl (by decide) (x_ro1 (x_roP (N := 10) rfl B (j := i) (by omega) [4, 5, 6, 7, 8] rfl (by decide)))) 4 rfl k_Dg (gg_V wd_242 wd_243 wd_244 wd_37 wd_245) ⟨rfl, p_Dg_twice⟩ rfl rfl ⟨Nat.le_of_ble_eq_true rfl, Nat.le_of_ble_eq_true rfl⟩ rfl hl.1 rfl (Nat.le_of_ble_eq_true rfl) d_Ge_draw_59 ⟨Nat.le_of_ble_eq_true rfl, Nat.le_of_ble_eq_true rfl⟩) [4, 5, 6, 7, 8] [0, 1, 2, 3, 9] rfl rfl (fun _ => rfl) rfl (by decide) (fun _ => rfl) (fun _ => rfl) (fun _ => rfl) (by decide) (fun u59 H locs hw59 B => ?_)
          have B : xB G A s _ _ ([(h0, .inr (3, [.ref kq, .ref cq, .ref pq, .int (nI (rs + 1)), .int ck, .int lt, .ref dq, .ref e0, .ref rq, .ref tq])), (kq, x_N G 16 key), (cq, x_N G 16 ctr), (pq, x_Q G 32 (fun j => some (pa j))), (dq, .inr (1, [.ref d1, .ref d2, .ref d3])), (d1, x_I G 8 u59.1), (d2, x_I G 64 u59.2), (d3, x_N G 32 (h_dg (pb i) (len i))), (rq, x_N G 1040 (va_cpy (h_tw (pb i) (len i)) (r_row pb len rr i) 0 (16 + 32 * i) 32)), (tq, x_N G 32 tt)] ++ x_pl G pa ba cap (mx i (fun _ => 0) len) pb) := B
          refine lv_aload_n E.1 E.2.1 d_Ge_draw_62 rfl (lv_at hl 2 rfl) ?_
          refine x_get E B 0 rfl k_Ge 2 (by decide) wd_113 rfl d_Ge_draw_63 ?_
          refine lv_iload_n E.1 E.2.1 d_Ge_draw_66 rfl (lv_at hl 0 rfl) ?_
          refine x_aldp E B 3 rfl (i := i) (by omega) (by decide) d_Ge_draw_67 ?_
          refine lv_iconst (v := nI 0) E.1 E.2.1 d_Ge_draw_68 (by decide) ?_
          refine x_putL (N := 10) E rfl B (j := i) (by omega) wd_67 (v := 0) d_Ge_draw_69 (fun H locs B => ?_)
          have B : xB G A s _ _ ([(h0, .inr (3, [.ref kq, .ref cq, .ref pq, .int (nI (rs + 1)), .int ck, .int lt, .ref dq, .ref e0, .ref rq, .ref tq])), (kq, x_N G 16 key), (cq, x_N G 16 ctr), (pq, x_Q G 32 (fun j => some (pa j))), (dq, .inr (1, [.ref d1, .ref d2, .ref d3])), (d1, x_I G 8 u59.1), (d2, x_I G 64 u59.2), (d3, x_N G 32 (h_dg (pb i) (len i))), (rq, x_N G 1040 (va_cpy (h_tw (pb i) (len i)) (r_row pb len rr i) 0 (16 + 32 * i) 32)), (tq, x_N G 32 tt)] ++ x_pl G pa ba cap (va_up (mx i (fun _ => 0) len) i 0) pb) := B
          have B := B.eq ([(h0, .inr (3, [.ref kq, .ref cq, .ref pq, .int (nI (rs + 1)), .int ck, .int lt, .ref dq, .ref e0, .ref rq, .ref tq])), (kq, x_N G 16 key), (cq, x_N G 16 ctr), (pq, x_Q G 32 (fun j => some (pa j))), (dq, .inr (1, [.ref d1, .ref d2, .ref d3])), (d1, x_I G 8 u59.1), (d2, x_I G 64 u59.2), (d3, x_N G 32 (h_dg (pb i) (len i))), (rq, x_N G 1040 (va_cpy (h_tw (pb i) (len i)) (r_row pb len rr i) 0 (16 + 32 * i) 32)), (tq, x_N G 32 tt)] ++ x_pl G pa ba cap (mx (i + 1) (fun _ => 0) len) pb) (by rw [mx_up rfl])
          refine x_inc E 32 (lv' := [(1, .int (nI ((16 + 32 * i) + 32))), (2, .int (nI i)), (0, .ref h0)]) d_Ge_draw_72 hl (k := 1) rfl rfl (by decide) rfl (fun ls hl => ?_)
          refine x_inc E 1 (lv' := [(2, .int (nI (i + 1))), (1, .int (nI ((16 + 32 * i) + 32))), (0, .ref h0)]) d_Ge_draw_75 hl (k := 1) rfl rfl (by decide) rfl (fun ls hl => ?_)
          refine lv_goto (tgt := 15) E.1 E.2.1 d_Ge_draw_78 (by decide) ?_
          exact ih15  (i + 1) _ _ _ (by omega) (r_nE_y hE (by omega) (r_m1 hz)) _ _ _ B (lv_sub hl [0, 1, 2] rfl)
  have B := B.eq ([(h0, .inr (3, [.ref kq, .ref cq, .ref pq, .int (nI (rs + 1)), .int ck, .int lt, .ref dq, .ref e0, .ref rq, .ref tq])), (kq, x_N G 16 key), (cq, x_N G 16 ctr), (pq, x_Q G 32 (fun j => some (pa j))), (dq, .inr (1, [.ref d1, .ref d2, .ref d3])), (d1, x_I G 8 Hf), (d2, x_I G 64 w0), (d3, x_N G 32 go), (rq, x_N G 1040 rr), (tq, x_N G 32 tt)] ++ x_pl G pa ba cap (mx 0 (fun _ => 0) len) pb) (by rw [show mx 0 (fun _ => 0) len = len from funext (mx_0 _ _)])
  exact hL15 (33) 0 Hf w0 go (by omega) (r_nE_0 _) _ _ _ B (lv_sub hl [0, 1, 2] rfl)
set_option maxHeartbeats 4000000 in
set_option maxRecDepth 100000 in
theorem q_Ge_byteOfTwice (G : xG) (l : Launch) (h0 kq cq pq dq e0 rq tq rs : Nat) (ck lt : Int32) (d1 d2 d3 : Nat) (Hf w0 : Nat → Int32) (go : Nat → Nat) (j i : Nat) (tt : Nat → Nat) (pa ba cap len : Nat → Nat) (pb : Nat → Nat → Nat) (hj : j < 32) (hi : i < 32) (hcap : cap j < 100000 ∧ len j ≤ cap j) (hpb : ∀ k, k < len j → pb j k < 256) : xMi G l y_Ge_byteOfTwice c_Ge_byteOfTwice 3 .int ({ frames := 4, cells := 0, slots := 0, locals := 108 }) [.ref h0, .int (nI j), .int (nI i)] [] ([(h0, .inr (3, [.ref kq, .ref cq, .ref pq, .int (nI rs), .int ck, .int lt, .ref dq, .ref e0, .ref rq, .ref tq])), (pq, x_Q G 32 (fun j => some (pa j))), (dq, .inr (1, [.ref d1, .ref d2, .ref d3])), (d1, x_I G 8 Hf), (d2, x_I G 64 w0), (d3, x_N G 32 go), (tq, x_N G 32 tt)] ++ x_pl G pa ba cap len pb) ((Nat → Int32) × (Nat → Int32)) (fun r _ => r = nI (h_tw (pb j) (len j) i)) (fun u => [(h0, .inr (3, [.ref kq, .ref cq, .ref pq, .int (nI rs), .int ck, .int lt, .ref dq, .ref e0, .ref rq, .ref tq])), (pq, x_Q G 32 (fun j => some (pa j))), (dq, .inr (1, [.ref d1, .ref d2, .ref d3])), (d1, x_I G 8 u.1), (d2, x_I G 64 u.2), (d3, x_N G 32 (h_dg (pb j) (len j))), (tq, x_N G 32 (h_tw (pb j) (len j)))] ++ x_pl G pa ba cap len pb) 0 0 := by
  refine xMi.by r_Ge (by decide +kernel) (Nat.le_of_ble_eq_true rfl) rfl ?_
  intro p e s m args below meth c A ls Q E B hro hl hret
  have hl : lv_has ls 3 [(0, .ref h0), (1, .int (nI j)), (2, .int (nI i))] := hl
  refine lv_aload_n E.1 E.2.1 d_Ge_byteOfTwice_0 rfl (lv_at hl 0 rfl) ?_
  refine x_get E B 0 rfl k_Ge 6 (by decide) wd_121 rfl d_Ge_byteOfTwice_1 ?_
  refine lv_aload_n E.1 E.2.1 d_Ge_byteOfTwice_4 rfl (lv_at hl 0 rfl) ?_
  refine x_get E B 0 rfl k_Ge 2 (by decide) wd_113 rfl d_Ge_byteOfTwice_5 ?_
  refine lv_iload_n E.1 E.2.1 d_Ge_byteOfTwice_8 rfl (lv_at hl 1 rfl) ?_
  refine x_aldp E B 1 rfl (i := j) (by omega) (by decide) d_Ge_byteOfTwice_9 ?_
  refine x_getP (N := 7) E rfl B (j := j) (by omega) wd_65 d_Ge_byteOfTwice_10 ?_
  refine lv_aload_n E.1 E.2.1 d_Ge_byteOfTwice_13 rfl (lv_at hl 0 rfl) ?_
  refine x_get E B 0 rfl k_Ge 2 (by decide) wd_113 rfl d_Ge_byteOfTwice_14 ?_
  refine lv_iload_n E.1 E.2.1 d_Ge_byteOfTwice_17 rfl (lv_at hl 1 rfl) ?_
  refine x_aldp E B 1 rfl (i := j) (by omega) (by decide) d_Ge_byteOfTwice_18 ?_
  refine x_getL (N := 7) E rfl B (j := j) (by omega) wd_67 d_Ge_byteOfTwice_19 ?_
  refine lv_aload_n E.1 E.2.1 d_Ge_byteOfTwice_22 rfl (lv_at hl 0 rfl) ?_
  refine x_get E B 0 rfl k_Ge 9 (by decide) wd_124 rfl d_Ge_byteOfTwice_23 ?_
  refine lv_iconst (v := nI 0) E.1 E.2.1 d_Ge_byteOfTwice_26 (by decide) ?_
  refine x_cvX (X' := fun u => [(h0, .inr (3, [.ref kq, .ref cq, .ref pq, .int (nI rs), .int ck, .int lt, .ref dq, .ref e0, .ref rq, .ref tq])), (pq, x_Q G 32 (fun j => some (pa j))), (dq, .inr (1, [.ref d1, .ref d2, .ref d3])), (d1, x_I G 8 u.1), (d2, x_I G 64 u.2), (d3, x_N G 32 (h_dg (pb j) (len j))), (tq, x_N G 32 (va_cpy (h_tw (pb j) (len j)) tt 0 0 32))]) 7 B (x_rV (rest := []) E B (q_Dg_twice G l dq d1 d2 d3 (ba j) (cap j) (len j) tq 32 0 (pb j) go tt Hf w0 (hcap.2) (hcap.1) (hpb) (by omega) (by omega) _) (x_pre B [2, 3, 4, 5, 6] rfl (by decide) (x_ro1 (x_roP (N := 7) rfl B (j := j) (by omega) [2, 3, 4, 5, 6] rfl (by decide)))) 2 rfl k_Dg (gg_V wd_242 wd_243 wd_244 wd_37 wd_245) ⟨rfl, p_Dg_twice⟩ rfl rfl ⟨Nat.le_of_ble_eq_true rfl, Nat.le_of_ble_eq_true rfl⟩ rfl hl.1 rfl (Nat.le_of_ble_eq_true rfl) d_Ge_byteOfTwice_27 ⟨Nat.le_of_ble_eq_true rfl, Nat.le_of_ble_eq_true rfl⟩) [2, 3, 4, 5, 6] [0, 1] rfl rfl (fun _ => rfl) rfl (by decide) (fun _ => rfl) (fun _ => rfl) (fun _ => rfl) (by decide) (fun u27 H locs hw27 B => ?_)
  have B : xB G A s _ _ ([(h0, .inr (3, [.ref kq, .ref cq, .ref pq, .int (nI rs), .int ck, .int lt, .ref dq, .ref e0, .ref rq, .ref tq])), (pq, x_Q G 32 (fun j => some (pa j))), (dq, .inr (1, [.ref d1, .ref d2, .ref d3])), (d1, x_I G 8 u27.1), (d2, x_I G 64 u27.2), (d3, x_N G 32 (h_dg (pb j) (len j))), (tq, x_N G 32 (va_cpy (h_tw (pb j) (len j)) tt 0 0 32))] ++ x_pl G pa ba cap len pb) := B
  have B := B.fn 6 rfl (nA (h_tw (pb j) (len j))) (cp_0)
  have B : xB G A s _ _ ([(h0, .inr (3, [.ref kq, .ref cq, .ref pq, .int (nI rs), .int ck, .int lt, .ref dq, .ref e0, .ref rq, .ref tq])), (pq, x_Q G 32 (fun j => some (pa j))), (dq, .inr (1, [.ref d1, .ref d2, .ref d3])), (d1, x_I G 8 u27.1), (d2, x_I G 64 u27.2), (d3, x_N G 32 (h_dg (pb j) (len j))), (tq, x_N G 32 (h_tw (pb j) (len j)))] ++ x_pl G pa ba cap len pb) := B
  refine lv_aload_n E.1 E.2.1 d_Ge_byteOfTwice_30 rfl (lv_at hl 0 rfl) ?_
  refine x_get E B 0 rfl k_Ge 9 (by decide) wd_124 rfl d_Ge_byteOfTwice_31 ?_
  refine lv_iload_n E.1 E.2.1 d_Ge_byteOfTwice_34 rfl (lv_at hl 2 rfl) ?_
  refine x_aldN E B 6 rfl (i := i) (by omega) (by decide) d_Ge_byteOfTwice_35 ?_
  exact hret _ u27 _ _ _ _ B (rfl) d_Ge_byteOfTwice_36
set_option maxHeartbeats 4000000 in
set_option maxRecDepth 100000 in
theorem q_Ge_reset (G : xG) (l : Launch) (h0 kq cq pq dq e0 rq tq rs : Nat) (ck lt : Int32) (key ctr : Nat → Nat) (pa ba cap len : Nat → Nat) (pb : Nat → Nat → Nat)  : xMv G l y_Ge_reset c_Ge_reset 2 ({ frames := 0, cells := 0, slots := 0, locals := 0 }) [.ref h0] [] ([(h0, .inr (3, [.ref kq, .ref cq, .ref pq, .int (nI rs), .int ck, .int lt, .ref dq, .ref e0, .ref rq, .ref tq])), (kq, x_N G 16 key), (cq, x_N G 16 ctr), (pq, x_Q G 32 (fun j => some (pa j)))] ++ x_pl G pa ba cap len pb) Unit (fun _ => True) (fun u => [(h0, .inr (3, [.ref kq, .ref cq, .ref pq, .int (nI 0), .int (nI 0), .int (-1), .ref dq, .ref e0, .ref rq, .ref tq])), (kq, x_N G 16 (fun _ => 0)), (cq, x_N G 16 (fun _ => 0)), (pq, x_Q G 32 (fun j => some (pa j)))] ++ x_pl G pa ba cap (fun _ => 0) pb) 0 0 := by
  refine xMv.by r_Ge (by decide +kernel) (Nat.le_of_ble_eq_true rfl) rfl ?_
  intro p e s m args below meth c A ls Q E hin B hro hl hret
  have hl : lv_has ls 2 [(0, .ref h0)] := hl
  refine lv_iconst (v := nI 0) E.1 E.2.1 d_Ge_reset_0 (by decide) ?_
  refine lv_istore_n (lv' := [(1, .int (nI 0)), (0, .ref h0)]) E.1 E.2.1 d_Ge_reset_1 rfl hl (by decide) rfl (fun ls hl => ?_)
  have hL2 : ∀ (kf : Nat) (i : Nat), 16 - i < kf → (i ≤ 16) → ∀ (H : Heap) (locs : List Loc) (ls : Array Slot), xB G A s H locs ([(h0, .inr (3, [.ref kq, .ref cq, .ref pq, .int (nI rs), .int ck, .int lt, .ref dq, .ref e0, .ref rq, .ref tq])), (kq, x_N G 16 (mx i (fun _ => 0) key)), (cq, x_N G 16 (mx i (fun _ => 0) ctr)), (pq, x_Q G 32 (fun j => some (pa j)))] ++ x_pl G pa ba cap len pb) → lv_has ls 2 [(1, .int (nI i)), (0, .ref h0)] → W p l e ({ frames := 0, cells := 0, slots := 0, locals := 0 }) s m args below meth c H locs 0 0 Q (F0 m 2 ls []) := by
    intro k2
    induction k2 with
    | zero =>
      intro i hk
      exact absurd hk (Nat.not_lt_zero _)
    | succ k2 ih2 =>
      intro i hk2 hi H locs ls B hl
      refine lv_iload_n E.1 E.2.1 d_Ge_reset_2 rfl (lv_at hl 0 rfl) ?_
      refine lv_bipush (v := nI 16) E.1 E.2.1 d_Ge_reset_3 (by decide) ?_
      refine x_ge (tgt := 28) E d_Ge_reset_5 (by decide) (by omega) (by omega) (fun c1 => ?_) (fun c1 => ?_)
      · obtain rfl : i = 16 := by omega
        have B := B.fn 1 rfl (nA (fun _ => 0)) (mx_e)
        have B : xB G A s _ _ ([(h0, .inr (3, [.ref kq, .ref cq, .ref pq, .int (nI rs), .int ck, .int lt, .ref dq, .ref e0, .ref rq, .ref tq])), (kq, x_N G 16 (fun _ => 0)), (cq, x_N G 16 (mx 16 (fun _ => 0) ctr)), (pq, x_Q G 32 (fun j => some (pa j)))] ++ x_pl G pa ba cap len pb) := B
        have B := B.fn 2 rfl (nA (fun _ => 0)) (mx_e)
        have B : xB G A s _ _ ([(h0, .inr (3, [.ref kq, .ref cq, .ref pq, .int (nI rs), .int ck, .int lt, .ref dq, .ref e0, .ref rq, .ref tq])), (kq, x_N G 16 (fun _ => 0)), (cq, x_N G 16 (fun _ => 0)), (pq, x_Q G 32 (fun j => some (pa j)))] ++ x_pl G pa ba cap len pb) := B
        refine lv_iconst (v := nI 0) E.1 E.2.1 d_Ge_reset_28 (by decide) ?_
        refine lv_istore_n (lv' := [(1, .int (nI 0)), (0, .ref h0)]) E.1 E.2.1 d_Ge_reset_29 rfl hl (by decide) rfl (fun ls hl => ?_)
        have hL30 : ∀ (kf : Nat) (i : Nat), 32 - i < kf → (i ≤ 32) → ∀ (H : Heap) (locs : List Loc) (ls : Array Slot), xB G A s H locs ([(h0, .inr (3, [.ref kq, .ref cq, .ref pq, .int (nI rs), .int ck, .int lt, .ref dq, .ref e0, .ref rq, .ref tq])), (kq, x_N G 16 (fun _ => 0)), (cq, x_N G 16 (fun _ => 0)), (pq, x_Q G 32 (fun j => some (pa j)))] ++ x_pl G pa ba cap (mx i (fun _ => 0) len) pb) → lv_has ls 2 [(1, .int (nI i)), (0, .ref h0)] → W p l e ({ frames := 0, cells := 0, slots := 0, locals := 0 }) s m args below meth c H locs 0 0 Q (F0 m 30 ls []) := by
          intro k30
          induction k30 with
          | zero =>
            intro i hk
            exact absurd hk (Nat.not_lt_zero _)
          | succ k30 ih30 =>
            intro i hk30 hi H locs ls B hl
            refine lv_iload_n E.1 E.2.1 d_Ge_reset_30 rfl (lv_at hl 0 rfl) ?_
            refine lv_bipush (v := nI 32) E.1 E.2.1 d_Ge_reset_31 (by decide) ?_
            refine x_ge (tgt := 52) E d_Ge_reset_33 (by decide) (by omega) (by omega) (fun c2 => ?_) (fun c2 => ?_)
            · obtain rfl : i = 32 := by omega
              have B := B.eq ([(h0, .inr (3, [.ref kq, .ref cq, .ref pq, .int (nI rs), .int ck, .int lt, .ref dq, .ref e0, .ref rq, .ref tq])), (kq, x_N G 16 (fun _ => 0)), (cq, x_N G 16 (fun _ => 0)), (pq, x_Q G 32 (fun j => some (pa j)))] ++ x_pl G pa ba cap (fun _ => 0) pb) (by rw [x_pl_c (len := mx 32 (fun _ => 0) len) (fun j hj => mx_lt hj)])
              refine lv_aload_n E.1 E.2.1 d_Ge_reset_52 rfl (lv_at hl 1 rfl) ?_
              refine lv_iconst (v := nI 0) E.1 E.2.1 d_Ge_reset_53 (by decide) ?_
              refine x_put E B 0 rfl k_Ge 3 (by decide) wd_115 rfl rfl rfl (Nat.le_of_ble_eq_true rfl) d_Ge_reset_54 (fun H locs B => ?_)
              have B : xB G A s _ _ ([(h0, .inr (3, [.ref kq, .ref cq, .ref pq, .int (nI 0), .int ck, .int lt, .ref dq, .ref e0, .ref rq, .ref tq])), (kq, x_N G 16 (fun _ => 0)), (cq, x_N G 16 (fun _ => 0)), (pq, x_Q G 32 (fun j => some (pa j)))] ++ x_pl G pa ba cap (fun _ => 0) pb) := B
              refine lv_aload_n E.1 E.2.1 d_Ge_reset_57 rfl (lv_at hl 1 rfl) ?_
              refine lv_iconst (v := nI 0) E.1 E.2.1 d_Ge_reset_58 (by decide) ?_
              refine x_put E B 0 rfl k_Ge 4 (by decide) wd_117 rfl rfl rfl (Nat.le_of_ble_eq_true rfl) d_Ge_reset_59 (fun H locs B => ?_)
              have B : xB G A s _ _ ([(h0, .inr (3, [.ref kq, .ref cq, .ref pq, .int (nI 0), .int (nI 0), .int lt, .ref dq, .ref e0, .ref rq, .ref tq])), (kq, x_N G 16 (fun _ => 0)), (cq, x_N G 16 (fun _ => 0)), (pq, x_Q G 32 (fun j => some (pa j)))] ++ x_pl G pa ba cap (fun _ => 0) pb) := B
              refine lv_aload_n E.1 E.2.1 d_Ge_reset_62 rfl (lv_at hl 1 rfl) ?_
              refine lv_iconst (v := -1) E.1 E.2.1 d_Ge_reset_63 (by decide) ?_
              refine x_put E B 0 rfl k_Ge 5 (by decide) wd_119 rfl rfl rfl (Nat.le_of_ble_eq_true rfl) d_Ge_reset_64 (fun H locs B => ?_)
              have B : xB G A s _ _ ([(h0, .inr (3, [.ref kq, .ref cq, .ref pq, .int (nI 0), .int (nI 0), .int (-1), .ref dq, .ref e0, .ref rq, .ref tq])), (kq, x_N G 16 (fun _ => 0)), (cq, x_N G 16 (fun _ => 0)), (pq, x_Q G 32 (fun j => some (pa j)))] ++ x_pl G pa ba cap (fun _ => 0) pb) := B
              exact hret () _ _ _ _ B trivial d_Ge_reset_67
            · refine lv_aload_n E.1 E.2.1 d_Ge_reset_36 rfl (lv_at hl 1 rfl) ?_
              refine x_get E B 0 rfl k_Ge 2 (by decide) wd_113 rfl d_Ge_reset_37 ?_
              refine lv_iload_n E.1 E.2.1 d_Ge_reset_40 rfl (lv_at hl 0 rfl) ?_
              refine x_aldp E B 3 rfl (i := i) (by omega) (by decide) d_Ge_reset_41 ?_
              refine lv_iconst (v := nI 0) E.1 E.2.1 d_Ge_reset_42 (by decide) ?_
              refine x_putL (N := 4) E rfl B (j := i) (by omega) wd_67 (v := 0) d_Ge_reset_43 (fun H locs B => ?_)
              have B : xB G A s _ _ ([(h0, .inr (3, [.ref kq, .ref cq, .ref pq, .int (nI rs), .int ck, .int lt, .ref dq, .ref e0, .ref rq, .ref tq])), (kq, x_N G 16 (fun _ => 0)), (cq, x_N G 16 (fun _ => 0)), (pq, x_Q G 32 (fun j => some (pa j)))] ++ x_pl G pa ba cap (va_up (mx i (fun _ => 0) len) i 0) pb) := B
              have B := B.eq ([(h0, .inr (3, [.ref kq, .ref cq, .ref pq, .int (nI rs), .int ck, .int lt, .ref dq, .ref e0, .ref rq, .ref tq])), (kq, x_N G 16 (fun _ => 0)), (cq, x_N G 16 (fun _ => 0)), (pq, x_Q G 32 (fun j => some (pa j)))] ++ x_pl G pa ba cap (mx (i + 1) (fun _ => 0) len) pb) (by rw [mx_up rfl])
              refine x_inc E 1 (lv' := [(1, .int (nI (i + 1))), (0, .ref h0)]) d_Ge_reset_46 hl (k := 0) rfl rfl (by decide) rfl (fun ls hl => ?_)
              refine lv_goto (tgt := 30) E.1 E.2.1 d_Ge_reset_49 (by decide) ?_
              exact ih30  (i + 1) (by omega) (by omega) _ _ _ B (lv_sub hl [0, 1] rfl)
        have B := B.eq ([(h0, .inr (3, [.ref kq, .ref cq, .ref pq, .int (nI rs), .int ck, .int lt, .ref dq, .ref e0, .ref rq, .ref tq])), (kq, x_N G 16 (fun _ => 0)), (cq, x_N G 16 (fun _ => 0)), (pq, x_Q G 32 (fun j => some (pa j)))] ++ x_pl G pa ba cap (mx 0 (fun _ => 0) len) pb) (by rw [show mx 0 (fun _ => 0) len = len from funext (mx_0 _ _)])
        exact hL30 (33) 0 (by omega) (by omega) _ _ _ B (lv_sub hl [0, 1] rfl)
      · refine lv_aload_n E.1 E.2.1 d_Ge_reset_8 rfl (lv_at hl 1 rfl) ?_
        refine x_get E B 0 rfl k_Ge 0 (by decide) wd_109 rfl d_Ge_reset_9 ?_
        refine lv_iload_n E.1 E.2.1 d_Ge_reset_12 rfl (lv_at hl 0 rfl) ?_
        refine lv_iconst (v := nI 0) E.1 E.2.1 d_Ge_reset_13 (by decide) ?_
        refine x_astN E B 1 rfl (i := i) (v := 0) (by omega) (by decide) d_Ge_reset_14 (fun H locs B => ?_)
        have B : xB G A s _ _ ([(h0, .inr (3, [.ref kq, .ref cq, .ref pq, .int (nI rs), .int ck, .int lt, .ref dq, .ref e0, .ref rq, .ref tq])), (kq, x_N G 16 (va_up (mx i (fun _ => 0) key) i 0)), (cq, x_N G 16 (mx i (fun _ => 0) ctr)), (pq, x_Q G 32 (fun j => some (pa j)))] ++ x_pl G pa ba cap len pb) := B
        have B := B.fn 1 rfl (nA (mx (i + 1) (fun _ => 0) key)) (mx_fn rfl)
        have B : xB G A s _ _ ([(h0, .inr (3, [.ref kq, .ref cq, .ref pq, .int (nI rs), .int ck, .int lt, .ref dq, .ref e0, .ref rq, .ref tq])), (kq, x_N G 16 (mx (i + 1) (fun _ => 0) key)), (cq, x_N G 16 (mx i (fun _ => 0) ctr)), (pq, x_Q G 32 (fun j => some (pa j)))] ++ x_pl G pa ba cap len pb) := B
        refine lv_aload_n E.1 E.2.1 d_Ge_reset_15 rfl (lv_at hl 1 rfl) ?_
        refine x_get E B 0 rfl k_Ge 1 (by decide) wd_111 rfl d_Ge_reset_16 ?_
        refine lv_iload_n E.1 E.2.1 d_Ge_reset_19 rfl (lv_at hl 0 rfl) ?_
        refine lv_iconst (v := nI 0) E.1 E.2.1 d_Ge_reset_20 (by decide) ?_
        refine x_astN E B 2 rfl (i := i) (v := 0) (by omega) (by decide) d_Ge_reset_21 (fun H locs B => ?_)
        have B : xB G A s _ _ ([(h0, .inr (3, [.ref kq, .ref cq, .ref pq, .int (nI rs), .int ck, .int lt, .ref dq, .ref e0, .ref rq, .ref tq])), (kq, x_N G 16 (mx (i + 1) (fun _ => 0) key)), (cq, x_N G 16 (va_up (mx i (fun _ => 0) ctr) i 0)), (pq, x_Q G 32 (fun j => some (pa j)))] ++ x_pl G pa ba cap len pb) := B
        have B := B.fn 2 rfl (nA (mx (i + 1) (fun _ => 0) ctr)) (mx_fn rfl)
        have B : xB G A s _ _ ([(h0, .inr (3, [.ref kq, .ref cq, .ref pq, .int (nI rs), .int ck, .int lt, .ref dq, .ref e0, .ref rq, .ref tq])), (kq, x_N G 16 (mx (i + 1) (fun _ => 0) key)), (cq, x_N G 16 (mx (i + 1) (fun _ => 0) ctr)), (pq, x_Q G 32 (fun j => some (pa j)))] ++ x_pl G pa ba cap len pb) := B
        refine x_inc E 1 (lv' := [(1, .int (nI (i + 1))), (0, .ref h0)]) d_Ge_reset_22 hl (k := 0) rfl rfl (by decide) rfl (fun ls hl => ?_)
        refine lv_goto (tgt := 2) E.1 E.2.1 d_Ge_reset_25 (by decide) ?_
        exact ih2  (i + 1) (by omega) (by omega) _ _ _ B (lv_sub hl [0, 1] rfl)
  have B := B.fn 1 rfl (nA (mx 0 (fun _ => 0) key)) (mx_z _ _)
  have B : xB G A s _ _ ([(h0, .inr (3, [.ref kq, .ref cq, .ref pq, .int (nI rs), .int ck, .int lt, .ref dq, .ref e0, .ref rq, .ref tq])), (kq, x_N G 16 (mx 0 (fun _ => 0) key)), (cq, x_N G 16 ctr), (pq, x_Q G 32 (fun j => some (pa j)))] ++ x_pl G pa ba cap len pb) := B
  have B := B.fn 2 rfl (nA (mx 0 (fun _ => 0) ctr)) (mx_z _ _)
  have B : xB G A s _ _ ([(h0, .inr (3, [.ref kq, .ref cq, .ref pq, .int (nI rs), .int ck, .int lt, .ref dq, .ref e0, .ref rq, .ref tq])), (kq, x_N G 16 (mx 0 (fun _ => 0) key)), (cq, x_N G 16 (mx 0 (fun _ => 0) ctr)), (pq, x_Q G 32 (fun j => some (pa j)))] ++ x_pl G pa ba cap len pb) := B
  exact hL2 (17) 0 (by omega) (by omega) _ _ _ B (lv_sub hl [0, 1] rfl)
