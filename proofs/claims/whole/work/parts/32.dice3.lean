set_option maxHeartbeats 4000000 in
set_option maxRecDepth 100000 in
theorem q_Pd_load_0 (G : xG) (l : Launch) (h0 gq kd vq sq gc : Nat) (bq : Nat) (wr tc : Int32) (dk : Nat → Nat) (hd : g_bt 129 dk) (hpl : d_pl dk = 0) : xMr G l y_Pd_load c_Pd_load 2 .int ({ frames := 1, cells := 0, slots := 0, locals := 20 }) [.ref h0] [] [(h0, .inr (5, [.ref gq, .ref kd, .ref vq, .int (nI gc), .ref sq])), (kd, .inr (2, [.ref bq, .int wr, .int tc])), (bq, x_N G 129 dk)] (nI 1) := by
  refine xMr.by r_Pd (by decide +kernel) (Nat.le_of_ble_eq_true rfl) rfl ?_
  intro p e s m args below meth c A ls Q E B hro hl hret
  have hl : lv_has ls 2 [(0, .ref h0)] := hl
  refine lv_aload_n E.1 E.2.1 d_Pd_load_0 rfl (lv_at hl 0 rfl) ?_
  refine x_get E B 0 rfl k_Pd 1 (by decide) wd_166 rfl d_Pd_load_1 ?_
  refine x_cf (x_rV (rest := []) E B (q_Dk_seedPlace G l kd bq wr tc dk (hd) _) (x_pre B [1, 2] rfl (by decide) x_ro0) 1 rfl k_Dk (gg_V wd_350 wd_351 wd_352 wd_39 wd_353) ⟨rfl, p_Dk_seedPlace⟩ rfl rfl ⟨Nat.le_of_ble_eq_true rfl, Nat.le_of_ble_eq_true rfl⟩ rfl hl.1 rfl (Nat.le_of_ble_eq_true rfl) d_Pd_load_4 ⟨Nat.le_of_ble_eq_true rfl, Nat.le_of_ble_eq_true rfl⟩) ?_
  refine x_top (show nI (d_pl dk) = nI 0 from congrArg nI (by exact hpl)) ?_
  refine lv_istore_n (lv' := [(1, .int (nI 0)), (0, .ref h0)]) E.1 E.2.1 d_Pd_load_7 rfl hl (by decide) rfl (fun ls hl => ?_)
  refine lv_iload_n E.1 E.2.1 d_Pd_load_8 rfl (lv_at hl 0 rfl) ?_
  refine x_ifn (tgt := 14) E d_Pd_load_9 (by decide) (by omega) (fun c1 => ?_) (fun c1 => ?_)
  · exfalso; omega
  · refine lv_iconst (v := nI 1) E.1 E.2.1 d_Pd_load_12 (by decide) ?_
    exact hret _ _ _ (rfl) d_Pd_load_13
set_option maxHeartbeats 4000000 in
set_option maxRecDepth 100000 in
theorem q_Pd_load_y (G : xG) (l : Launch) (h0 gq kd vq sq gc : Nat) (kq cq pq dq e0 rq tq rs : Nat) (ck lt : Int32) (d1 d2 d3 : Nat) (Hf w0 : Nat → Int32) (go : Nat → Nat) (e1 e2 e3 : Nat) (k0 s0 v0 : Nat → Nat) (bq : Nat) (wr tc : Int32) (nb c6 : Nat) (key ctr rr tt dk nsd : Nat → Nat) (pa ba cap len : Nat → Nat) (pb : Nat → Nat → Nat) (hnb : nb = 4) (hc6 : c6 = 64) (hk : g_bt 16 key) (hb : g_bt 16 ctr) (hd : g_bt 129 dk) (hok : d_n tc = 65) (hpl : ¬ d_pl dk = 0) : xMi G l y_Pd_load c_Pd_load 2 .int ({ frames := 6, cells := 0, slots := 0, locals := 152 }) [.ref h0] [] ([(h0, .inr (5, [.ref gq, .ref kd, .ref vq, .int (nI gc), .ref sq])), (gq, .inr (3, [.ref kq, .ref cq, .ref pq, .int (nI rs), .int ck, .int lt, .ref dq, .ref e0, .ref rq, .ref tq])), (kq, x_N G 16 key), (cq, x_N G 16 ctr), (pq, x_Q G 32 (fun j => some (pa j))), (dq, .inr (1, [.ref d1, .ref d2, .ref d3])), (d1, x_I G 8 Hf), (d2, x_I G 64 w0), (d3, x_N G 32 go), (e0, .inr (0, [.ref e1, .ref e2, .ref e3])), (e1, x_N G 176 k0), (e2, x_N G 16 s0), (e3, x_N G 16 v0), (rq, x_N G 1040 rr), (tq, x_N G 32 tt), (kd, .inr (2, [.ref bq, .int wr, .int tc])), (bq, x_N G 129 dk), (sq, x_N G 64 nsd)] ++ x_pl G pa ba cap len pb) ((Nat → Int32) × (Nat → Int32) × (Nat → Nat) × (Nat → Nat)) (fun r _ => r = nI 0) (fun u => [(h0, .inr (5, [.ref gq, .ref kd, .ref vq, .int (nI gc), .ref sq])), (gq, .inr (3, [.ref kq, .ref cq, .ref pq, .int (nI rs), .int ck, .int lt, .ref dq, .ref e0, .ref rq, .ref tq])), (kq, x_N G 16 (g_key (h_tw (va_cpy key (va_cpy dk rr (d_pl dk) 16 c6) 0 0 16) (16 + c6)) (g_ct ctr) nb)), (cq, x_N G 16 (g_cts (g_ct ctr) (nb + 1))), (pq, x_Q G 32 (fun j => some (pa j))), (dq, .inr (1, [.ref d1, .ref d2, .ref d3])), (d1, x_I G 8 u.1), (d2, x_I G 64 u.2.1), (d3, x_N G 32 (h_dg (va_cpy key (va_cpy dk rr (d_pl dk) 16 c6) 0 0 16) (16 + c6))), (e0, .inr (0, [.ref e1, .ref e2, .ref e3])), (e1, x_N G 176 (g_sch (h_tw (va_cpy key (va_cpy dk rr (d_pl dk) 16 c6) 0 0 16) (16 + c6)))), (e2, x_N G 16 u.2.2.1), (e3, x_N G 16 u.2.2.2), (rq, x_N G 1040 (va_cpy key (va_cpy dk rr (d_pl dk) 16 c6) 0 0 16)), (tq, x_N G 32 (h_tw (va_cpy key (va_cpy dk rr (d_pl dk) 16 c6) 0 0 16) (16 + c6))), (kd, .inr (2, [.ref bq, .int (wr + nI (d_n tc)), .int (d_te tc)])), (bq, x_N G 129 (d_dk dk (g_gen (g_sch (h_tw (va_cpy key (va_cpy dk rr (d_pl dk) 16 c6) 0 0 16) (16 + c6))) (g_ct ctr) nsd nb) (d_n tc))), (sq, x_N G 64 (g_gen (g_sch (h_tw (va_cpy key (va_cpy dk rr (d_pl dk) 16 c6) 0 0 16) (16 + c6))) (g_ct ctr) nsd nb))] ++ x_pl G pa ba cap len pb) 0 0 := by
  refine xMi.by r_Pd (by decide +kernel) (Nat.le_of_ble_eq_true rfl) rfl ?_
  intro p e s m args below meth c A ls Q E B hro hl hret
  have hl : lv_has ls 2 [(0, .ref h0)] := hl
  have hple : d_pl dk ≤ 65 := by unfold d_pl; split <;> (try split) <;> omega
  refine lv_aload_n E.1 E.2.1 d_Pd_load_0 rfl (lv_at hl 0 rfl) ?_
  refine x_get E B 0 rfl k_Pd 1 (by decide) wd_166 rfl d_Pd_load_1 ?_
  refine x_cf (x_rV (rest := []) E B (q_Dk_seedPlace G l kd bq wr tc dk (hd) _) (x_pre B [15, 16] rfl (by decide) x_ro0) 15 rfl k_Dk (gg_V wd_350 wd_351 wd_352 wd_39 wd_353) ⟨rfl, p_Dk_seedPlace⟩ rfl rfl ⟨Nat.le_of_ble_eq_true rfl, Nat.le_of_ble_eq_true rfl⟩ rfl hl.1 rfl (Nat.le_of_ble_eq_true rfl) d_Pd_load_4 ⟨Nat.le_of_ble_eq_true rfl, Nat.le_of_ble_eq_true rfl⟩) ?_
  refine lv_istore_n (lv' := [(1, .int (nI (d_pl dk))), (0, .ref h0)]) E.1 E.2.1 d_Pd_load_7 rfl hl (by decide) rfl (fun ls hl => ?_)
  refine lv_iload_n E.1 E.2.1 d_Pd_load_8 rfl (lv_at hl 0 rfl) ?_
  refine x_ifn (tgt := 14) E d_Pd_load_9 (by decide) (by omega) (fun hz => ?_) (fun hz => ?_)
  · refine lv_aload_n E.1 E.2.1 d_Pd_load_14 rfl (lv_at hl 1 rfl) ?_
    refine x_get E B 0 rfl k_Pd 0 (by decide) wd_165 rfl d_Pd_load_15 ?_
    refine lv_aload_n E.1 E.2.1 d_Pd_load_18 rfl (lv_at hl 1 rfl) ?_
    refine x_get E B 0 rfl k_Pd 1 (by decide) wd_166 rfl d_Pd_load_19 ?_
    refine x_get E B 15 rfl k_Dk 0 (by decide) wd_153 rfl d_Pd_load_22 ?_
    refine lv_iload_n E.1 E.2.1 d_Pd_load_25 rfl (lv_at hl 0 rfl) ?_
    refine lv_bipush (v := nI 64) E.1 E.2.1 d_Pd_load_26 (by decide) ?_
    refine x_top (show nI 64 = nI c6 from congrArg nI (by omega)) ?_
    refine x_cvX (X' := fun u => [(h0, .inr (5, [.ref gq, .ref kd, .ref vq, .int (nI gc), .ref sq])), (gq, .inr (3, [.ref kq, .ref cq, .ref pq, .int (nI rs), .int ck, .int lt, .ref dq, .ref e0, .ref rq, .ref tq])), (kq, x_N G 16 (h_tw (va_cpy key (va_cpy dk rr (d_pl dk) 16 c6) 0 0 16) (16 + c6))), (cq, x_N G 16 (g_ct ctr)), (pq, x_Q G 32 (fun j => some (pa j))), (dq, .inr (1, [.ref d1, .ref d2, .ref d3])), (d1, x_I G 8 u.1), (d2, x_I G 64 u.2), (d3, x_N G 32 (h_dg (va_cpy key (va_cpy dk rr (d_pl dk) 16 c6) 0 0 16) (16 + c6))), (e0, .inr (0, [.ref e1, .ref e2, .ref e3])), (e1, x_N G 176 k0), (e2, x_N G 16 s0), (e3, x_N G 16 v0), (rq, x_N G 1040 (va_cpy key (va_cpy dk rr (d_pl dk) 16 c6) 0 0 16)), (tq, x_N G 32 (h_tw (va_cpy key (va_cpy dk rr (d_pl dk) 16 c6) 0 0 16) (16 + c6))), (kd, .inr (2, [.ref bq, .int wr, .int tc])), (bq, x_N G 129 dk), (sq, x_N G 64 nsd)]) 18 B (x_rV (rest := []) E B (q_Ge_reseedWith G l gq kq cq pq dq e0 rq tq rs ck lt d1 d2 d3 Hf w0 go bq 129 (d_pl dk) c6 key ctr rr tt dk (by omega) (by omega) (by omega) (hk) (fun j hj => hd _ (by omega)) (hb) _) (x_pre B [1, 2, 3, 5, 6, 7, 8, 13, 14] rfl (by decide) (x_ro1 (x_ro_w B 16 rfl [1, 2, 3, 5, 6, 7, 8, 13, 14] rfl (by decide)))) 1 rfl k_Ge (gg_V wd_354 wd_355 wd_356 wd_35 wd_357) ⟨rfl, p_Ge_reseedWith⟩ rfl rfl ⟨Nat.le_of_ble_eq_true rfl, Nat.le_of_ble_eq_true rfl⟩ rfl hl.1 rfl (Nat.le_of_ble_eq_true rfl) d_Pd_load_28 ⟨Nat.le_of_ble_eq_true rfl, Nat.le_of_ble_eq_true rfl⟩) [1, 2, 3, 5, 6, 7, 8, 13, 14] [0, 4, 9, 10, 11, 12, 15, 16, 17] rfl rfl (fun _ => rfl) rfl (by decide) (fun _ => rfl) (fun _ => rfl) (fun _ => rfl) (by decide) (fun u28 H locs hw28 B => ?_)
    have B : xB G A s _ _ ([(h0, .inr (5, [.ref gq, .ref kd, .ref vq, .int (nI gc), .ref sq])), (gq, .inr (3, [.ref kq, .ref cq, .ref pq, .int (nI rs), .int ck, .int lt, .ref dq, .ref e0, .ref rq, .ref tq])), (kq, x_N G 16 (h_tw (va_cpy key (va_cpy dk rr (d_pl dk) 16 c6) 0 0 16) (16 + c6))), (cq, x_N G 16 (g_ct ctr)), (pq, x_Q G 32 (fun j => some (pa j))), (dq, .inr (1, [.ref d1, .ref d2, .ref d3])), (d1, x_I G 8 u28.1), (d2, x_I G 64 u28.2), (d3, x_N G 32 (h_dg (va_cpy key (va_cpy dk rr (d_pl dk) 16 c6) 0 0 16) (16 + c6))), (e0, .inr (0, [.ref e1, .ref e2, .ref e3])), (e1, x_N G 176 k0), (e2, x_N G 16 s0), (e3, x_N G 16 v0), (rq, x_N G 1040 (va_cpy key (va_cpy dk rr (d_pl dk) 16 c6) 0 0 16)), (tq, x_N G 32 (h_tw (va_cpy key (va_cpy dk rr (d_pl dk) 16 c6) 0 0 16) (16 + c6))), (kd, .inr (2, [.ref bq, .int wr, .int tc])), (bq, x_N G 129 dk), (sq, x_N G 64 nsd)] ++ x_pl G pa ba cap len pb) := B
    refine lv_aload_n E.1 E.2.1 d_Pd_load_31 rfl (lv_at hl 1 rfl) ?_
    refine x_ciP (X' := fun u => [(h0, .inr (5, [.ref gq, .ref kd, .ref vq, .int (nI gc), .ref sq])), (gq, .inr (3, [.ref kq, .ref cq, .ref pq, .int (nI rs), .int ck, .int lt, .ref dq, .ref e0, .ref rq, .ref tq])), (kq, x_N G 16 (g_key (h_tw (va_cpy key (va_cpy dk rr (d_pl dk) 16 c6) 0 0 16) (16 + c6)) (g_ct ctr) nb)), (cq, x_N G 16 (g_cts (g_ct ctr) (nb + 1))), (pq, x_Q G 32 (fun j => some (pa j))), (dq, .inr (1, [.ref d1, .ref d2, .ref d3])), (d1, x_I G 8 u28.1), (d2, x_I G 64 u28.2), (d3, x_N G 32 (h_dg (va_cpy key (va_cpy dk rr (d_pl dk) 16 c6) 0 0 16) (16 + c6))), (e0, .inr (0, [.ref e1, .ref e2, .ref e3])), (e1, x_N G 176 (g_sch (h_tw (va_cpy key (va_cpy dk rr (d_pl dk) 16 c6) 0 0 16) (16 + c6)))), (e2, x_N G 16 u.1), (e3, x_N G 16 u.2), (rq, x_N G 1040 (va_cpy key (va_cpy dk rr (d_pl dk) 16 c6) 0 0 16)), (tq, x_N G 32 (h_tw (va_cpy key (va_cpy dk rr (d_pl dk) 16 c6) 0 0 16) (16 + c6))), (kd, .inr (2, [.ref bq, .int (wr + nI (d_n tc)), .int (d_te tc)])), (bq, x_N G 129 (d_dk dk (g_gen (g_sch (h_tw (va_cpy key (va_cpy dk rr (d_pl dk) 16 c6) 0 0 16) (16 + c6))) (g_ct ctr) nsd nb) (d_n tc))), (sq, x_N G 64 (g_gen (g_sch (h_tw (va_cpy key (va_cpy dk rr (d_pl dk) 16 c6) 0 0 16) (16 + c6))) (g_ct ctr) nsd nb))]) (pl1 := fun u => x_pl G pa ba cap len pb) (wr := [(dq, .inr (1, [.ref d1, .ref d2, .ref d3])), (d1, x_I G 8 u28.1), (d2, x_I G 64 u28.2), (d3, x_N G 32 (h_dg (va_cpy key (va_cpy dk rr (d_pl dk) 16 c6) 0 0 16) (16 + c6))), (rq, x_N G 1040 (va_cpy key (va_cpy dk rr (d_pl dk) 16 c6) 0 0 16)), (tq, x_N G 32 (h_tw (va_cpy key (va_cpy dk rr (d_pl dk) 16 c6) 0 0 16) (16 + c6)))]) B (x_rV (rest := []) E B (q_Pd_saveNewSeed_y G l h0 gq kd vq sq gc kq cq pq dq e0 rq tq rs ck lt e1 e2 e3 k0 s0 v0 bq wr tc nb (h_tw (va_cpy key (va_cpy dk rr (d_pl dk) 16 c6) 0 0 16) (16 + c6)) (g_ct ctr) dk nsd pa ba cap len pb (hnb) (fun j _ => h_tw_lt _ _ j) (g_ct_bt hb) (hd) (hok) _) (x_preP B [0, 1, 2, 3, 4, 9, 10, 11, 12, 15, 16, 17] rfl (by decide) x_ro0) 0 rfl k_Pd (gg_V wd_334 wd_336 wd_13 wd_34 wd_337) ⟨rfl, p_Pd_saveNewSeed⟩ rfl rfl ⟨Nat.le_of_ble_eq_true rfl, Nat.le_of_ble_eq_true rfl⟩ rfl hl.1 rfl (Nat.le_of_ble_eq_true rfl) d_Pd_load_32 ⟨Nat.le_of_ble_eq_true rfl, Nat.le_of_ble_eq_true rfl⟩) [0, 1, 2, 3, 4, 9, 10, 11, 12, 15, 16, 17] [5, 6, 7, 8, 13, 14] [6, 7, 8, 9, 10, 0, 1, 2, 3, 11, 12, 13, 14, 4, 5, 15, 16, 17] rfl rfl (by decide) (by decide) (by decide) (fun _ => rfl) (fun r32 u32 H locs hw32 B => ?_)
    subst hw32
    have B : xB G A s _ _ ([(h0, .inr (5, [.ref gq, .ref kd, .ref vq, .int (nI gc), .ref sq])), (gq, .inr (3, [.ref kq, .ref cq, .ref pq, .int (nI rs), .int ck, .int lt, .ref dq, .ref e0, .ref rq, .ref tq])), (kq, x_N G 16 (g_key (h_tw (va_cpy key (va_cpy dk rr (d_pl dk) 16 c6) 0 0 16) (16 + c6)) (g_ct ctr) nb)), (cq, x_N G 16 (g_cts (g_ct ctr) (nb + 1))), (pq, x_Q G 32 (fun j => some (pa j))), (dq, .inr (1, [.ref d1, .ref d2, .ref d3])), (d1, x_I G 8 u28.1), (d2, x_I G 64 u28.2), (d3, x_N G 32 (h_dg (va_cpy key (va_cpy dk rr (d_pl dk) 16 c6) 0 0 16) (16 + c6))), (e0, .inr (0, [.ref e1, .ref e2, .ref e3])), (e1, x_N G 176 (g_sch (h_tw (va_cpy key (va_cpy dk rr (d_pl dk) 16 c6) 0 0 16) (16 + c6)))), (e2, x_N G 16 u32.1), (e3, x_N G 16 u32.2), (rq, x_N G 1040 (va_cpy key (va_cpy dk rr (d_pl dk) 16 c6) 0 0 16)), (tq, x_N G 32 (h_tw (va_cpy key (va_cpy dk rr (d_pl dk) 16 c6) 0 0 16) (16 + c6))), (kd, .inr (2, [.ref bq, .int (wr + nI (d_n tc)), .int (d_te tc)])), (bq, x_N G 129 (d_dk dk (g_gen (g_sch (h_tw (va_cpy key (va_cpy dk rr (d_pl dk) 16 c6) 0 0 16) (16 + c6))) (g_ct ctr) nsd nb) (d_n tc))), (sq, x_N G 64 (g_gen (g_sch (h_tw (va_cpy key (va_cpy dk rr (d_pl dk) 16 c6) 0 0 16) (16 + c6))) (g_ct ctr) nsd nb))] ++ x_pl G pa ba cap len pb) := B
    exact hret _ (u28.1, u28.2, u32.1, u32.2) _ _ _ _ B (rfl) d_Pd_load_35
  · exfalso; omega
set_option maxHeartbeats 4000000 in
set_option maxRecDepth 100000 in
theorem q_Pd_load_n (G : xG) (l : Launch) (h0 gq kd vq sq gc : Nat) (kq cq pq dq e0 rq tq rs : Nat) (ck lt : Int32) (d1 d2 d3 : Nat) (Hf w0 : Nat → Int32) (go : Nat → Nat) (e1 e2 e3 : Nat) (k0 s0 v0 : Nat → Nat) (bq : Nat) (wr tc : Int32) (nb c6 : Nat) (key ctr rr tt dk nsd : Nat → Nat) (pa ba cap len : Nat → Nat) (pb : Nat → Nat → Nat) (hnb : nb = 4) (hc6 : c6 = 64) (hk : g_bt 16 key) (hb : g_bt 16 ctr) (hd : g_bt 129 dk) (hok : ¬ d_n tc = 65) (hpl : ¬ d_pl dk = 0) : xMi G l y_Pd_load c_Pd_load 2 .int ({ frames := 6, cells := 0, slots := 0, locals := 152 }) [.ref h0] [] ([(h0, .inr (5, [.ref gq, .ref kd, .ref vq, .int (nI gc), .ref sq])), (gq, .inr (3, [.ref kq, .ref cq, .ref pq, .int (nI rs), .int ck, .int lt, .ref dq, .ref e0, .ref rq, .ref tq])), (kq, x_N G 16 key), (cq, x_N G 16 ctr), (pq, x_Q G 32 (fun j => some (pa j))), (dq, .inr (1, [.ref d1, .ref d2, .ref d3])), (d1, x_I G 8 Hf), (d2, x_I G 64 w0), (d3, x_N G 32 go), (e0, .inr (0, [.ref e1, .ref e2, .ref e3])), (e1, x_N G 176 k0), (e2, x_N G 16 s0), (e3, x_N G 16 v0), (rq, x_N G 1040 rr), (tq, x_N G 32 tt), (kd, .inr (2, [.ref bq, .int wr, .int tc])), (bq, x_N G 129 dk), (sq, x_N G 64 nsd)] ++ x_pl G pa ba cap len pb) ((Nat → Int32) × (Nat → Int32) × (Nat → Nat) × (Nat → Nat)) (fun r _ => r = nI 5) (fun u => [(h0, .inr (5, [.ref gq, .ref kd, .ref vq, .int (nI 0), .ref sq])), (gq, .inr (3, [.ref kq, .ref cq, .ref pq, .int (nI 0), .int (nI 0), .int (-1), .ref dq, .ref e0, .ref rq, .ref tq])), (kq, x_N G 16 (fun _ => 0)), (cq, x_N G 16 (fun _ => 0)), (pq, x_Q G 32 (fun j => some (pa j))), (dq, .inr (1, [.ref d1, .ref d2, .ref d3])), (d1, x_I G 8 u.1), (d2, x_I G 64 u.2.1), (d3, x_N G 32 (h_dg (va_cpy key (va_cpy dk rr (d_pl dk) 16 c6) 0 0 16) (16 + c6))), (e0, .inr (0, [.ref e1, .ref e2, .ref e3])), (e1, x_N G 176 (g_sch (h_tw (va_cpy key (va_cpy dk rr (d_pl dk) 16 c6) 0 0 16) (16 + c6)))), (e2, x_N G 16 u.2.2.1), (e3, x_N G 16 u.2.2.2), (rq, x_N G 1040 (va_cpy key (va_cpy dk rr (d_pl dk) 16 c6) 0 0 16)), (tq, x_N G 32 (h_tw (va_cpy key (va_cpy dk rr (d_pl dk) 16 c6) 0 0 16) (16 + c6))), (kd, .inr (2, [.ref bq, .int (wr + nI (d_n tc)), .int (d_te tc)])), (bq, x_N G 129 (d_dk dk (g_gen (g_sch (h_tw (va_cpy key (va_cpy dk rr (d_pl dk) 16 c6) 0 0 16) (16 + c6))) (g_ct ctr) nsd nb) (d_n tc))), (sq, x_N G 64 (g_gen (g_sch (h_tw (va_cpy key (va_cpy dk rr (d_pl dk) 16 c6) 0 0 16) (16 + c6))) (g_ct ctr) nsd nb))] ++ x_pl G pa ba cap (fun _ => 0) pb) 0 0 := by
  refine xMi.by r_Pd (by decide +kernel) (Nat.le_of_ble_eq_true rfl) rfl ?_
  intro p e s m args below meth c A ls Q E B hro hl hret
  have hl : lv_has ls 2 [(0, .ref h0)] := hl
  have hple : d_pl dk ≤ 65 := by unfold d_pl; split <;> (try split) <;> omega
  refine lv_aload_n E.1 E.2.1 d_Pd_load_0 rfl (lv_at hl 0 rfl) ?_
  refine x_get E B 0 rfl k_Pd 1 (by decide) wd_166 rfl d_Pd_load_1 ?_
  refine x_cf (x_rV (rest := []) E B (q_Dk_seedPlace G l kd bq wr tc dk (hd) _) (x_pre B [15, 16] rfl (by decide) x_ro0) 15 rfl k_Dk (gg_V wd_350 wd_351 wd_352 wd_39 wd_353) ⟨rfl, p_Dk_seedPlace⟩ rfl rfl ⟨Nat.le_of_ble_eq_true rfl, Nat.le_of_ble_eq_true rfl⟩ rfl hl.1 rfl (Nat.le_of_ble_eq_true rfl) d_Pd_load_4 ⟨Nat.le_of_ble_eq_true rfl, Nat.le_of_ble_eq_true rfl⟩) ?_
  refine lv_istore_n (lv' := [(1, .int (nI (d_pl dk))), (0, .ref h0)]) E.1 E.2.1 d_Pd_load_7 rfl hl (by decide) rfl (fun ls hl => ?_)
  refine lv_iload_n E.1 E.2.1 d_Pd_load_8 rfl (lv_at hl 0 rfl) ?_
  refine x_ifn (tgt := 14) E d_Pd_load_9 (by decide) (by omega) (fun hz => ?_) (fun hz => ?_)
  · refine lv_aload_n E.1 E.2.1 d_Pd_load_14 rfl (lv_at hl 1 rfl) ?_
    refine x_get E B 0 rfl k_Pd 0 (by decide) wd_165 rfl d_Pd_load_15 ?_
    refine lv_aload_n E.1 E.2.1 d_Pd_load_18 rfl (lv_at hl 1 rfl) ?_
    refine x_get E B 0 rfl k_Pd 1 (by decide) wd_166 rfl d_Pd_load_19 ?_
    refine x_get E B 15 rfl k_Dk 0 (by decide) wd_153 rfl d_Pd_load_22 ?_
    refine lv_iload_n E.1 E.2.1 d_Pd_load_25 rfl (lv_at hl 0 rfl) ?_
    refine lv_bipush (v := nI 64) E.1 E.2.1 d_Pd_load_26 (by decide) ?_
    refine x_top (show nI 64 = nI c6 from congrArg nI (by omega)) ?_
    refine x_cvX (X' := fun u => [(h0, .inr (5, [.ref gq, .ref kd, .ref vq, .int (nI gc), .ref sq])), (gq, .inr (3, [.ref kq, .ref cq, .ref pq, .int (nI rs), .int ck, .int lt, .ref dq, .ref e0, .ref rq, .ref tq])), (kq, x_N G 16 (h_tw (va_cpy key (va_cpy dk rr (d_pl dk) 16 c6) 0 0 16) (16 + c6))), (cq, x_N G 16 (g_ct ctr)), (pq, x_Q G 32 (fun j => some (pa j))), (dq, .inr (1, [.ref d1, .ref d2, .ref d3])), (d1, x_I G 8 u.1), (d2, x_I G 64 u.2), (d3, x_N G 32 (h_dg (va_cpy key (va_cpy dk rr (d_pl dk) 16 c6) 0 0 16) (16 + c6))), (e0, .inr (0, [.ref e1, .ref e2, .ref e3])), (e1, x_N G 176 k0), (e2, x_N G 16 s0), (e3, x_N G 16 v0), (rq, x_N G 1040 (va_cpy key (va_cpy dk rr (d_pl dk) 16 c6) 0 0 16)), (tq, x_N G 32 (h_tw (va_cpy key (va_cpy dk rr (d_pl dk) 16 c6) 0 0 16) (16 + c6))), (kd, .inr (2, [.ref bq, .int wr, .int tc])), (bq, x_N G 129 dk), (sq, x_N G 64 nsd)]) 18 B (x_rV (rest := []) E B (q_Ge_reseedWith G l gq kq cq pq dq e0 rq tq rs ck lt d1 d2 d3 Hf w0 go bq 129 (d_pl dk) c6 key ctr rr tt dk (by omega) (by omega) (by omega) (hk) (fun j hj => hd _ (by omega)) (hb) _) (x_pre B [1, 2, 3, 5, 6, 7, 8, 13, 14] rfl (by decide) (x_ro1 (x_ro_w B 16 rfl [1, 2, 3, 5, 6, 7, 8, 13, 14] rfl (by decide)))) 1 rfl k_Ge (gg_V wd_354 wd_355 wd_356 wd_35 wd_357) ⟨rfl, p_Ge_reseedWith⟩ rfl rfl ⟨Nat.le_of_ble_eq_true rfl, Nat.le_of_ble_eq_true rfl⟩ rfl hl.1 rfl (Nat.le_of_ble_eq_true rfl) d_Pd_load_28 ⟨Nat.le_of_ble_eq_true rfl, Nat.le_of_ble_eq_true rfl⟩) [1, 2, 3, 5, 6, 7, 8, 13, 14] [0, 4, 9, 10, 11, 12, 15, 16, 17] rfl rfl (fun _ => rfl) rfl (by decide) (fun _ => rfl) (fun _ => rfl) (fun _ => rfl) (by decide) (fun u28 H locs hw28 B => ?_)
    have B : xB G A s _ _ ([(h0, .inr (5, [.ref gq, .ref kd, .ref vq, .int (nI gc), .ref sq])), (gq, .inr (3, [.ref kq, .ref cq, .ref pq, .int (nI rs), .int ck, .int lt, .ref dq, .ref e0, .ref rq, .ref tq])), (kq, x_N G 16 (h_tw (va_cpy key (va_cpy dk rr (d_pl dk) 16 c6) 0 0 16) (16 + c6))), (cq, x_N G 16 (g_ct ctr)), (pq, x_Q G 32 (fun j => some (pa j))), (dq, .inr (1, [.ref d1, .ref d2, .ref d3])), (d1, x_I G 8 u28.1), (d2, x_I G 64 u28.2), (d3, x_N G 32 (h_dg (va_cpy key (va_cpy dk rr (d_pl dk) 16 c6) 0 0 16) (16 + c6))), (e0, .inr (0, [.ref e1, .ref e2, .ref e3])), (e1, x_N G 176 k0), (e2, x_N G 16 s0), (e3, x_N G 16 v0), (rq, x_N G 1040 (va_cpy key (va_cpy dk rr (d_pl dk) 16 c6) 0 0 16)), (tq, x_N G 32 (h_tw (va_cpy key (va_cpy dk rr (d_pl dk) 16 c6) 0 0 16) (16 + c6))), (kd, .inr (2, [.ref bq, .int wr, .int tc])), (bq, x_N G 129 dk), (sq, x_N G 64 nsd)] ++ x_pl G pa ba cap len pb) := B
    refine lv_aload_n E.1 E.2.1 d_Pd_load_31 rfl (lv_at hl 1 rfl) ?_
    refine x_ciP (X' := fun u => [(h0, .inr (5, [.ref gq, .ref kd, .ref vq, .int (nI 0), .ref sq])), (gq, .inr (3, [.ref kq, .ref cq, .ref pq, .int (nI 0), .int (nI 0), .int (-1), .ref dq, .ref e0, .ref rq, .ref tq])), (kq, x_N G 16 (fun _ => 0)), (cq, x_N G 16 (fun _ => 0)), (pq, x_Q G 32 (fun j => some (pa j))), (dq, .inr (1, [.ref d1, .ref d2, .ref d3])), (d1, x_I G 8 u28.1), (d2, x_I G 64 u28.2), (d3, x_N G 32 (h_dg (va_cpy key (va_cpy dk rr (d_pl dk) 16 c6) 0 0 16) (16 + c6))), (e0, .inr (0, [.ref e1, .ref e2, .ref e3])), (e1, x_N G 176 (g_sch (h_tw (va_cpy key (va_cpy dk rr (d_pl dk) 16 c6) 0 0 16) (16 + c6)))), (e2, x_N G 16 u.1), (e3, x_N G 16 u.2), (rq, x_N G 1040 (va_cpy key (va_cpy dk rr (d_pl dk) 16 c6) 0 0 16)), (tq, x_N G 32 (h_tw (va_cpy key (va_cpy dk rr (d_pl dk) 16 c6) 0 0 16) (16 + c6))), (kd, .inr (2, [.ref bq, .int (wr + nI (d_n tc)), .int (d_te tc)])), (bq, x_N G 129 (d_dk dk (g_gen (g_sch (h_tw (va_cpy key (va_cpy dk rr (d_pl dk) 16 c6) 0 0 16) (16 + c6))) (g_ct ctr) nsd nb) (d_n tc))), (sq, x_N G 64 (g_gen (g_sch (h_tw (va_cpy key (va_cpy dk rr (d_pl dk) 16 c6) 0 0 16) (16 + c6))) (g_ct ctr) nsd nb))]) (pl1 := fun u => x_pl G pa ba cap (fun _ => 0) pb) (wr := [(dq, .inr (1, [.ref d1, .ref d2, .ref d3])), (d1, x_I G 8 u28.1), (d2, x_I G 64 u28.2), (d3, x_N G 32 (h_dg (va_cpy key (va_cpy dk rr (d_pl dk) 16 c6) 0 0 16) (16 + c6))), (rq, x_N G 1040 (va_cpy key (va_cpy dk rr (d_pl dk) 16 c6) 0 0 16)), (tq, x_N G 32 (h_tw (va_cpy key (va_cpy dk rr (d_pl dk) 16 c6) 0 0 16) (16 + c6)))]) B (x_rV (rest := []) E B (q_Pd_saveNewSeed_n G l h0 gq kd vq sq gc kq cq pq dq e0 rq tq rs ck lt e1 e2 e3 k0 s0 v0 bq wr tc nb (h_tw (va_cpy key (va_cpy dk rr (d_pl dk) 16 c6) 0 0 16) (16 + c6)) (g_ct ctr) dk nsd pa ba cap len pb (hnb) (fun j _ => h_tw_lt _ _ j) (g_ct_bt hb) (hd) (hok) _) (x_preP B [0, 1, 2, 3, 4, 9, 10, 11, 12, 15, 16, 17] rfl (by decide) x_ro0) 0 rfl k_Pd (gg_V wd_334 wd_336 wd_13 wd_34 wd_337) ⟨rfl, p_Pd_saveNewSeed⟩ rfl rfl ⟨Nat.le_of_ble_eq_true rfl, Nat.le_of_ble_eq_true rfl⟩ rfl hl.1 rfl (Nat.le_of_ble_eq_true rfl) d_Pd_load_32 ⟨Nat.le_of_ble_eq_true rfl, Nat.le_of_ble_eq_true rfl⟩) [0, 1, 2, 3, 4, 9, 10, 11, 12, 15, 16, 17] [5, 6, 7, 8, 13, 14] [6, 7, 8, 9, 10, 0, 1, 2, 3, 11, 12, 13, 14, 4, 5, 15, 16, 17] rfl rfl (by decide) (by decide) (by decide) (fun _ => rfl) (fun r32 u32 H locs hw32 B => ?_)
    subst hw32
    have B : xB G A s _ _ ([(h0, .inr (5, [.ref gq, .ref kd, .ref vq, .int (nI 0), .ref sq])), (gq, .inr (3, [.ref kq, .ref cq, .ref pq, .int (nI 0), .int (nI 0), .int (-1), .ref dq, .ref e0, .ref rq, .ref tq])), (kq, x_N G 16 (fun _ => 0)), (cq, x_N G 16 (fun _ => 0)), (pq, x_Q G 32 (fun j => some (pa j))), (dq, .inr (1, [.ref d1, .ref d2, .ref d3])), (d1, x_I G 8 u28.1), (d2, x_I G 64 u28.2), (d3, x_N G 32 (h_dg (va_cpy key (va_cpy dk rr (d_pl dk) 16 c6) 0 0 16) (16 + c6))), (e0, .inr (0, [.ref e1, .ref e2, .ref e3])), (e1, x_N G 176 (g_sch (h_tw (va_cpy key (va_cpy dk rr (d_pl dk) 16 c6) 0 0 16) (16 + c6)))), (e2, x_N G 16 u32.1), (e3, x_N G 16 u32.2), (rq, x_N G 1040 (va_cpy key (va_cpy dk rr (d_pl dk) 16 c6) 0 0 16)), (tq, x_N G 32 (h_tw (va_cpy key (va_cpy dk rr (d_pl dk) 16 c6) 0 0 16) (16 + c6))), (kd, .inr (2, [.ref bq, .int (wr + nI (d_n tc)), .int (d_te tc)])), (bq, x_N G 129 (d_dk dk (g_gen (g_sch (h_tw (va_cpy key (va_cpy dk rr (d_pl dk) 16 c6) 0 0 16) (16 + c6))) (g_ct ctr) nsd nb) (d_n tc))), (sq, x_N G 64 (g_gen (g_sch (h_tw (va_cpy key (va_cpy dk rr (d_pl dk) 16 c6) 0 0 16) (16 + c6))) (g_ct ctr) nsd nb))] ++ x_pl G pa ba cap (fun _ => 0) pb) := B
    exact hret _ (u28.1, u28.2, u32.1, u32.2) _ _ _ _ B (rfl) d_Pd_load_35
  · exfalso; omega
set_option maxHeartbeats 4000000 in
set_option maxRecDepth 100000 in
theorem q_Pd_spoil_n (G : xG) (l : Launch) (h0 gq kd vq sq gc : Nat) (bq : Nat) (wr tc : Int32) (x y : Int32) (dk : Nat → Nat) (hv : ¬ (¬ x < 0 ∧ ¬ nI 129 ≤ x ∧ c_by y = 1)) : xMr G l y_Pd_spoil c_Pd_spoil 3 .boolean ({ frames := 1, cells := 0, slots := 0, locals := 20 }) [.ref h0, .int x, .int y] [] [(h0, .inr (5, [.ref gq, .ref kd, .ref vq, .int (nI gc), .ref sq])), (kd, .inr (2, [.ref bq, .int wr, .int tc])), (bq, x_N G 129 dk)] (nI 0) := by
  refine xMrz.by r_Pd (by decide +kernel) (Nat.le_of_ble_eq_true rfl) rfl ?_
  intro p e s m args below meth c A ls Q E B hro hl hret
  have hl : lv_has ls 3 [(0, .ref h0), (1, .int x), (2, .int y)] := hl
  refine lv_iload_n E.1 E.2.1 d_Pd_spoil_0 rfl (lv_at hl 1 rfl) ?_
  refine lv_if_lt (tgt := 23) E.1 E.2.1 d_Pd_spoil_1 (by decide) (fun h1 => ?_) (fun h1 => ?_)
  · refine lv_iconst (v := nI 0) E.1 E.2.1 d_Pd_spoil_23 (by decide) ?_
    exact hret _ _ _ (rfl) rfl d_Pd_spoil_24
  · refine lv_iload_n E.1 E.2.1 d_Pd_spoil_4 rfl (lv_at hl 1 rfl) ?_
    refine lv_aload_n E.1 E.2.1 d_Pd_spoil_5 rfl (lv_at hl 0 rfl) ?_
    refine x_get E B 0 rfl k_Pd 1 (by decide) wd_166 rfl d_Pd_spoil_6 ?_
    refine x_get E B 1 rfl k_Dk 0 (by decide) wd_153 rfl d_Pd_spoil_9 ?_
    refine x_alen E B 2 rfl d_Pd_spoil_12 ?_
    refine lv_icmp_ge (tgt := 23) E.1 E.2.1 d_Pd_spoil_13 (by decide) (fun h2 => ?_) (fun h2 => ?_)
    · refine lv_iconst (v := nI 0) E.1 E.2.1 d_Pd_spoil_23 (by decide) ?_
      exact hret _ _ _ (rfl) rfl d_Pd_spoil_24
    · refine lv_iload_n E.1 E.2.1 d_Pd_spoil_16 rfl (lv_at hl 2 rfl) ?_
      refine x_cf (x_rS (rest := []) E (q_Pd_isByte l y ) x_pf (gg_S wd_201 wd_202 wd_34 wd_203) p_Pd_isByte rfl rfl ⟨Nat.le_of_ble_eq_true rfl, Nat.le_of_ble_eq_true rfl⟩ rfl hl.1 rfl (Nat.le_of_ble_eq_true rfl) d_Pd_spoil_17 ⟨Nat.le_of_ble_eq_true rfl, Nat.le_of_ble_eq_true rfl⟩) ?_
      refine x_ifn (tgt := 25) E d_Pd_spoil_20 (by decide) (by have := c_by_le y; omega) (fun h3 => ?_) (fun h3 => ?_)
      · exfalso; have := c_by_le y; exact hv ⟨h1, h2, by omega⟩
      · refine lv_iconst (v := nI 0) E.1 E.2.1 d_Pd_spoil_23 (by decide) ?_
        exact hret _ _ _ (rfl) rfl d_Pd_spoil_24
set_option maxHeartbeats 4000000 in
set_option maxRecDepth 100000 in
theorem q_Pd_spoil_y (G : xG) (l : Launch) (h0 gq kd vq sq gc : Nat) (bq : Nat) (wr tc : Int32) (i b : Nat) (dk : Nat → Nat) (hi : i < 129) (hb : b < 256) : xMi G l y_Pd_spoil c_Pd_spoil 3 .boolean ({ frames := 1, cells := 0, slots := 0, locals := 20 }) [.ref h0, .int (nI i), .int (nI b)] [] [(h0, .inr (5, [.ref gq, .ref kd, .ref vq, .int (nI gc), .ref sq])), (kd, .inr (2, [.ref bq, .int wr, .int tc])), (bq, x_N G 129 dk)] Unit (fun r _ => r = nI 1) (fun u => [(h0, .inr (5, [.ref gq, .ref kd, .ref vq, .int (nI gc), .ref sq])), (kd, .inr (2, [.ref bq, .int wr, .int tc])), (bq, x_N G 129 (va_up dk i b))]) 0 0 := by
  refine xMz.by r_Pd (by decide +kernel) (Nat.le_of_ble_eq_true rfl) rfl ?_
  intro p e s m args below meth c A ls Q E B hro hl hret
  have hl : lv_has ls 3 [(0, .ref h0), (1, .int (nI i)), (2, .int (nI b))] := hl
  refine lv_iload_n E.1 E.2.1 d_Pd_spoil_0 rfl (lv_at hl 1 rfl) ?_
  refine lv_if_lt (tgt := 23) E.1 E.2.1 d_Pd_spoil_1 (by decide) (fun h1 => ?_) (fun h1 => ?_)
  · exfalso; exact nI_pos (by omega) h1
  · refine lv_iload_n E.1 E.2.1 d_Pd_spoil_4 rfl (lv_at hl 1 rfl) ?_
    refine lv_aload_n E.1 E.2.1 d_Pd_spoil_5 rfl (lv_at hl 0 rfl) ?_
    refine x_get E B 0 rfl k_Pd 1 (by decide) wd_166 rfl d_Pd_spoil_6 ?_
    refine x_get E B 1 rfl k_Dk 0 (by decide) wd_153 rfl d_Pd_spoil_9 ?_
    refine x_alen E B 2 rfl d_Pd_spoil_12 ?_
    refine x_ge (tgt := 23) E d_Pd_spoil_13 (by decide) (by omega) (by omega) (fun c2 => ?_) (fun c2 => ?_)
    · exfalso; omega
    · refine lv_iload_n E.1 E.2.1 d_Pd_spoil_16 rfl (lv_at hl 2 rfl) ?_
      refine x_cf (x_rS (rest := []) E (q_Pd_isByte l (nI b) ) x_pf (gg_S wd_201 wd_202 wd_34 wd_203) p_Pd_isByte rfl rfl ⟨Nat.le_of_ble_eq_true rfl, Nat.le_of_ble_eq_true rfl⟩ rfl hl.1 rfl (Nat.le_of_ble_eq_true rfl) d_Pd_spoil_17 ⟨Nat.le_of_ble_eq_true rfl, Nat.le_of_ble_eq_true rfl⟩) ?_
      refine x_top (show nI (c_by (nI b)) = nI 1 from congrArg nI (by exact c_by_n hb)) ?_
      refine x_ifn (tgt := 25) E d_Pd_spoil_20 (by decide) (by omega) (fun c3 => ?_) (fun c3 => ?_)
      · refine lv_aload_n E.1 E.2.1 d_Pd_spoil_25 rfl (lv_at hl 0 rfl) ?_
        refine x_get E B 0 rfl k_Pd 1 (by decide) wd_166 rfl d_Pd_spoil_26 ?_
        refine x_get E B 1 rfl k_Dk 0 (by decide) wd_153 rfl d_Pd_spoil_29 ?_
        refine lv_iload_n E.1 E.2.1 d_Pd_spoil_32 rfl (lv_at hl 1 rfl) ?_
        refine lv_iload_n E.1 E.2.1 d_Pd_spoil_33 rfl (lv_at hl 2 rfl) ?_
        refine x_astN E B 2 rfl (i := i) (v := b) (by omega) (by decide) d_Pd_spoil_34 (fun H locs B => ?_)
        have B : xB G A s _ _ ([(h0, .inr (5, [.ref gq, .ref kd, .ref vq, .int (nI gc), .ref sq])), (kd, .inr (2, [.ref bq, .int wr, .int tc])), (bq, x_N G 129 (va_up dk i b))]) := B
        refine lv_iconst (v := nI 1) E.1 E.2.1 d_Pd_spoil_35 (by decide) ?_
        exact hret _ () _ _ _ _ B (rfl) rfl d_Pd_spoil_36
      · exfalso; omega
set_option maxHeartbeats 4000000 in
set_option maxRecDepth 100000 in
theorem q_Pd_about_0 (G : xG) (l : Launch) (h0 gq kd vq sq gc : Nat) (kq cq pq dq e0 rq tq rs : Nat) (ck lt : Int32)  : xMr G l y_Pd_about c_Pd_about 2 .int ({ frames := 1, cells := 0, slots := 0, locals := 21 }) [.ref h0, .int (nI 0)] [] [(h0, .inr (5, [.ref gq, .ref kd, .ref vq, .int (nI gc), .ref sq])), (gq, .inr (3, [.ref kq, .ref cq, .ref pq, .int (nI rs), .int ck, .int lt, .ref dq, .ref e0, .ref rq, .ref tq]))] (nI rs) := by
  refine xMr.by r_Pd (by decide +kernel) (Nat.le_of_ble_eq_true rfl) rfl ?_
  intro p e s m args below meth c A ls Q E B hro hl hret
  have hl : lv_has ls 2 [(0, .ref h0), (1, .int (nI 0))] := hl
  refine lv_iload_n E.1 E.2.1 d_Pd_about_0 rfl (lv_at hl 1 rfl) ?_
  refine lv_tableIn (tgt := 40) (off := 39) E.1 E.2.1 d_Pd_about_1 (by decide) (by decide) (by decide) (by decide) ?_
  refine lv_aload_n E.1 E.2.1 d_Pd_about_40 rfl (lv_at hl 0 rfl) ?_
  refine x_get E B 0 rfl k_Pd 0 (by decide) wd_165 rfl d_Pd_about_41 ?_
  refine x_get E B 1 rfl k_Ge 3 (by decide) wd_116 rfl d_Pd_about_44 ?_
  exact hret _ _ _ (rfl) d_Pd_about_47
set_option maxHeartbeats 4000000 in
set_option maxRecDepth 100000 in
theorem q_Pd_about_1 (G : xG) (l : Launch) (h0 gq kd vq sq gc : Nat) (kq cq pq dq e0 rq tq rs : Nat) (ck lt : Int32)  : xMr G l y_Pd_about c_Pd_about 2 .int ({ frames := 1, cells := 0, slots := 0, locals := 21 }) [.ref h0, .int (nI 1)] [] [(h0, .inr (5, [.ref gq, .ref kd, .ref vq, .int (nI gc), .ref sq])), (gq, .inr (3, [.ref kq, .ref cq, .ref pq, .int (nI rs), .int ck, .int lt, .ref dq, .ref e0, .ref rq, .ref tq]))] ck := by
  refine xMr.by r_Pd (by decide +kernel) (Nat.le_of_ble_eq_true rfl) rfl ?_
  intro p e s m args below meth c A ls Q E B hro hl hret
  have hl : lv_has ls 2 [(0, .ref h0), (1, .int (nI 1))] := hl
  refine lv_iload_n E.1 E.2.1 d_Pd_about_0 rfl (lv_at hl 1 rfl) ?_
  refine lv_tableIn (tgt := 48) (off := 47) E.1 E.2.1 d_Pd_about_1 (by decide) (by decide) (by decide) (by decide) ?_
  refine lv_aload_n E.1 E.2.1 d_Pd_about_48 rfl (lv_at hl 0 rfl) ?_
  refine x_get E B 0 rfl k_Pd 0 (by decide) wd_165 rfl d_Pd_about_49 ?_
  refine x_get E B 1 rfl k_Ge 4 (by decide) wd_118 rfl d_Pd_about_52 ?_
  exact hret _ _ _ (rfl) d_Pd_about_55
set_option maxHeartbeats 4000000 in
set_option maxRecDepth 100000 in
theorem q_Pd_about_2 (G : xG) (l : Launch) (h0 gq kd vq sq gc : Nat) (kq cq pq dq e0 rq tq rs : Nat) (ck lt : Int32)  : xMr G l y_Pd_about c_Pd_about 2 .int ({ frames := 1, cells := 0, slots := 0, locals := 21 }) [.ref h0, .int (nI 2)] [] [(h0, .inr (5, [.ref gq, .ref kd, .ref vq, .int (nI gc), .ref sq])), (gq, .inr (3, [.ref kq, .ref cq, .ref pq, .int (nI rs), .int ck, .int lt, .ref dq, .ref e0, .ref rq, .ref tq]))] lt := by
  refine xMr.by r_Pd (by decide +kernel) (Nat.le_of_ble_eq_true rfl) rfl ?_
  intro p e s m args below meth c A ls Q E B hro hl hret
  have hl : lv_has ls 2 [(0, .ref h0), (1, .int (nI 2))] := hl
  refine lv_iload_n E.1 E.2.1 d_Pd_about_0 rfl (lv_at hl 1 rfl) ?_
  refine lv_tableIn (tgt := 56) (off := 55) E.1 E.2.1 d_Pd_about_1 (by decide) (by decide) (by decide) (by decide) ?_
  refine lv_aload_n E.1 E.2.1 d_Pd_about_56 rfl (lv_at hl 0 rfl) ?_
  refine x_get E B 0 rfl k_Pd 0 (by decide) wd_165 rfl d_Pd_about_57 ?_
  refine x_get E B 1 rfl k_Ge 5 (by decide) wd_120 rfl d_Pd_about_60 ?_
  exact hret _ _ _ (rfl) d_Pd_about_63
set_option maxHeartbeats 4000000 in
set_option maxRecDepth 100000 in
theorem q_Pd_about_3 (G : xG) (l : Launch) (h0 gq kd vq sq gc : Nat) (bq : Nat) (wr tc : Int32)  : xMr G l y_Pd_about c_Pd_about 2 .int ({ frames := 1, cells := 0, slots := 0, locals := 21 }) [.ref h0, .int (nI 3)] [] [(h0, .inr (5, [.ref gq, .ref kd, .ref vq, .int (nI gc), .ref sq])), (kd, .inr (2, [.ref bq, .int wr, .int tc]))] tc := by
  refine xMr.by r_Pd (by decide +kernel) (Nat.le_of_ble_eq_true rfl) rfl ?_
  intro p e s m args below meth c A ls Q E B hro hl hret
  have hl : lv_has ls 2 [(0, .ref h0), (1, .int (nI 3))] := hl
  refine lv_iload_n E.1 E.2.1 d_Pd_about_0 rfl (lv_at hl 1 rfl) ?_
  refine lv_tableIn (tgt := 64) (off := 63) E.1 E.2.1 d_Pd_about_1 (by decide) (by decide) (by decide) (by decide) ?_
  refine lv_aload_n E.1 E.2.1 d_Pd_about_64 rfl (lv_at hl 0 rfl) ?_
  refine x_get E B 0 rfl k_Pd 1 (by decide) wd_166 rfl d_Pd_about_65 ?_
  refine x_get E B 1 rfl k_Dk 2 (by decide) wd_157 rfl d_Pd_about_68 ?_
  exact hret _ _ _ (rfl) d_Pd_about_71
set_option maxHeartbeats 4000000 in
set_option maxRecDepth 100000 in
theorem q_Pd_about_4 (G : xG) (l : Launch) (h0 gq kd vq sq gc : Nat) (bq : Nat) (wr tc : Int32)  : xMr G l y_Pd_about c_Pd_about 2 .int ({ frames := 1, cells := 0, slots := 0, locals := 21 }) [.ref h0, .int (nI 4)] [] [(h0, .inr (5, [.ref gq, .ref kd, .ref vq, .int (nI gc), .ref sq])), (kd, .inr (2, [.ref bq, .int wr, .int tc]))] wr := by
  refine xMr.by r_Pd (by decide +kernel) (Nat.le_of_ble_eq_true rfl) rfl ?_
  intro p e s m args below meth c A ls Q E B hro hl hret
  have hl : lv_has ls 2 [(0, .ref h0), (1, .int (nI 4))] := hl
  refine lv_iload_n E.1 E.2.1 d_Pd_about_0 rfl (lv_at hl 1 rfl) ?_
  refine lv_tableIn (tgt := 72) (off := 71) E.1 E.2.1 d_Pd_about_1 (by decide) (by decide) (by decide) (by decide) ?_
  refine lv_aload_n E.1 E.2.1 d_Pd_about_72 rfl (lv_at hl 0 rfl) ?_
  refine x_get E B 0 rfl k_Pd 1 (by decide) wd_166 rfl d_Pd_about_73 ?_
  refine x_get E B 1 rfl k_Dk 1 (by decide) wd_155 rfl d_Pd_about_76 ?_
  exact hret _ _ _ (rfl) d_Pd_about_79
set_option maxHeartbeats 4000000 in
set_option maxRecDepth 100000 in
theorem q_Pd_about_5 (G : xG) (l : Launch) (h0 gq kd vq sq gc : Nat) (kq cq pq dq e0 rq tq rs : Nat) (ck lt : Int32) (ctr : Nat → Nat) (hb : g_bt 16 ctr) : xMr G l y_Pd_about c_Pd_about 2 .int ({ frames := 1, cells := 0, slots := 0, locals := 21 }) [.ref h0, .int (nI 5)] [] [(h0, .inr (5, [.ref gq, .ref kd, .ref vq, .int (nI gc), .ref sq])), (gq, .inr (3, [.ref kq, .ref cq, .ref pq, .int (nI rs), .int ck, .int lt, .ref dq, .ref e0, .ref rq, .ref tq])), (cq, x_N G 16 ctr)] (nI (g_sd ctr)) := by
  refine xMr.by r_Pd (by decide +kernel) (Nat.le_of_ble_eq_true rfl) rfl ?_
  intro p e s m args below meth c A ls Q E B hro hl hret
  have hl : lv_has ls 2 [(0, .ref h0), (1, .int (nI 5))] := hl
  refine lv_iload_n E.1 E.2.1 d_Pd_about_0 rfl (lv_at hl 1 rfl) ?_
  refine lv_tableIn (tgt := 80) (off := 79) E.1 E.2.1 d_Pd_about_1 (by decide) (by decide) (by decide) (by decide) ?_
  refine lv_aload_n E.1 E.2.1 d_Pd_about_80 rfl (lv_at hl 0 rfl) ?_
  refine x_get E B 0 rfl k_Pd 0 (by decide) wd_165 rfl d_Pd_about_81 ?_
  refine x_cf (x_rV (rest := []) E B (q_Ge_isSeeded G l gq kq cq pq dq e0 rq tq rs ck lt ctr (hb) _) (x_pre B [1, 2] rfl (by decide) x_ro0) 1 rfl k_Ge (gg_V wd_285 wd_286 wd_287 wd_35 wd_288) ⟨rfl, p_Ge_isSeeded⟩ rfl rfl ⟨Nat.le_of_ble_eq_true rfl, Nat.le_of_ble_eq_true rfl⟩ rfl hl.1 rfl (Nat.le_of_ble_eq_true rfl) d_Pd_about_84 ⟨Nat.le_of_ble_eq_true rfl, Nat.le_of_ble_eq_true rfl⟩) ?_
  refine x_if0 (tgt := 94) E d_Pd_about_87 (by decide) (by have := g_sd_lt ctr; omega) (fun hz => ?_) (fun hz => ?_)
  · refine lv_iconst (v := nI 0) E.1 E.2.1 d_Pd_about_94 (by decide) ?_
    exact hret _ _ _ (by have := g_sd_lt ctr; exact congrArg nI (by omega)) d_Pd_about_95
  · refine lv_iconst (v := nI 1) E.1 E.2.1 d_Pd_about_90 (by decide) ?_
    refine lv_goto (tgt := 95) E.1 E.2.1 d_Pd_about_91 (by decide) ?_
    exact hret _ _ _ (by have := g_sd_lt ctr; exact congrArg nI (by omega)) d_Pd_about_95
set_option maxHeartbeats 4000000 in
set_option maxRecDepth 100000 in
theorem q_Pd_sizeOfPool_y (G : xG) (l : Launch) (h0 gq kd vq sq gc : Nat) (kq cq pq dq e0 rq tq rs : Nat) (ck lt : Int32) (j : Nat) (pa ba cap len : Nat → Nat) (pb : Nat → Nat → Nat) (hj : j < 32) : xMr G l y_Pd_sizeOfPool c_Pd_sizeOfPool 3 .int ({ frames := 1, cells := 0, slots := 0, locals := 20 }) [.ref h0, .int (nI (6 + j))] [] ([(h0, .inr (5, [.ref gq, .ref kd, .ref vq, .int (nI gc), .ref sq])), (gq, .inr (3, [.ref kq, .ref cq, .ref pq, .int (nI rs), .int ck, .int lt, .ref dq, .ref e0, .ref rq, .ref tq])), (pq, x_Q G 32 (fun j => some (pa j)))] ++ x_pl G pa ba cap len pb) (nI (len j)) := by
  refine xMr.by r_Pd (by decide +kernel) (Nat.le_of_ble_eq_true rfl) rfl ?_
  intro p e s m args below meth c A ls Q E B hro hl hret
  have hl : lv_has ls 3 [(0, .ref h0), (1, .int (nI (6 + j)))] := hl
  refine lv_iload_n E.1 E.2.1 d_Pd_sizeOfPool_0 rfl (lv_at hl 1 rfl) ?_
  refine lv_bipush (v := nI 6) E.1 E.2.1 d_Pd_sizeOfPool_1 (by decide) ?_
  refine x_isub E d_Pd_sizeOfPool_3 (by omega) ?_
  refine x_top (show nI ((6 + j) - 6) = nI j from congrArg nI (by omega)) ?_
  refine lv_istore_n (lv' := [(2, .int (nI j)), (0, .ref h0), (1, .int (nI (6 + j)))]) E.1 E.2.1 d_Pd_sizeOfPool_4 rfl hl (by decide) rfl (fun ls hl => ?_)
  refine lv_iload_n E.1 E.2.1 d_Pd_sizeOfPool_5 rfl (lv_at hl 0 rfl) ?_
  refine x_cf (x_rS (rest := []) E (q_Pd_isPool l (nI j) ) x_pf (gg_S wd_204 wd_205 wd_34 wd_206) p_Pd_isPool rfl rfl ⟨Nat.le_of_ble_eq_true rfl, Nat.le_of_ble_eq_true rfl⟩ rfl hl.1 rfl (Nat.le_of_ble_eq_true rfl) d_Pd_sizeOfPool_6 ⟨Nat.le_of_ble_eq_true rfl, Nat.le_of_ble_eq_true rfl⟩) ?_
  refine x_top (show nI (c_po (nI j)) = nI 1 from congrArg nI (by exact c_po_n hj)) ?_
  refine x_if0 (tgt := 27) E d_Pd_sizeOfPool_9 (by decide) (by omega) (fun c1 => ?_) (fun c1 => ?_)
  · exfalso; omega
  · refine lv_aload_n E.1 E.2.1 d_Pd_sizeOfPool_12 rfl (lv_at hl 1 rfl) ?_
    refine x_get E B 0 rfl k_Pd 0 (by decide) wd_165 rfl d_Pd_sizeOfPool_13 ?_
    refine x_get E B 1 rfl k_Ge 2 (by decide) wd_114 rfl d_Pd_sizeOfPool_16 ?_
    refine lv_iload_n E.1 E.2.1 d_Pd_sizeOfPool_19 rfl (lv_at hl 0 rfl) ?_
    refine x_aldp E B 2 rfl (i := j) (by omega) (by decide) d_Pd_sizeOfPool_20 ?_
    refine x_getL (N := 3) E rfl B (j := j) (by omega) wd_68 d_Pd_sizeOfPool_21 ?_
    refine lv_goto (tgt := 28) E.1 E.2.1 d_Pd_sizeOfPool_24 (by decide) ?_
    exact hret _ _ _ (rfl) d_Pd_sizeOfPool_28
set_option maxHeartbeats 4000000 in
set_option maxRecDepth 100000 in
theorem q_Pd_sizeOfPool_n (G : xG) (l : Launch) (h0 : Nat) (x : Int32) (hp : c_po (x - nI 6) = 0) : xMr G l y_Pd_sizeOfPool c_Pd_sizeOfPool 3 .int ({ frames := 1, cells := 0, slots := 0, locals := 20 }) [.ref h0, .int x] [] [] (-1) := by
  refine xMr.by r_Pd (by decide +kernel) (Nat.le_of_ble_eq_true rfl) rfl ?_
  intro p e s m args below meth c A ls Q E B hro hl hret
  have hl : lv_has ls 3 [(0, .ref h0), (1, .int x)] := hl
  refine lv_iload_n E.1 E.2.1 d_Pd_sizeOfPool_0 rfl (lv_at hl 1 rfl) ?_
  refine lv_bipush (v := nI 6) E.1 E.2.1 d_Pd_sizeOfPool_1 (by decide) ?_
  refine lv_isub E.1 E.2.1 d_Pd_sizeOfPool_3 ?_
  refine lv_istore_n (lv' := [(2, .int (x - (nI 6))), (0, .ref h0), (1, .int x)]) E.1 E.2.1 d_Pd_sizeOfPool_4 rfl hl (by decide) rfl (fun ls hl => ?_)
  refine lv_iload_n E.1 E.2.1 d_Pd_sizeOfPool_5 rfl (lv_at hl 0 rfl) ?_
  refine x_cf (x_rS (rest := []) E (q_Pd_isPool l (x - (nI 6)) ) x_pf (gg_S wd_204 wd_205 wd_34 wd_206) p_Pd_isPool rfl rfl ⟨Nat.le_of_ble_eq_true rfl, Nat.le_of_ble_eq_true rfl⟩ rfl hl.1 rfl (Nat.le_of_ble_eq_true rfl) d_Pd_sizeOfPool_6 ⟨Nat.le_of_ble_eq_true rfl, Nat.le_of_ble_eq_true rfl⟩) ?_
  refine x_top (show nI (c_po (x - (nI 6))) = nI 0 from congrArg nI (by exact hp)) ?_
  refine x_if0 (tgt := 27) E d_Pd_sizeOfPool_9 (by decide) (by omega) (fun c1 => ?_) (fun c1 => ?_)
  · refine lv_iconst (v := -1) E.1 E.2.1 d_Pd_sizeOfPool_27 (by decide) ?_
    exact hret _ _ _ (rfl) d_Pd_sizeOfPool_28
  · exfalso; omega
set_option maxHeartbeats 4000000 in
set_option maxRecDepth 100000 in
theorem q_Pd_about_y (G : xG) (l : Launch) (h0 gq kd vq sq gc : Nat) (kq cq pq dq e0 rq tq rs : Nat) (ck lt : Int32) (j : Nat) (pa ba cap len : Nat → Nat) (pb : Nat → Nat → Nat) (hj : j < 32) : xMr G l y_Pd_about c_Pd_about 2 .int ({ frames := 2, cells := 0, slots := 0, locals := 42 }) [.ref h0, .int (nI (6 + j))] [] ([(h0, .inr (5, [.ref gq, .ref kd, .ref vq, .int (nI gc), .ref sq])), (gq, .inr (3, [.ref kq, .ref cq, .ref pq, .int (nI rs), .int ck, .int lt, .ref dq, .ref e0, .ref rq, .ref tq])), (pq, x_Q G 32 (fun j => some (pa j)))] ++ x_pl G pa ba cap len pb) (nI (len j)) := by
  refine xMr.by r_Pd (by decide +kernel) (Nat.le_of_ble_eq_true rfl) rfl ?_
  intro p e s m args below meth c A ls Q E B hro hl hret
  have hl : lv_has ls 2 [(0, .ref h0), (1, .int (nI (6 + j)))] := hl
  refine lv_iload_n E.1 E.2.1 d_Pd_about_0 rfl (lv_at hl 1 rfl) ?_
  refine lv_tableOut (tgt := 96) E.1 E.2.1 d_Pd_about_1 (by rw [nI_toInt (by omega)]; omega) (by decide) ?_
  refine lv_aload_n E.1 E.2.1 d_Pd_about_96 rfl (lv_at hl 0 rfl) ?_
  refine lv_iload_n E.1 E.2.1 d_Pd_about_97 rfl (lv_at hl 1 rfl) ?_
  refine x_cf (x_rV (rest := []) E B (q_Pd_sizeOfPool_y G l h0 gq kd vq sq gc kq cq pq dq e0 rq tq rs ck lt j pa ba cap len pb (by omega) _) (x_preP B [0, 1, 2] rfl (by decide) x_ro0) 0 rfl k_Pd (gg_V wd_382 wd_384 wd_16 wd_34 wd_385) ⟨rfl, p_Pd_sizeOfPool⟩ rfl rfl ⟨Nat.le_of_ble_eq_true rfl, Nat.le_of_ble_eq_true rfl⟩ rfl hl.1 rfl (Nat.le_of_ble_eq_true rfl) d_Pd_about_98 ⟨Nat.le_of_ble_eq_true rfl, Nat.le_of_ble_eq_true rfl⟩) ?_
  exact hret _ _ _ (rfl) d_Pd_about_101
set_option maxHeartbeats 4000000 in
set_option maxRecDepth 100000 in
theorem q_Pd_about_n (G : xG) (l : Launch) (h0 gq kd vq sq gc : Nat) (x : Int32) (hs : x.toInt < 0 ∨ 5 < x.toInt) (hp : c_po (x - nI 6) = 0) : xMr G l y_Pd_about c_Pd_about 2 .int ({ frames := 2, cells := 0, slots := 0, locals := 42 }) [.ref h0, .int x] [] [(h0, .inr (5, [.ref gq, .ref kd, .ref vq, .int (nI gc), .ref sq]))] (-1) := by
  refine xMr.by r_Pd (by decide +kernel) (Nat.le_of_ble_eq_true rfl) rfl ?_
  intro p e s m args below meth c A ls Q E B hro hl hret
  have hl : lv_has ls 2 [(0, .ref h0), (1, .int x)] := hl
  refine lv_iload_n E.1 E.2.1 d_Pd_about_0 rfl (lv_at hl 1 rfl) ?_
  refine lv_tableOut (tgt := 96) E.1 E.2.1 d_Pd_about_1 (hs) (by decide) ?_
  refine lv_aload_n E.1 E.2.1 d_Pd_about_96 rfl (lv_at hl 0 rfl) ?_
  refine lv_iload_n E.1 E.2.1 d_Pd_about_97 rfl (lv_at hl 1 rfl) ?_
  refine x_cf (x_rV (rest := []) E B (q_Pd_sizeOfPool_n G l h0 x (hp) _) (x_pre B [] rfl (by decide) x_ro0) 0 rfl k_Pd (gg_V wd_382 wd_384 wd_16 wd_34 wd_385) ⟨rfl, p_Pd_sizeOfPool⟩ rfl rfl ⟨Nat.le_of_ble_eq_true rfl, Nat.le_of_ble_eq_true rfl⟩ rfl hl.1 rfl (Nat.le_of_ble_eq_true rfl) d_Pd_about_98 ⟨Nat.le_of_ble_eq_true rfl, Nat.le_of_ble_eq_true rfl⟩) ?_
  exact hret _ _ _ (rfl) d_Pd_about_101
set_option maxHeartbeats 4000000 in
set_option maxRecDepth 100000 in
theorem q_Pd_byteOf_0 (G : xG) (l : Launch) (h0 gq kd vq sq gc : Nat) (kq cq pq dq e0 rq tq rs : Nat) (ck lt : Int32) (x : Int32) (f : Nat → Nat)  : xMr G l y_Pd_byteOf c_Pd_byteOf 3 .int ({ frames := 1, cells := 0, slots := 0, locals := 22 }) [.ref h0, .int (nI 0), .int x] [] [(h0, .inr (5, [.ref gq, .ref kd, .ref vq, .int (nI gc), .ref sq])), (gq, .inr (3, [.ref kq, .ref cq, .ref pq, .int (nI rs), .int ck, .int lt, .ref dq, .ref e0, .ref rq, .ref tq])), (kq, x_N G 16 f)] (c_at f 16 x) := by
  refine xMr.by r_Pd (by decide +kernel) (Nat.le_of_ble_eq_true rfl) rfl ?_
  intro p e s m args below meth c A ls Q E B hro hl hret
  have hl : lv_has ls 3 [(0, .ref h0), (1, .int (nI 0)), (2, .int x)] := hl
  refine lv_iload_n E.1 E.2.1 d_Pd_byteOf_0 rfl (lv_at hl 1 rfl) ?_
  refine lv_tableIn (tgt := 28) (off := 27) E.1 E.2.1 d_Pd_byteOf_1 (by decide) (by decide) (by decide) (by decide) ?_
  refine lv_aload_n E.1 E.2.1 d_Pd_byteOf_28 rfl (lv_at hl 0 rfl) ?_
  refine x_get E B 0 rfl k_Pd 0 (by decide) wd_165 rfl d_Pd_byteOf_29 ?_
  refine x_get E B 1 rfl k_Ge 0 (by decide) wd_110 rfl d_Pd_byteOf_32 ?_
  refine lv_iload_n E.1 E.2.1 d_Pd_byteOf_35 rfl (lv_at hl 2 rfl) ?_
  refine lv_aload_n E.1 E.2.1 d_Pd_byteOf_36 rfl (lv_at hl 0 rfl) ?_
  refine x_get E B 0 rfl k_Pd 0 (by decide) wd_165 rfl d_Pd_byteOf_37 ?_
  refine x_get E B 1 rfl k_Ge 0 (by decide) wd_110 rfl d_Pd_byteOf_40 ?_
  refine x_alen E B 2 rfl d_Pd_byteOf_43 ?_
  refine x_cf (x_rS (rest := []) E (q_Pd_byteAt G l kq 16 16 x f (by omega) (by omega) _) (x_pre B [] rfl (by decide) (x_ro1 (x_ro_w B 2 rfl [] rfl (by decide)))) (gg_S wd_327 wd_328 wd_34 wd_329) p_Pd_byteAt rfl rfl ⟨Nat.le_of_ble_eq_true rfl, Nat.le_of_ble_eq_true rfl⟩ rfl hl.1 rfl (Nat.le_of_ble_eq_true rfl) d_Pd_byteOf_44 ⟨Nat.le_of_ble_eq_true rfl, Nat.le_of_ble_eq_true rfl⟩) ?_
  exact hret _ _ _ (rfl) d_Pd_byteOf_47
set_option maxHeartbeats 4000000 in
set_option maxRecDepth 100000 in
theorem q_Pd_byteOf_1 (G : xG) (l : Launch) (h0 gq kd vq sq gc : Nat) (kq cq pq dq e0 rq tq rs : Nat) (ck lt : Int32) (x : Int32) (f : Nat → Nat)  : xMr G l y_Pd_byteOf c_Pd_byteOf 3 .int ({ frames := 1, cells := 0, slots := 0, locals := 22 }) [.ref h0, .int (nI 1), .int x] [] [(h0, .inr (5, [.ref gq, .ref kd, .ref vq, .int (nI gc), .ref sq])), (gq, .inr (3, [.ref kq, .ref cq, .ref pq, .int (nI rs), .int ck, .int lt, .ref dq, .ref e0, .ref rq, .ref tq])), (cq, x_N G 16 f)] (c_at f 16 x) := by
  refine xMr.by r_Pd (by decide +kernel) (Nat.le_of_ble_eq_true rfl) rfl ?_
  intro p e s m args below meth c A ls Q E B hro hl hret
  have hl : lv_has ls 3 [(0, .ref h0), (1, .int (nI 1)), (2, .int x)] := hl
  refine lv_iload_n E.1 E.2.1 d_Pd_byteOf_0 rfl (lv_at hl 1 rfl) ?_
  refine lv_tableIn (tgt := 48) (off := 47) E.1 E.2.1 d_Pd_byteOf_1 (by decide) (by decide) (by decide) (by decide) ?_
  refine lv_aload_n E.1 E.2.1 d_Pd_byteOf_48 rfl (lv_at hl 0 rfl) ?_
  refine x_get E B 0 rfl k_Pd 0 (by decide) wd_165 rfl d_Pd_byteOf_49 ?_
  refine x_get E B 1 rfl k_Ge 1 (by decide) wd_112 rfl d_Pd_byteOf_52 ?_
  refine lv_iload_n E.1 E.2.1 d_Pd_byteOf_55 rfl (lv_at hl 2 rfl) ?_
  refine lv_aload_n E.1 E.2.1 d_Pd_byteOf_56 rfl (lv_at hl 0 rfl) ?_
  refine x_get E B 0 rfl k_Pd 0 (by decide) wd_165 rfl d_Pd_byteOf_57 ?_
  refine x_get E B 1 rfl k_Ge 1 (by decide) wd_112 rfl d_Pd_byteOf_60 ?_
  refine x_alen E B 2 rfl d_Pd_byteOf_63 ?_
  refine x_cf (x_rS (rest := []) E (q_Pd_byteAt G l cq 16 16 x f (by omega) (by omega) _) (x_pre B [] rfl (by decide) (x_ro1 (x_ro_w B 2 rfl [] rfl (by decide)))) (gg_S wd_327 wd_328 wd_34 wd_329) p_Pd_byteAt rfl rfl ⟨Nat.le_of_ble_eq_true rfl, Nat.le_of_ble_eq_true rfl⟩ rfl hl.1 rfl (Nat.le_of_ble_eq_true rfl) d_Pd_byteOf_64 ⟨Nat.le_of_ble_eq_true rfl, Nat.le_of_ble_eq_true rfl⟩) ?_
  exact hret _ _ _ (rfl) d_Pd_byteOf_67
set_option maxHeartbeats 4000000 in
set_option maxRecDepth 100000 in
theorem q_Pd_byteOf_2 (G : xG) (l : Launch) (h0 gq kd vq sq gc : Nat) (bq : Nat) (wr tc : Int32) (x : Int32) (f : Nat → Nat)  : xMr G l y_Pd_byteOf c_Pd_byteOf 3 .int ({ frames := 1, cells := 0, slots := 0, locals := 22 }) [.ref h0, .int (nI 2), .int x] [] [(h0, .inr (5, [.ref gq, .ref kd, .ref vq, .int (nI gc), .ref sq])), (kd, .inr (2, [.ref bq, .int wr, .int tc])), (bq, x_N G 129 f)] (c_at f 129 x) := by
  refine xMr.by r_Pd (by decide +kernel) (Nat.le_of_ble_eq_true rfl) rfl ?_
  intro p e s m args below meth c A ls Q E B hro hl hret
  have hl : lv_has ls 3 [(0, .ref h0), (1, .int (nI 2)), (2, .int x)] := hl
  refine lv_iload_n E.1 E.2.1 d_Pd_byteOf_0 rfl (lv_at hl 1 rfl) ?_
  refine lv_tableIn (tgt := 68) (off := 67) E.1 E.2.1 d_Pd_byteOf_1 (by decide) (by decide) (by decide) (by decide) ?_
  refine lv_aload_n E.1 E.2.1 d_Pd_byteOf_68 rfl (lv_at hl 0 rfl) ?_
  refine x_get E B 0 rfl k_Pd 1 (by decide) wd_166 rfl d_Pd_byteOf_69 ?_
  refine x_get E B 1 rfl k_Dk 0 (by decide) wd_153 rfl d_Pd_byteOf_72 ?_
  refine lv_iload_n E.1 E.2.1 d_Pd_byteOf_75 rfl (lv_at hl 2 rfl) ?_
  refine lv_aload_n E.1 E.2.1 d_Pd_byteOf_76 rfl (lv_at hl 0 rfl) ?_
  refine x_get E B 0 rfl k_Pd 1 (by decide) wd_166 rfl d_Pd_byteOf_77 ?_
  refine x_get E B 1 rfl k_Dk 0 (by decide) wd_153 rfl d_Pd_byteOf_80 ?_
  refine x_alen E B 2 rfl d_Pd_byteOf_83 ?_
  refine x_cf (x_rS (rest := []) E (q_Pd_byteAt G l bq 129 129 x f (by omega) (by omega) _) (x_pre B [] rfl (by decide) (x_ro1 (x_ro_w B 2 rfl [] rfl (by decide)))) (gg_S wd_327 wd_328 wd_34 wd_329) p_Pd_byteAt rfl rfl ⟨Nat.le_of_ble_eq_true rfl, Nat.le_of_ble_eq_true rfl⟩ rfl hl.1 rfl (Nat.le_of_ble_eq_true rfl) d_Pd_byteOf_84 ⟨Nat.le_of_ble_eq_true rfl, Nat.le_of_ble_eq_true rfl⟩) ?_
  exact hret _ _ _ (rfl) d_Pd_byteOf_87
set_option maxHeartbeats 4000000 in
set_option maxRecDepth 100000 in
theorem q_Pd_byteOfPool_y (G : xG) (l : Launch) (h0 gq kd vq sq gc : Nat) (kq cq pq dq e0 rq tq rs : Nat) (ck lt : Int32) (d1 d2 d3 : Nat) (Hf w0 : Nat → Int32) (go : Nat → Nat) (j i : Nat) (tt : Nat → Nat) (pa ba cap len : Nat → Nat) (pb : Nat → Nat → Nat) (hj : j < 32) (hi : i < 32) (hcap : cap j < 100000 ∧ len j ≤ cap j) (hpb : ∀ k, k < len j → pb j k < 256) : xMi G l y_Pd_byteOfPool c_Pd_byteOfPool 4 .int ({ frames := 5, cells := 0, slots := 0, locals := 130 }) [.ref h0, .int (nI (3 + j)), .int (nI i)] [] ([(h0, .inr (5, [.ref gq, .ref kd, .ref vq, .int (nI gc), .ref sq])), (gq, .inr (3, [.ref kq, .ref cq, .ref pq, .int (nI rs), .int ck, .int lt, .ref dq, .ref e0, .ref rq, .ref tq])), (pq, x_Q G 32 (fun j => some (pa j))), (dq, .inr (1, [.ref d1, .ref d2, .ref d3])), (d1, x_I G 8 Hf), (d2, x_I G 64 w0), (d3, x_N G 32 go), (tq, x_N G 32 tt)] ++ x_pl G pa ba cap len pb) ((Nat → Int32) × (Nat → Int32)) (fun r _ => r = nI (h_tw (pb j) (len j) i)) (fun u => [(h0, .inr (5, [.ref gq, .ref kd, .ref vq, .int (nI gc), .ref sq])), (gq, .inr (3, [.ref kq, .ref cq, .ref pq, .int (nI rs), .int ck, .int lt, .ref dq, .ref e0, .ref rq, .ref tq])), (pq, x_Q G 32 (fun j => some (pa j))), (dq, .inr (1, [.ref d1, .ref d2, .ref d3])), (d1, x_I G 8 u.1), (d2, x_I G 64 u.2), (d3, x_N G 32 (h_dg (pb j) (len j))), (tq, x_N G 32 (h_tw (pb j) (len j)))] ++ x_pl G pa ba cap len pb) 0 0 := by
  refine xMi.by r_Pd (by decide +kernel) (Nat.le_of_ble_eq_true rfl) rfl ?_
  intro p e s m args below meth c A ls Q E B hro hl hret
  have hl : lv_has ls 4 [(0, .ref h0), (1, .int (nI (3 + j))), (2, .int (nI i))] := hl
  refine lv_iload_n E.1 E.2.1 d_Pd_byteOfPool_0 rfl (lv_at hl 1 rfl) ?_
  refine lv_iconst (v := nI 3) E.1 E.2.1 d_Pd_byteOfPool_1 (by decide) ?_
  refine x_isub E d_Pd_byteOfPool_2 (by omega) ?_
  refine x_top (show nI ((3 + j) - 3) = nI j from congrArg nI (by omega)) ?_
  refine lv_istore_n (lv' := [(3, .int (nI j)), (0, .ref h0), (1, .int (nI (3 + j))), (2, .int (nI i))]) E.1 E.2.1 d_Pd_byteOfPool_3 rfl hl (by decide) rfl (fun ls hl => ?_)
  refine lv_iload_n E.1 E.2.1 d_Pd_byteOfPool_4 rfl (lv_at hl 0 rfl) ?_
  refine x_cf (x_rS (rest := []) E (q_Pd_isPool l (nI j) ) x_pf (gg_S wd_204 wd_205 wd_34 wd_206) p_Pd_isPool rfl rfl ⟨Nat.le_of_ble_eq_true rfl, Nat.le_of_ble_eq_true rfl⟩ rfl hl.1 rfl (Nat.le_of_ble_eq_true rfl) d_Pd_byteOfPool_5 ⟨Nat.le_of_ble_eq_true rfl, Nat.le_of_ble_eq_true rfl⟩) ?_
  refine x_top (show nI (c_po (nI j)) = nI 1 from congrArg nI (by exact c_po_n hj)) ?_
  refine x_if0 (tgt := 21) E d_Pd_byteOfPool_8 (by decide) (by omega) (fun c1 => ?_) (fun c1 => ?_)
  · exfalso; omega
  · refine lv_iload_n E.1 E.2.1 d_Pd_byteOfPool_11 rfl (lv_at hl 3 rfl) ?_
    refine lv_if_lt (tgt := 21) E.1 E.2.1 d_Pd_byteOfPool_12 (by decide) (fun hz => ?_) (fun hz => ?_)
    · exfalso; exact nI_pos (by omega) hz
    · refine lv_iload_n E.1 E.2.1 d_Pd_byteOfPool_15 rfl (lv_at hl 3 rfl) ?_
      refine lv_bipush (v := nI 32) E.1 E.2.1 d_Pd_byteOfPool_16 (by decide) ?_
      refine x_lt (tgt := 23) E d_Pd_byteOfPool_18 (by decide) (by omega) (by omega) (fun c3 => ?_) (fun c3 => ?_)
      · refine lv_aload_n E.1 E.2.1 d_Pd_byteOfPool_23 rfl (lv_at hl 1 rfl) ?_
        refine x_get E B 0 rfl k_Pd 0 (by decide) wd_165 rfl d_Pd_byteOfPool_24 ?_
        refine lv_iload_n E.1 E.2.1 d_Pd_byteOfPool_27 rfl (lv_at hl 0 rfl) ?_
        refine lv_iload_n E.1 E.2.1 d_Pd_byteOfPool_28 rfl (lv_at hl 3 rfl) ?_
        refine x_ciP (X' := fun u => [(h0, .inr (5, [.ref gq, .ref kd, .ref vq, .int (nI gc), .ref sq])), (gq, .inr (3, [.ref kq, .ref cq, .ref pq, .int (nI rs), .int ck, .int lt, .ref dq, .ref e0, .ref rq, .ref tq])), (pq, x_Q G 32 (fun j => some (pa j))), (dq, .inr (1, [.ref d1, .ref d2, .ref d3])), (d1, x_I G 8 u.1), (d2, x_I G 64 u.2), (d3, x_N G 32 (h_dg (pb j) (len j))), (tq, x_N G 32 (h_tw (pb j) (len j)))]) (pl1 := fun u => x_pl G pa ba cap len pb) (wr := [(h0, .inr (5, [.ref gq, .ref kd, .ref vq, .int (nI gc), .ref sq]))]) B (x_rV (rest := []) E B (q_Ge_byteOfTwice G l gq kq cq pq dq e0 rq tq rs ck lt d1 d2 d3 Hf w0 go j i tt pa ba cap len pb (by omega) (by omega) (hcap) (hpb) _) (x_preP B [1, 2, 3, 4, 5, 6, 7] rfl (by decide) x_ro0) 1 rfl k_Ge (gg_V wd_370 wd_371 wd_372 wd_35 wd_373) ⟨rfl, p_Ge_byteOfTwice⟩ rfl rfl ⟨Nat.le_of_ble_eq_true rfl, Nat.le_of_ble_eq_true rfl⟩ rfl hl.1 rfl (Nat.le_of_ble_eq_true rfl) d_Pd_byteOfPool_29 ⟨Nat.le_of_ble_eq_true rfl, Nat.le_of_ble_eq_true rfl⟩) [1, 2, 3, 4, 5, 6, 7] [0] [0, 1, 2, 3, 4, 5, 6, 7] rfl rfl (by decide) (by decide) (by decide) (fun _ => rfl) (fun r29 u29 H locs hw29 B => ?_)
        subst hw29
        have B : xB G A s _ _ ([(h0, .inr (5, [.ref gq, .ref kd, .ref vq, .int (nI gc), .ref sq])), (gq, .inr (3, [.ref kq, .ref cq, .ref pq, .int (nI rs), .int ck, .int lt, .ref dq, .ref e0, .ref rq, .ref tq])), (pq, x_Q G 32 (fun j => some (pa j))), (dq, .inr (1, [.ref d1, .ref d2, .ref d3])), (d1, x_I G 8 u29.1), (d2, x_I G 64 u29.2), (d3, x_N G 32 (h_dg (pb j) (len j))), (tq, x_N G 32 (h_tw (pb j) (len j)))] ++ x_pl G pa ba cap len pb) := B
        exact hret _ u29 _ _ _ _ B (rfl) d_Pd_byteOfPool_32
      · exfalso; omega
set_option maxHeartbeats 4000000 in
set_option maxRecDepth 100000 in
theorem q_Pd_byteOfPool_n (G : xG) (l : Launch) (h0 : Nat) (x y : Int32) (hv : ¬ (c_po (x - nI 3) = 1 ∧ ¬ y < 0 ∧ y < nI 32)) : xMr G l y_Pd_byteOfPool c_Pd_byteOfPool 4 .int ({ frames := 1, cells := 0, slots := 0, locals := 20 }) [.ref h0, .int x, .int y] [] [] (-1) := by
  refine xMr.by r_Pd (by decide +kernel) (Nat.le_of_ble_eq_true rfl) rfl ?_
  intro p e s m args below meth c A ls Q E B hro hl hret
  have hl : lv_has ls 4 [(0, .ref h0), (1, .int x), (2, .int y)] := hl
  refine lv_iload_n E.1 E.2.1 d_Pd_byteOfPool_0 rfl (lv_at hl 1 rfl) ?_
  refine lv_iconst (v := nI 3) E.1 E.2.1 d_Pd_byteOfPool_1 (by decide) ?_
  refine lv_isub E.1 E.2.1 d_Pd_byteOfPool_2 ?_
  refine lv_istore_n (lv' := [(3, .int (x - (nI 3))), (0, .ref h0), (1, .int x), (2, .int y)]) E.1 E.2.1 d_Pd_byteOfPool_3 rfl hl (by decide) rfl (fun ls hl => ?_)
  refine lv_iload_n E.1 E.2.1 d_Pd_byteOfPool_4 rfl (lv_at hl 0 rfl) ?_
  refine x_cf (x_rS (rest := []) E (q_Pd_isPool l (x - (nI 3)) ) x_pf (gg_S wd_204 wd_205 wd_34 wd_206) p_Pd_isPool rfl rfl ⟨Nat.le_of_ble_eq_true rfl, Nat.le_of_ble_eq_true rfl⟩ rfl hl.1 rfl (Nat.le_of_ble_eq_true rfl) d_Pd_byteOfPool_5 ⟨Nat.le_of_ble_eq_true rfl, Nat.le_of_ble_eq_true rfl⟩) ?_
  refine x_if0 (tgt := 21) E d_Pd_byteOfPool_8 (by decide) (by have := c_po_le (x - nI 3); omega) (fun h1 => ?_) (fun h1 => ?_)
  · refine lv_iconst (v := -1) E.1 E.2.1 d_Pd_byteOfPool_21 (by decide) ?_
    exact hret _ _ _ (rfl) d_Pd_byteOfPool_22
  · refine lv_iload_n E.1 E.2.1 d_Pd_byteOfPool_11 rfl (lv_at hl 3 rfl) ?_
    refine lv_if_lt (tgt := 21) E.1 E.2.1 d_Pd_byteOfPool_12 (by decide) (fun h2 => ?_) (fun h2 => ?_)
    · refine lv_iconst (v := -1) E.1 E.2.1 d_Pd_byteOfPool_21 (by decide) ?_
      exact hret _ _ _ (rfl) d_Pd_byteOfPool_22
    · refine lv_iload_n E.1 E.2.1 d_Pd_byteOfPool_15 rfl (lv_at hl 3 rfl) ?_
      refine lv_bipush (v := nI 32) E.1 E.2.1 d_Pd_byteOfPool_16 (by decide) ?_
      refine lv_icmp_lt (tgt := 23) E.1 E.2.1 d_Pd_byteOfPool_18 (by decide) (fun h3 => ?_) (fun h3 => ?_)
      · exfalso; have := c_po_le (x - nI 3); exact hv ⟨by omega, h2, h3⟩
      · refine lv_iconst (v := -1) E.1 E.2.1 d_Pd_byteOfPool_21 (by decide) ?_
        exact hret _ _ _ (rfl) d_Pd_byteOfPool_22
set_option maxHeartbeats 4000000 in
set_option maxRecDepth 100000 in
theorem q_Pd_byteOf_y (G : xG) (l : Launch) (h0 gq kd vq sq gc : Nat) (kq cq pq dq e0 rq tq rs : Nat) (ck lt : Int32) (d1 d2 d3 : Nat) (Hf w0 : Nat → Int32) (go : Nat → Nat) (j i : Nat) (tt : Nat → Nat) (pa ba cap len : Nat → Nat) (pb : Nat → Nat → Nat) (hj : j < 32) (hi : i < 32) (hcap : cap j < 100000 ∧ len j ≤ cap j) (hpb : ∀ k, k < len j → pb j k < 256) : xMi G l y_Pd_byteOf c_Pd_byteOf 3 .int ({ frames := 6, cells := 0, slots := 0, locals := 153 }) [.ref h0, .int (nI (3 + j)), .int (nI i)] [] ([(h0, .inr (5, [.ref gq, .ref kd, .ref vq, .int (nI gc), .ref sq])), (gq, .inr (3, [.ref kq, .ref cq, .ref pq, .int (nI rs), .int ck, .int lt, .ref dq, .ref e0, .ref rq, .ref tq])), (pq, x_Q G 32 (fun j => some (pa j))), (dq, .inr (1, [.ref d1, .ref d2, .ref d3])), (d1, x_I G 8 Hf), (d2, x_I G 64 w0), (d3, x_N G 32 go), (tq, x_N G 32 tt)] ++ x_pl G pa ba cap len pb) ((Nat → Int32) × (Nat → Int32)) (fun r _ => r = nI (h_tw (pb j) (len j) i)) (fun u => [(h0, .inr (5, [.ref gq, .ref kd, .ref vq, .int (nI gc), .ref sq])), (gq, .inr (3, [.ref kq, .ref cq, .ref pq, .int (nI rs), .int ck, .int lt, .ref dq, .ref e0, .ref rq, .ref tq])), (pq, x_Q G 32 (fun j => some (pa j))), (dq, .inr (1, [.ref d1, .ref d2, .ref d3])), (d1, x_I G 8 u.1), (d2, x_I G 64 u.2), (d3, x_N G 32 (h_dg (pb j) (len j))), (tq, x_N G 32 (h_tw (pb j) (len j)))] ++ x_pl G pa ba cap len pb) 0 0 := by
  refine xMi.by r_Pd (by decide +kernel) (Nat.le_of_ble_eq_true rfl) rfl ?_
  intro p e s m args below meth c A ls Q E B hro hl hret
  have hl : lv_has ls 3 [(0, .ref h0), (1, .int (nI (3 + j))), (2, .int (nI i))] := hl
  refine lv_iload_n E.1 E.2.1 d_Pd_byteOf_0 rfl (lv_at hl 1 rfl) ?_
  refine lv_tableOut (tgt := 88) E.1 E.2.1 d_Pd_byteOf_1 (by rw [nI_toInt (by omega)]; omega) (by decide) ?_
  refine lv_aload_n E.1 E.2.1 d_Pd_byteOf_88 rfl (lv_at hl 0 rfl) ?_
  refine lv_iload_n E.1 E.2.1 d_Pd_byteOf_89 rfl (lv_at hl 1 rfl) ?_
  refine lv_iload_n E.1 E.2.1 d_Pd_byteOf_90 rfl (lv_at hl 2 rfl) ?_
  refine x_ciP (X' := fun u => [(h0, .inr (5, [.ref gq, .ref kd, .ref vq, .int (nI gc), .ref sq])), (gq, .inr (3, [.ref kq, .ref cq, .ref pq, .int (nI rs), .int ck, .int lt, .ref dq, .ref e0, .ref rq, .ref tq])), (pq, x_Q G 32 (fun j => some (pa j))), (dq, .inr (1, [.ref d1, .ref d2, .ref d3])), (d1, x_I G 8 u.1), (d2, x_I G 64 u.2), (d3, x_N G 32 (h_dg (pb j) (len j))), (tq, x_N G 32 (h_tw (pb j) (len j)))]) (pl1 := fun u => x_pl G pa ba cap len pb) (wr := []) B (x_rV (rest := []) E B (q_Pd_byteOfPool_y G l h0 gq kd vq sq gc kq cq pq dq e0 rq tq rs ck lt d1 d2 d3 Hf w0 go j i tt pa ba cap len pb (hj) (hi) (hcap) (hpb) _) (x_preP B [0, 1, 2, 3, 4, 5, 6, 7] rfl (by decide) x_ro0) 0 rfl k_Pd (gg_V wd_366 wd_368 wd_15 wd_34 wd_369) ⟨rfl, p_Pd_byteOfPool⟩ rfl rfl ⟨Nat.le_of_ble_eq_true rfl, Nat.le_of_ble_eq_true rfl⟩ rfl hl.1 rfl (Nat.le_of_ble_eq_true rfl) d_Pd_byteOf_91 ⟨Nat.le_of_ble_eq_true rfl, Nat.le_of_ble_eq_true rfl⟩) [0, 1, 2, 3, 4, 5, 6, 7] [] [0, 1, 2, 3, 4, 5, 6, 7] rfl rfl (by decide) (by decide) (by decide) (fun _ => rfl) (fun r91 u91 H locs hw91 B => ?_)
  subst hw91
  have B : xB G A s _ _ ([(h0, .inr (5, [.ref gq, .ref kd, .ref vq, .int (nI gc), .ref sq])), (gq, .inr (3, [.ref kq, .ref cq, .ref pq, .int (nI rs), .int ck, .int lt, .ref dq, .ref e0, .ref rq, .ref tq])), (pq, x_Q G 32 (fun j => some (pa j))), (dq, .inr (1, [.ref d1, .ref d2, .ref d3])), (d1, x_I G 8 u91.1), (d2, x_I G 64 u91.2), (d3, x_N G 32 (h_dg (pb j) (len j))), (tq, x_N G 32 (h_tw (pb j) (len j)))] ++ x_pl G pa ba cap len pb) := B
  exact hret _ u91 _ _ _ _ B (rfl) d_Pd_byteOf_94
set_option maxHeartbeats 4000000 in
set_option maxRecDepth 100000 in
theorem q_Pd_byteOf_n (G : xG) (l : Launch) (h0 gq kd vq sq gc : Nat) (x y : Int32) (hs : x.toInt < 0 ∨ 2 < x.toInt) (hv : ¬ (c_po (x - nI 3) = 1 ∧ ¬ y < 0 ∧ y < nI 32)) : xMr G l y_Pd_byteOf c_Pd_byteOf 3 .int ({ frames := 2, cells := 0, slots := 0, locals := 43 }) [.ref h0, .int x, .int y] [] [(h0, .inr (5, [.ref gq, .ref kd, .ref vq, .int (nI gc), .ref sq]))] (-1) := by
  refine xMr.by r_Pd (by decide +kernel) (Nat.le_of_ble_eq_true rfl) rfl ?_
  intro p e s m args below meth c A ls Q E B hro hl hret
  have hl : lv_has ls 3 [(0, .ref h0), (1, .int x), (2, .int y)] := hl
  refine lv_iload_n E.1 E.2.1 d_Pd_byteOf_0 rfl (lv_at hl 1 rfl) ?_
  refine lv_tableOut (tgt := 88) E.1 E.2.1 d_Pd_byteOf_1 (hs) (by decide) ?_
  refine lv_aload_n E.1 E.2.1 d_Pd_byteOf_88 rfl (lv_at hl 0 rfl) ?_
  refine lv_iload_n E.1 E.2.1 d_Pd_byteOf_89 rfl (lv_at hl 1 rfl) ?_
  refine lv_iload_n E.1 E.2.1 d_Pd_byteOf_90 rfl (lv_at hl 2 rfl) ?_
  refine x_cf (x_rV (rest := []) E B (q_Pd_byteOfPool_n G l h0 x y (hv) _) (x_pre B [] rfl (by decide) x_ro0) 0 rfl k_Pd (gg_V wd_366 wd_368 wd_15 wd_34 wd_369) ⟨rfl, p_Pd_byteOfPool⟩ rfl rfl ⟨Nat.le_of_ble_eq_true rfl, Nat.le_of_ble_eq_true rfl⟩ rfl hl.1 rfl (Nat.le_of_ble_eq_true rfl) d_Pd_byteOf_91 ⟨Nat.le_of_ble_eq_true rfl, Nat.le_of_ble_eq_true rfl⟩) ?_
  exact hret _ _ _ (rfl) d_Pd_byteOf_94
