set_option maxHeartbeats 4000000 in
set_option maxRecDepth 100000 in
theorem q_Pd_isByte (l : Launch) (x : Int32)  : xMf l y_Pd_isByte c_Pd_isByte 1 .boolean ({ frames := 0, cells := 0, slots := 0, locals := 0 }) [.int x] (nI (c_by x)) := by
  refine xMfz.by r_Pd (by decide +kernel) (Nat.le_of_ble_eq_true rfl) rfl ?_
  intro p e s m args below meth c ls Q E hl hret
  have hl : lv_has ls 1 [(0, .int x)] := hl
  refine lv_iload_n E.1 E.2.1 d_Pd_isByte_0 rfl (lv_at hl 0 rfl) ?_
  refine lv_if_lt (tgt := 15) E.1 E.2.1 d_Pd_isByte_1 (by decide) (fun h1 => ?_) (fun h1 => ?_)
  · refine lv_iconst (v := nI 0) E.1 E.2.1 d_Pd_isByte_15 (by decide) ?_
    exact hret _ _ _ (by first | exact c_by_y h1 h2 | exact c_by_b h2 | exact c_by_a h1) rfl d_Pd_isByte_16
  · refine lv_iload_n E.1 E.2.1 d_Pd_isByte_4 rfl (lv_at hl 0 rfl) ?_
    refine lv_sipush (v := nI 255) E.1 E.2.1 d_Pd_isByte_5 (by decide) ?_
    refine lv_icmp_gt (tgt := 15) E.1 E.2.1 d_Pd_isByte_8 (by decide) (fun h2 => ?_) (fun h2 => ?_)
    · refine lv_iconst (v := nI 0) E.1 E.2.1 d_Pd_isByte_15 (by decide) ?_
      exact hret _ _ _ (by first | exact c_by_y h1 h2 | exact c_by_b h2 | exact c_by_a h1) rfl d_Pd_isByte_16
    · refine lv_iconst (v := nI 1) E.1 E.2.1 d_Pd_isByte_11 (by decide) ?_
      refine lv_goto (tgt := 16) E.1 E.2.1 d_Pd_isByte_12 (by decide) ?_
      exact hret _ _ _ (by first | exact c_by_y h1 h2 | exact c_by_b h2 | exact c_by_a h1) rfl d_Pd_isByte_16
set_option maxHeartbeats 4000000 in
set_option maxRecDepth 100000 in
theorem q_Pd_isPool (l : Launch) (x : Int32)  : xMf l y_Pd_isPool c_Pd_isPool 1 .boolean ({ frames := 0, cells := 0, slots := 0, locals := 0 }) [.int x] (nI (c_po x)) := by
  refine xMfz.by r_Pd (by decide +kernel) (Nat.le_of_ble_eq_true rfl) rfl ?_
  intro p e s m args below meth c ls Q E hl hret
  have hl : lv_has ls 1 [(0, .int x)] := hl
  refine lv_iload_n E.1 E.2.1 d_Pd_isPool_0 rfl (lv_at hl 0 rfl) ?_
  refine lv_if_lt (tgt := 14) E.1 E.2.1 d_Pd_isPool_1 (by decide) (fun h1 => ?_) (fun h1 => ?_)
  · refine lv_iconst (v := nI 0) E.1 E.2.1 d_Pd_isPool_14 (by decide) ?_
    exact hret _ _ _ (by first | exact c_po_y h1 h2 | exact c_po_b h2 | exact c_po_a h1) rfl d_Pd_isPool_15
  · refine lv_iload_n E.1 E.2.1 d_Pd_isPool_4 rfl (lv_at hl 0 rfl) ?_
    refine lv_bipush (v := nI 32) E.1 E.2.1 d_Pd_isPool_5 (by decide) ?_
    refine lv_icmp_ge (tgt := 14) E.1 E.2.1 d_Pd_isPool_7 (by decide) (fun h2 => ?_) (fun h2 => ?_)
    · refine lv_iconst (v := nI 0) E.1 E.2.1 d_Pd_isPool_14 (by decide) ?_
      exact hret _ _ _ (by first | exact c_po_y h1 h2 | exact c_po_b h2 | exact c_po_a h1) rfl d_Pd_isPool_15
    · refine lv_iconst (v := nI 1) E.1 E.2.1 d_Pd_isPool_10 (by decide) ?_
      refine lv_goto (tgt := 15) E.1 E.2.1 d_Pd_isPool_11 (by decide) ?_
      exact hret _ _ _ (by first | exact c_po_y h1 h2 | exact c_po_b h2 | exact c_po_a h1) rfl d_Pd_isPool_15
set_option maxHeartbeats 4000000 in
set_option maxRecDepth 100000 in
theorem q_Pd_byteAt (G : xG) (l : Launch) (rw_ rn cnt : Nat) (x : Int32) (f : Nat → Nat) (hc : cnt ≤ rn) (hn : rn < 100000) : xMr G l y_Pd_byteAt c_Pd_byteAt 3 .int ({ frames := 0, cells := 0, slots := 0, locals := 0 }) [.ref rw_, .int x, .int (nI cnt)] [(rw_, rn, nA f)] [] (c_at f cnt x) := by
  refine xMr.by r_Pd (by decide +kernel) (Nat.le_of_ble_eq_true rfl) rfl ?_
  intro p e s m args below meth c A ls Q E B hro hl hret
  have hl : lv_has ls 3 [(0, .ref rw_), (1, .int x), (2, .int (nI cnt))] := hl
  have hR0 : x_R A s s.heap rw_ rn (nA f) := hro _ (List.mem_of_getElem? (i := 0) rfl)
  refine lv_iload_n E.1 E.2.1 d_Pd_byteAt_0 rfl (lv_at hl 1 rfl) ?_
  refine lv_if_lt (tgt := 15) E.1 E.2.1 d_Pd_byteAt_1 (by decide) (fun h1 => ?_) (fun h1 => ?_)
  · refine lv_iconst (v := -1) E.1 E.2.1 d_Pd_byteAt_15 (by decide) ?_
    exact hret _ _ _ (by first | exact c_at_y hj (by omega) | exact c_at_b h2 | exact c_at_a h1) d_Pd_byteAt_16
  · refine lv_iload_n E.1 E.2.1 d_Pd_byteAt_4 rfl (lv_at hl 1 rfl) ?_
    refine lv_iload_n E.1 E.2.1 d_Pd_byteAt_5 rfl (lv_at hl 2 rfl) ?_
    refine lv_icmp_ge (tgt := 15) E.1 E.2.1 d_Pd_byteAt_6 (by decide) (fun h2 => ?_) (fun h2 => ?_)
    · refine lv_iconst (v := -1) E.1 E.2.1 d_Pd_byteAt_15 (by decide) ?_
      exact hret _ _ _ (by first | exact c_at_y hj (by omega) | exact c_at_b h2 | exact c_at_a h1) d_Pd_byteAt_16
    · obtain ⟨j, hj, rfl⟩ : ∃ j : Nat, j < cnt ∧ x = nI j := x_ix h1 h2 (by omega)
      refine lv_aload_n E.1 E.2.1 d_Pd_byteAt_9 rfl (lv_at hl 0 rfl) ?_
      refine lv_iload_n E.1 E.2.1 d_Pd_byteAt_10 rfl (lv_at hl 1 rfl) ?_
      refine x_tld E B hR0 (i := j) (by omega) (by omega) d_Pd_byteAt_11 ?_
      refine lv_goto (tgt := 16) E.1 E.2.1 d_Pd_byteAt_12 (by decide) ?_
      exact hret _ _ _ (by first | exact c_at_y hj (by omega) | exact c_at_b h2 | exact c_at_a h1) d_Pd_byteAt_16
set_option maxHeartbeats 4000000 in
set_option maxRecDepth 100000 in
theorem q_Pd_startAgain (G : xG) (l : Launch) (h0 gq kd vq sq gc : Nat) (kq cq pq dq e0 rq tq rs : Nat) (ck lt : Int32) (key ctr : Nat → Nat) (pa ba cap len : Nat → Nat) (pb : Nat → Nat → Nat)  : xMv G l y_Pd_startAgain c_Pd_startAgain 1 ({ frames := 1, cells := 0, slots := 0, locals := 21 }) [.ref h0] [] ([(h0, .inr (5, [.ref gq, .ref kd, .ref vq, .int (nI gc), .ref sq])), (gq, .inr (3, [.ref kq, .ref cq, .ref pq, .int (nI rs), .int ck, .int lt, .ref dq, .ref e0, .ref rq, .ref tq])), (kq, x_N G 16 key), (cq, x_N G 16 ctr), (pq, x_Q G 32 (fun j => some (pa j)))] ++ x_pl G pa ba cap len pb) Unit (fun _ => True) (fun u => [(h0, .inr (5, [.ref gq, .ref kd, .ref vq, .int (nI 0), .ref sq])), (gq, .inr (3, [.ref kq, .ref cq, .ref pq, .int (nI 0), .int (nI 0), .int (-1), .ref dq, .ref e0, .ref rq, .ref tq])), (kq, x_N G 16 (fun _ => 0)), (cq, x_N G 16 (fun _ => 0)), (pq, x_Q G 32 (fun j => some (pa j)))] ++ x_pl G pa ba cap (fun _ => 0) pb) 0 0 := by
  refine xMv.by r_Pd (by decide +kernel) (Nat.le_of_ble_eq_true rfl) rfl ?_
  intro p e s m args below meth c A ls Q E hin B hro hl hret
  have hl : lv_has ls 1 [(0, .ref h0)] := hl
  refine lv_aload_n E.1 E.2.1 d_Pd_startAgain_0 rfl (lv_at hl 0 rfl) ?_
  refine x_get E B 0 rfl k_Pd 0 (by decide) wd_165 rfl d_Pd_startAgain_1 ?_
  refine x_cvP (X' := fun u => [(h0, .inr (5, [.ref gq, .ref kd, .ref vq, .int (nI gc), .ref sq])), (gq, .inr (3, [.ref kq, .ref cq, .ref pq, .int (nI 0), .int (nI 0), .int (-1), .ref dq, .ref e0, .ref rq, .ref tq])), (kq, x_N G 16 (fun _ => 0)), (cq, x_N G 16 (fun _ => 0)), (pq, x_Q G 32 (fun j => some (pa j)))]) (pl1 := fun u => x_pl G pa ba cap (fun _ => 0) pb) (wr := [(h0, .inr (5, [.ref gq, .ref kd, .ref vq, .int (nI gc), .ref sq]))]) B (x_rV (rest := []) E B (q_Ge_reset G l gq kq cq pq dq e0 rq tq rs ck lt key ctr pa ba cap len pb  _) (x_preP B [1, 2, 3, 4] rfl (by decide) x_ro0) 1 rfl k_Ge (gg_V wd_189 wd_190 wd_191 wd_35 wd_192) ⟨rfl, p_Ge_reset⟩ rfl rfl ⟨Nat.le_of_ble_eq_true rfl, Nat.le_of_ble_eq_true rfl⟩ rfl hl.1 rfl (Nat.le_of_ble_eq_true rfl) d_Pd_startAgain_4 ⟨Nat.le_of_ble_eq_true rfl, Nat.le_of_ble_eq_true rfl⟩) [1, 2, 3, 4] [0] [0, 1, 2, 3, 4] rfl rfl (by decide) (by decide) (by decide) (fun _ => rfl) (fun u4 H locs hw4 B => ?_)
  have B : xB G A s _ _ ([(h0, .inr (5, [.ref gq, .ref kd, .ref vq, .int (nI gc), .ref sq])), (gq, .inr (3, [.ref kq, .ref cq, .ref pq, .int (nI 0), .int (nI 0), .int (-1), .ref dq, .ref e0, .ref rq, .ref tq])), (kq, x_N G 16 (fun _ => 0)), (cq, x_N G 16 (fun _ => 0)), (pq, x_Q G 32 (fun j => some (pa j)))] ++ x_pl G pa ba cap (fun _ => 0) pb) := B
  refine lv_aload_n E.1 E.2.1 d_Pd_startAgain_7 rfl (lv_at hl 0 rfl) ?_
  refine lv_iconst (v := nI 0) E.1 E.2.1 d_Pd_startAgain_8 (by decide) ?_
  refine x_put E B 0 rfl k_Pd 3 (by decide) wd_168 rfl rfl rfl (Nat.le_of_ble_eq_true rfl) d_Pd_startAgain_9 (fun H locs B => ?_)
  have B : xB G A s _ _ ([(h0, .inr (5, [.ref gq, .ref kd, .ref vq, .int (nI 0), .ref sq])), (gq, .inr (3, [.ref kq, .ref cq, .ref pq, .int (nI 0), .int (nI 0), .int (-1), .ref dq, .ref e0, .ref rq, .ref tq])), (kq, x_N G 16 (fun _ => 0)), (cq, x_N G 16 (fun _ => 0)), (pq, x_Q G 32 (fun j => some (pa j)))] ++ x_pl G pa ba cap (fun _ => 0) pb) := B
  exact hret () _ _ _ _ B trivial d_Pd_startAgain_12
set_option maxHeartbeats 4000000 in
set_option maxRecDepth 100000 in
theorem q_Pd_init (G : xG) (l : Launch) (h0 gq kd vq sq gc : Nat) (kq cq pq dq e0 rq tq rs : Nat) (ck lt : Int32) (bq : Nat) (wr tc : Int32) (key ctr : Nat → Nat) (pa ba cap len : Nat → Nat) (pb : Nat → Nat → Nat)  : xMv G l y_Pd_init c_Pd_init 1 ({ frames := 2, cells := 0, slots := 0, locals := 41 }) [.ref h0] [] ([(h0, .inr (5, [.ref gq, .ref kd, .ref vq, .int (nI gc), .ref sq])), (gq, .inr (3, [.ref kq, .ref cq, .ref pq, .int (nI rs), .int ck, .int lt, .ref dq, .ref e0, .ref rq, .ref tq])), (kq, x_N G 16 key), (cq, x_N G 16 ctr), (pq, x_Q G 32 (fun j => some (pa j))), (kd, .inr (2, [.ref bq, .int wr, .int tc]))] ++ x_pl G pa ba cap len pb) Unit (fun _ => True) (fun u => [(h0, .inr (5, [.ref gq, .ref kd, .ref vq, .int (nI 0), .ref sq])), (gq, .inr (3, [.ref kq, .ref cq, .ref pq, .int (nI 0), .int (nI 0), .int (-1), .ref dq, .ref e0, .ref rq, .ref tq])), (kq, x_N G 16 (fun _ => 0)), (cq, x_N G 16 (fun _ => 0)), (pq, x_Q G 32 (fun j => some (pa j))), (kd, .inr (2, [.ref bq, .int wr, .int (d_tc (nI 0))]))] ++ x_pl G pa ba cap (fun _ => 0) pb) 0 0 := by
  refine xMv.by r_Pd (by decide +kernel) (Nat.le_of_ble_eq_true rfl) rfl ?_
  intro p e s m args below meth c A ls Q E hin B hro hl hret
  have hl : lv_has ls 1 [(0, .ref h0)] := hl
  refine lv_aload_n E.1 E.2.1 d_Pd_init_0 rfl (lv_at hl 0 rfl) ?_
  refine x_cvP (X' := fun u => [(h0, .inr (5, [.ref gq, .ref kd, .ref vq, .int (nI 0), .ref sq])), (gq, .inr (3, [.ref kq, .ref cq, .ref pq, .int (nI 0), .int (nI 0), .int (-1), .ref dq, .ref e0, .ref rq, .ref tq])), (kq, x_N G 16 (fun _ => 0)), (cq, x_N G 16 (fun _ => 0)), (pq, x_Q G 32 (fun j => some (pa j))), (kd, .inr (2, [.ref bq, .int wr, .int tc]))]) (pl1 := fun u => x_pl G pa ba cap (fun _ => 0) pb) (wr := [(kd, .inr (2, [.ref bq, .int wr, .int tc]))]) B (x_rV (rest := []) E B (q_Pd_startAgain G l h0 gq kd vq sq gc kq cq pq dq e0 rq tq rs ck lt key ctr pa ba cap len pb  _) (x_preP B [0, 1, 2, 3, 4] rfl (by decide) x_ro0) 0 rfl k_Pd (gg_V wd_185 wd_187 wd_0 wd_34 wd_188) ⟨rfl, p_Pd_startAgain⟩ rfl rfl ⟨Nat.le_of_ble_eq_true rfl, Nat.le_of_ble_eq_true rfl⟩ rfl hl.1 rfl (Nat.le_of_ble_eq_true rfl) d_Pd_init_1 ⟨Nat.le_of_ble_eq_true rfl, Nat.le_of_ble_eq_true rfl⟩) [0, 1, 2, 3, 4] [5] [1, 2, 3, 4, 5, 0] rfl rfl (by decide) (by decide) (by decide) (fun _ => rfl) (fun u1 H locs hw1 B => ?_)
  have B : xB G A s _ _ ([(h0, .inr (5, [.ref gq, .ref kd, .ref vq, .int (nI 0), .ref sq])), (gq, .inr (3, [.ref kq, .ref cq, .ref pq, .int (nI 0), .int (nI 0), .int (-1), .ref dq, .ref e0, .ref rq, .ref tq])), (kq, x_N G 16 (fun _ => 0)), (cq, x_N G 16 (fun _ => 0)), (pq, x_Q G 32 (fun j => some (pa j))), (kd, .inr (2, [.ref bq, .int wr, .int tc]))] ++ x_pl G pa ba cap (fun _ => 0) pb) := B
  refine lv_aload_n E.1 E.2.1 d_Pd_init_4 rfl (lv_at hl 0 rfl) ?_
  refine x_get E B 0 rfl k_Pd 1 (by decide) wd_166 rfl d_Pd_init_5 ?_
  refine lv_iconst (v := nI 0) E.1 E.2.1 d_Pd_init_8 (by decide) ?_
  refine x_cvX (X' := fun u => [(h0, .inr (5, [.ref gq, .ref kd, .ref vq, .int (nI 0), .ref sq])), (gq, .inr (3, [.ref kq, .ref cq, .ref pq, .int (nI 0), .int (nI 0), .int (-1), .ref dq, .ref e0, .ref rq, .ref tq])), (kq, x_N G 16 (fun _ => 0)), (cq, x_N G 16 (fun _ => 0)), (pq, x_Q G 32 (fun j => some (pa j))), (kd, .inr (2, [.ref bq, .int wr, .int (d_tc (nI 0))]))]) 6 B (x_rV (rest := []) E B (q_Dk_tellCrash G l kd bq wr tc (nI 0)  _) (x_pre B [5] rfl (by decide) x_ro0) 5 rfl k_Dk (gg_V wd_193 wd_194 wd_195 wd_39 wd_196) ⟨rfl, p_Dk_tellCrash⟩ rfl rfl ⟨Nat.le_of_ble_eq_true rfl, Nat.le_of_ble_eq_true rfl⟩ rfl hl.1 rfl (Nat.le_of_ble_eq_true rfl) d_Pd_init_9 ⟨Nat.le_of_ble_eq_true rfl, Nat.le_of_ble_eq_true rfl⟩) [5] [0, 1, 2, 3, 4] rfl rfl (fun _ => rfl) rfl (by decide) (fun _ => rfl) (fun _ => rfl) (fun _ => rfl) (by decide) (fun u9 H locs hw9 B => ?_)
  have B : xB G A s _ _ ([(h0, .inr (5, [.ref gq, .ref kd, .ref vq, .int (nI 0), .ref sq])), (gq, .inr (3, [.ref kq, .ref cq, .ref pq, .int (nI 0), .int (nI 0), .int (-1), .ref dq, .ref e0, .ref rq, .ref tq])), (kq, x_N G 16 (fun _ => 0)), (cq, x_N G 16 (fun _ => 0)), (pq, x_Q G 32 (fun j => some (pa j))), (kd, .inr (2, [.ref bq, .int wr, .int (d_tc (nI 0))]))] ++ x_pl G pa ba cap (fun _ => 0) pb) := B
  exact hret () _ _ _ _ B trivial d_Pd_init_12
set_option maxHeartbeats 4000000 in
set_option maxRecDepth 100000 in
theorem q_Pd_tick (G : xG) (l : Launch) (h0 gq kd vq sq gc : Nat) (kq cq pq dq e0 rq tq rs : Nat) (ck lt : Int32) (ms : Int32)  : xMi G l y_Pd_tick c_Pd_tick 2 .int ({ frames := 1, cells := 0, slots := 0, locals := 21 }) [.ref h0, .int ms] [] [(h0, .inr (5, [.ref gq, .ref kd, .ref vq, .int (nI gc), .ref sq])), (gq, .inr (3, [.ref kq, .ref cq, .ref pq, .int (nI rs), .int ck, .int lt, .ref dq, .ref e0, .ref rq, .ref tq]))] Unit (fun r _ => r = c_pt ck ms) (fun u => [(h0, .inr (5, [.ref gq, .ref kd, .ref vq, .int (nI gc), .ref sq])), (gq, .inr (3, [.ref kq, .ref cq, .ref pq, .int (nI rs), .int (c_pt ck ms), .int lt, .ref dq, .ref e0, .ref rq, .ref tq]))]) 0 0 := by
  refine xMi.by r_Pd (by decide +kernel) (Nat.le_of_ble_eq_true rfl) rfl ?_
  intro p e s m args below meth c A ls Q E B hro hl hret
  have hl : lv_has ls 2 [(0, .ref h0), (1, .int ms)] := hl
  refine lv_aload_n E.1 E.2.1 d_Pd_tick_0 rfl (lv_at hl 0 rfl) ?_
  refine x_get E B 0 rfl k_Pd 0 (by decide) wd_165 rfl d_Pd_tick_1 ?_
  refine lv_iload_n E.1 E.2.1 d_Pd_tick_4 rfl (lv_at hl 1 rfl) ?_
  refine x_ci (ws' := (fun u => [(h0, .inr (5, [.ref gq, .ref kd, .ref vq, .int (nI gc), .ref sq])), (gq, .inr (3, [.ref kq, .ref cq, .ref pq, .int (nI rs), .int (c_pt ck ms), .int lt, .ref dq, .ref e0, .ref rq, .ref tq]))])) (wr := [(h0, .inr (5, [.ref gq, .ref kd, .ref vq, .int (nI gc), .ref sq]))]) B (x_rV (rest := []) E B (q_Ge_passTime G l gq kq cq pq dq e0 rq tq rs ck lt ms  _) (x_pre B [1] rfl (by decide) x_ro0) 1 rfl k_Ge (gg_V wd_222 wd_223 wd_224 wd_35 wd_225) ⟨rfl, p_Ge_passTime⟩ rfl rfl ⟨Nat.le_of_ble_eq_true rfl, Nat.le_of_ble_eq_true rfl⟩ rfl hl.1 rfl (Nat.le_of_ble_eq_true rfl) d_Pd_tick_5 ⟨Nat.le_of_ble_eq_true rfl, Nat.le_of_ble_eq_true rfl⟩) [1] [0] [0, 1] rfl rfl (by decide) (by decide) (by decide) (fun _ => rfl) (fun r5 u5 H locs hw5 B => ?_)
  subst hw5
  have B : xB G A s _ _ ([(h0, .inr (5, [.ref gq, .ref kd, .ref vq, .int (nI gc), .ref sq])), (gq, .inr (3, [.ref kq, .ref cq, .ref pq, .int (nI rs), .int (c_pt ck ms), .int lt, .ref dq, .ref e0, .ref rq, .ref tq]))]) := B
  exact hret _ () _ _ _ _ B (rfl) d_Pd_tick_8
set_option maxHeartbeats 4000000 in
set_option maxRecDepth 100000 in
theorem q_Pd_crash (G : xG) (l : Launch) (h0 gq kd vq sq gc : Nat) (bq : Nat) (wr tc : Int32) (x : Int32)  : xMv G l y_Pd_crash c_Pd_crash 2 ({ frames := 1, cells := 0, slots := 0, locals := 21 }) [.ref h0, .int x] [] [(h0, .inr (5, [.ref gq, .ref kd, .ref vq, .int (nI gc), .ref sq])), (kd, .inr (2, [.ref bq, .int wr, .int tc]))] Unit (fun _ => True) (fun u => [(h0, .inr (5, [.ref gq, .ref kd, .ref vq, .int (nI gc), .ref sq])), (kd, .inr (2, [.ref bq, .int wr, .int (d_tc x)]))]) 0 0 := by
  refine xMv.by r_Pd (by decide +kernel) (Nat.le_of_ble_eq_true rfl) rfl ?_
  intro p e s m args below meth c A ls Q E hin B hro hl hret
  have hl : lv_has ls 2 [(0, .ref h0), (1, .int x)] := hl
  refine lv_aload_n E.1 E.2.1 d_Pd_crash_0 rfl (lv_at hl 0 rfl) ?_
  refine x_get E B 0 rfl k_Pd 1 (by decide) wd_166 rfl d_Pd_crash_1 ?_
  refine lv_iload_n E.1 E.2.1 d_Pd_crash_4 rfl (lv_at hl 1 rfl) ?_
  refine x_cv (ws' := (fun u => [(h0, .inr (5, [.ref gq, .ref kd, .ref vq, .int (nI gc), .ref sq])), (kd, .inr (2, [.ref bq, .int wr, .int (d_tc x)]))])) (wr := [(h0, .inr (5, [.ref gq, .ref kd, .ref vq, .int (nI gc), .ref sq]))]) B (x_rV (rest := []) E B (q_Dk_tellCrash G l kd bq wr tc x  _) (x_pre B [1] rfl (by decide) x_ro0) 1 rfl k_Dk (gg_V wd_193 wd_194 wd_195 wd_39 wd_196) ⟨rfl, p_Dk_tellCrash⟩ rfl rfl ⟨Nat.le_of_ble_eq_true rfl, Nat.le_of_ble_eq_true rfl⟩ rfl hl.1 rfl (Nat.le_of_ble_eq_true rfl) d_Pd_crash_5 ⟨Nat.le_of_ble_eq_true rfl, Nat.le_of_ble_eq_true rfl⟩) [1] [0] [0, 1] rfl rfl (by decide) (by decide) (by decide) (fun _ => rfl) (fun u5 H locs hw5 B => ?_)
  have B : xB G A s _ _ ([(h0, .inr (5, [.ref gq, .ref kd, .ref vq, .int (nI gc), .ref sq])), (kd, .inr (2, [.ref bq, .int wr, .int (d_tc x)]))]) := B
  exact hret () _ _ _ _ B trivial d_Pd_crash_8
set_option maxHeartbeats 4000000 in
set_option maxRecDepth 100000 in
theorem q_Pd_event_n (G : xG) (l : Launch) (h0 : Nat) (x y z : Int32) (hv : ¬ (c_by x = 1 ∧ c_po y = 1 ∧ c_by z = 1)) : xMr G l y_Pd_event c_Pd_event 4 .boolean ({ frames := 1, cells := 0, slots := 0, locals := 20 }) [.ref h0, .int x, .int y, .int z] [] [] (nI 0) := by
  refine xMrz.by r_Pd (by decide +kernel) (Nat.le_of_ble_eq_true rfl) rfl ?_
  intro p e s m args below meth c A ls Q E B hro hl hret
  have hl : lv_has ls 4 [(0, .ref h0), (1, .int x), (2, .int y), (3, .int z)] := hl
  refine lv_iload_n E.1 E.2.1 d_Pd_event_0 rfl (lv_at hl 1 rfl) ?_
  refine x_cf (x_rS (rest := []) E (q_Pd_isByte l x ) x_pf (gg_S wd_201 wd_202 wd_34 wd_203) p_Pd_isByte rfl rfl ⟨Nat.le_of_ble_eq_true rfl, Nat.le_of_ble_eq_true rfl⟩ rfl hl.1 rfl (Nat.le_of_ble_eq_true rfl) d_Pd_event_1 ⟨Nat.le_of_ble_eq_true rfl, Nat.le_of_ble_eq_true rfl⟩) ?_
  refine x_if0 (tgt := 21) E d_Pd_event_4 (by decide) (by have := c_by_le x; omega) (fun h1 => ?_) (fun h1 => ?_)
  · refine lv_iconst (v := nI 0) E.1 E.2.1 d_Pd_event_21 (by decide) ?_
    exact hret _ _ _ (rfl) rfl d_Pd_event_22
  · refine lv_iload_n E.1 E.2.1 d_Pd_event_7 rfl (lv_at hl 2 rfl) ?_
    refine x_cf (x_rS (rest := []) E (q_Pd_isPool l y ) x_pf (gg_S wd_204 wd_205 wd_34 wd_206) p_Pd_isPool rfl rfl ⟨Nat.le_of_ble_eq_true rfl, Nat.le_of_ble_eq_true rfl⟩ rfl hl.1 rfl (Nat.le_of_ble_eq_true rfl) d_Pd_event_8 ⟨Nat.le_of_ble_eq_true rfl, Nat.le_of_ble_eq_true rfl⟩) ?_
    refine x_if0 (tgt := 21) E d_Pd_event_11 (by decide) (by have := c_po_le y; omega) (fun h2 => ?_) (fun h2 => ?_)
    · refine lv_iconst (v := nI 0) E.1 E.2.1 d_Pd_event_21 (by decide) ?_
      exact hret _ _ _ (rfl) rfl d_Pd_event_22
    · refine lv_iload_n E.1 E.2.1 d_Pd_event_14 rfl (lv_at hl 3 rfl) ?_
      refine x_cf (x_rS (rest := []) E (q_Pd_isByte l z ) x_pf (gg_S wd_201 wd_202 wd_34 wd_203) p_Pd_isByte rfl rfl ⟨Nat.le_of_ble_eq_true rfl, Nat.le_of_ble_eq_true rfl⟩ rfl hl.1 rfl (Nat.le_of_ble_eq_true rfl) d_Pd_event_15 ⟨Nat.le_of_ble_eq_true rfl, Nat.le_of_ble_eq_true rfl⟩) ?_
      refine x_ifn (tgt := 23) E d_Pd_event_18 (by decide) (by have := c_by_le z; omega) (fun h3 => ?_) (fun h3 => ?_)
      · exfalso; have := c_by_le x; have := c_po_le y; have := c_by_le z; exact hv ⟨by omega, by omega, by omega⟩
      · refine lv_iconst (v := nI 0) E.1 E.2.1 d_Pd_event_21 (by decide) ?_
        exact hret _ _ _ (rfl) rfl d_Pd_event_22
set_option maxHeartbeats 4000000 in
set_option maxRecDepth 100000 in
theorem q_Pd_event_y (G : xG) (l : Launch) (h0 gq kd vq sq gc : Nat) (kq cq pq dq e0 rq tq rs : Nat) (ck lt : Int32) (sr j b : Nat) (pa ba cap len : Nat → Nat) (pb : Nat → Nat → Nat) (hs : sr < 256) (hj : j < 32) (hb : b < 256) (hcap : len j ≤ cap j ∧ 12 ≤ cap j ∧ cap j ≤ 3072 ∧ len j + 3 ≤ 1536) : xMi G l y_Pd_event c_Pd_event 4 .boolean ({ frames := 3, cells := 1, slots := 3072, locals := 103 }) [.ref h0, .int (nI sr), .int (nI j), .int (nI b)] [] ([(h0, .inr (5, [.ref gq, .ref kd, .ref vq, .int (nI gc), .ref sq])), (gq, .inr (3, [.ref kq, .ref cq, .ref pq, .int (nI rs), .int ck, .int lt, .ref dq, .ref e0, .ref rq, .ref tq])), (pq, x_Q G 32 (fun j => some (pa j)))] ++ x_pl G pa ba cap len pb) (Nat × Nat × (Nat → Nat)) (fun r u => r = nI 1 ∧ 12 ≤ u.2.1 ∧ u.2.1 ≤ 3072 ∧ len j + 3 ≤ u.2.1 ∧ ∀ k, k < len j + 3 → u.2.2 k = p_ev (pb j) (len j) sr b k) (fun u => [(h0, .inr (5, [.ref gq, .ref kd, .ref vq, .int (nI gc), .ref sq])), (gq, .inr (3, [.ref kq, .ref cq, .ref pq, .int (nI rs), .int ck, .int lt, .ref dq, .ref e0, .ref rq, .ref tq])), (pq, x_Q G 32 (fun j => some (pa j)))] ++ x_pl G pa (va_up ba j u.1) (va_up cap j u.2.1) (va_up len j (len j + 3)) (va_up pb j u.2.2)) 1 3072 := by
  refine xMz.by r_Pd (by decide +kernel) (Nat.le_of_ble_eq_true rfl) rfl ?_
  intro p e s m args below meth c A ls Q E B hro hl hret
  have hl : lv_has ls 4 [(0, .ref h0), (1, .int (nI sr)), (2, .int (nI j)), (3, .int (nI b))] := hl
  refine lv_iload_n E.1 E.2.1 d_Pd_event_0 rfl (lv_at hl 1 rfl) ?_
  refine x_cf (x_rS (rest := []) E (q_Pd_isByte l (nI sr) ) x_pf (gg_S wd_201 wd_202 wd_34 wd_203) p_Pd_isByte rfl rfl ⟨Nat.le_of_ble_eq_true rfl, Nat.le_of_ble_eq_true rfl⟩ rfl hl.1 rfl (Nat.le_of_ble_eq_true rfl) d_Pd_event_1 ⟨Nat.le_of_ble_eq_true rfl, Nat.le_of_ble_eq_true rfl⟩) ?_
  refine x_top (show nI (c_by (nI sr)) = nI 1 from congrArg nI (by exact c_by_n hs)) ?_
  refine x_if0 (tgt := 21) E d_Pd_event_4 (by decide) (by omega) (fun c1 => ?_) (fun c1 => ?_)
  · exfalso; omega
  · refine lv_iload_n E.1 E.2.1 d_Pd_event_7 rfl (lv_at hl 2 rfl) ?_
    refine x_cf (x_rS (rest := []) E (q_Pd_isPool l (nI j) ) x_pf (gg_S wd_204 wd_205 wd_34 wd_206) p_Pd_isPool rfl rfl ⟨Nat.le_of_ble_eq_true rfl, Nat.le_of_ble_eq_true rfl⟩ rfl hl.1 rfl (Nat.le_of_ble_eq_true rfl) d_Pd_event_8 ⟨Nat.le_of_ble_eq_true rfl, Nat.le_of_ble_eq_true rfl⟩) ?_
    refine x_top (show nI (c_po (nI j)) = nI 1 from congrArg nI (by exact c_po_n hj)) ?_
    refine x_if0 (tgt := 21) E d_Pd_event_11 (by decide) (by omega) (fun c2 => ?_) (fun c2 => ?_)
    · exfalso; omega
    · refine lv_iload_n E.1 E.2.1 d_Pd_event_14 rfl (lv_at hl 3 rfl) ?_
      refine x_cf (x_rS (rest := []) E (q_Pd_isByte l (nI b) ) x_pf (gg_S wd_201 wd_202 wd_34 wd_203) p_Pd_isByte rfl rfl ⟨Nat.le_of_ble_eq_true rfl, Nat.le_of_ble_eq_true rfl⟩ rfl hl.1 rfl (Nat.le_of_ble_eq_true rfl) d_Pd_event_15 ⟨Nat.le_of_ble_eq_true rfl, Nat.le_of_ble_eq_true rfl⟩) ?_
      refine x_top (show nI (c_by (nI b)) = nI 1 from congrArg nI (by exact c_by_n hb)) ?_
      refine x_ifn (tgt := 23) E d_Pd_event_18 (by decide) (by omega) (fun c3 => ?_) (fun c3 => ?_)
      · refine lv_aload_n E.1 E.2.1 d_Pd_event_23 rfl (lv_at hl 0 rfl) ?_
        refine x_get E B 0 rfl k_Pd 0 (by decide) wd_165 rfl d_Pd_event_24 ?_
        refine x_get E B 1 rfl k_Ge 2 (by decide) wd_114 rfl d_Pd_event_27 ?_
        refine lv_iload_n E.1 E.2.1 d_Pd_event_30 rfl (lv_at hl 2 rfl) ?_
        refine x_aldp E B 2 rfl (i := j) (by omega) (by decide) d_Pd_event_31 ?_
        refine lv_iload_n E.1 E.2.1 d_Pd_event_32 rfl (lv_at hl 1 rfl) ?_
        refine lv_iload_n E.1 E.2.1 d_Pd_event_33 rfl (lv_at hl 3 rfl) ?_
        refine x_ciI B (x_rV (rest := []) E B (q_Po_add G l (pa j) (ba j) (cap j) (len j) sr b (pb j) (hcap.1) (hcap.2.1) (hcap.2.2.1) (hcap.2.2.2) _) (x_pre B [3 + j, 3 + (32 + j)] (x_plC rfl (by omega)) x_plN x_ro0) (3 + j) (x_plO rfl (by omega)) k_Po (gg_V wd_207 wd_208 wd_209 wd_36 wd_210) ⟨rfl, p_Po_add⟩ rfl rfl ⟨Nat.le_of_ble_eq_true rfl, Nat.le_of_ble_eq_true rfl⟩ rfl hl.1 rfl (Nat.le_of_ble_eq_true rfl) d_Pd_event_34 ⟨Nat.le_of_ble_eq_true rfl, Nat.le_of_ble_eq_true rfl⟩) [3 + j, 3 + (32 + j)] (x_plC rfl (by omega)) x_plN (fun _ => rfl) (fun r u H locs hw B => ?_)
        have B := B.eq ([(h0, .inr (5, [.ref gq, .ref kd, .ref vq, .int (nI gc), .ref sq])), (gq, .inr (3, [.ref kq, .ref cq, .ref pq, .int (nI rs), .int ck, .int lt, .ref dq, .ref e0, .ref rq, .ref tq])), (pq, x_Q G 32 (fun j => some (pa j)))] ++ x_pl G pa (va_up ba j u.1) (va_up cap j u.2.1) (va_up len j (len j + 3)) (va_up pb j u.2.2)) (x_plW rfl (by omega) _ _ _ _)
        exact hret _ u _ _ _ _ B (hw) (by rw [hw.1]; rfl) d_Pd_event_37
      · exfalso; omega
