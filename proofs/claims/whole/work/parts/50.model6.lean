set_option maxHeartbeats 4000000 in
set_option maxRecDepth 100000 in
theorem q_Mo_init (G : xG) (l : Launch) (h0 cd kq cq rs lq pq oq os bq rq ln wq hq dq nq aq xq yq sq tq rd : Nat) (ck lt tc wr : Int32) (key ctr len : Nat → Nat)  : xMv G l y_Mo_init c_Mo_init 1 ({ frames := 1, cells := 0, slots := 0, locals := 21 }) [.ref h0] [] [(h0, .inr (6, [.int (nI cd), .ref kq, .ref cq, .int (nI rs), .int ck, .int lt, .ref lq, .ref pq, .ref oq, .int (nI os), .ref bq, .int tc, .int wr, .ref rq, .int (nI ln), .ref wq, .ref hq, .ref dq, .ref nq, .ref aq, .ref xq, .ref yq, .ref sq, .ref tq, .int (nI rd)])), (kq, x_N G 16 key), (cq, x_N G 16 ctr), (lq, x_N G 32 len)] Unit (fun _ => True) (fun u => [(h0, .inr (6, [.int (nI 0), .ref kq, .ref cq, .int (nI 0), .int (nI 0), .int (-1), .ref lq, .ref pq, .ref oq, .int (nI 0), .ref bq, .int (nI 0), .int wr, .ref rq, .int (nI ln), .ref wq, .ref hq, .ref dq, .ref nq, .ref aq, .ref xq, .ref yq, .ref sq, .ref tq, .int (nI rd)])), (kq, x_N G 16 (fun _ => 0)), (cq, x_N G 16 (fun _ => 0)), (lq, x_N G 32 (fun _ => 0))]) 0 0 := by
  refine xMv.by r_Mo (by decide +kernel) (Nat.le_of_ble_eq_true rfl) rfl ?_
  intro p e s m args below meth c A ls Q E hin B hro hl hret
  have hl : lv_has ls 1 [(0, .ref h0)] := hl
  refine lv_aload_n E.1 E.2.1 d_Mo_init_0 rfl (lv_at hl 0 rfl) ?_
  refine lv_iconst (v := nI 0) E.1 E.2.1 d_Mo_init_1 (by decide) ?_
  refine x_put E B 0 rfl k_Mo 0 (by decide) wd_393 rfl rfl rfl (Nat.le_of_ble_eq_true rfl) d_Mo_init_2 (fun H locs B => ?_)
  have B : xB G A s _ _ ([(h0, .inr (6, [.int (nI 0), .ref kq, .ref cq, .int (nI rs), .int ck, .int lt, .ref lq, .ref pq, .ref oq, .int (nI os), .ref bq, .int tc, .int wr, .ref rq, .int (nI ln), .ref wq, .ref hq, .ref dq, .ref nq, .ref aq, .ref xq, .ref yq, .ref sq, .ref tq, .int (nI rd)])), (kq, x_N G 16 key), (cq, x_N G 16 ctr), (lq, x_N G 32 len)]) := B
  refine lv_aload_n E.1 E.2.1 d_Mo_init_5 rfl (lv_at hl 0 rfl) ?_
  refine x_cv (ws' := (fun u => [(h0, .inr (6, [.int (nI 0), .ref kq, .ref cq, .int (nI 0), .int (nI 0), .int (-1), .ref lq, .ref pq, .ref oq, .int (nI 0), .ref bq, .int (nI 0), .int wr, .ref rq, .int (nI ln), .ref wq, .ref hq, .ref dq, .ref nq, .ref aq, .ref xq, .ref yq, .ref sq, .ref tq, .int (nI rd)])), (kq, x_N G 16 (fun _ => 0)), (cq, x_N G 16 (fun _ => 0)), (lq, x_N G 32 (fun _ => 0))])) (wr := []) B (x_rV (rest := []) E B (q_Mo_first G l h0 0 kq cq rs lq pq oq os bq rq ln wq hq dq nq aq xq yq sq tq rd ck lt tc wr key ctr len  _) (x_pre B [0, 1, 2, 3] rfl (by decide) x_ro0) 0 rfl k_Mo (gg_V wd_473 wd_475 wd_17 wd_40 wd_476) ⟨rfl, p_Mo_first⟩ rfl rfl ⟨Nat.le_of_ble_eq_true rfl, Nat.le_of_ble_eq_true rfl⟩ rfl hl.1 rfl (Nat.le_of_ble_eq_true rfl) d_Mo_init_6 ⟨Nat.le_of_ble_eq_true rfl, Nat.le_of_ble_eq_true rfl⟩) [0, 1, 2, 3] [] [0, 1, 2, 3] rfl rfl (by decide) (by decide) (by decide) (fun _ => rfl) (fun u6 H locs hw6 B => ?_)
  have B : xB G A s _ _ ([(h0, .inr (6, [.int (nI 0), .ref kq, .ref cq, .int (nI 0), .int (nI 0), .int (-1), .ref lq, .ref pq, .ref oq, .int (nI 0), .ref bq, .int (nI 0), .int wr, .ref rq, .int (nI ln), .ref wq, .ref hq, .ref dq, .ref nq, .ref aq, .ref xq, .ref yq, .ref sq, .ref tq, .int (nI rd)])), (kq, x_N G 16 (fun _ => 0)), (cq, x_N G 16 (fun _ => 0)), (lq, x_N G 32 (fun _ => 0))]) := B
  exact hret () _ _ _ _ B trivial d_Mo_init_9
set_option maxHeartbeats 4000000 in
set_option maxRecDepth 100000 in
theorem q_Mo_event_n (G : xG) (l : Launch) (h0 cd kq cq rs lq pq oq os bq rq ln wq hq dq nq aq xq yq sq tq rd : Nat) (ck lt tc wr : Int32) (x y z : Int32) (hv : ¬ (c_in x 256 = 1 ∧ c_in y 32 = 1 ∧ c_in z 256 = 1)) : xMi G l y_Mo_event c_Mo_event 5 .boolean ({ frames := 1, cells := 0, slots := 0, locals := 21 }) [.ref h0, .int x, .int y, .int z] [] [(h0, .inr (6, [.int (nI cd), .ref kq, .ref cq, .int (nI rs), .int ck, .int lt, .ref lq, .ref pq, .ref oq, .int (nI os), .ref bq, .int tc, .int wr, .ref rq, .int (nI ln), .ref wq, .ref hq, .ref dq, .ref nq, .ref aq, .ref xq, .ref yq, .ref sq, .ref tq, .int (nI rd)]))] Unit (fun r _ => r = nI 0) (fun u => [(h0, .inr (6, [.int (nI 0), .ref kq, .ref cq, .int (nI rs), .int ck, .int lt, .ref lq, .ref pq, .ref oq, .int (nI os), .ref bq, .int tc, .int wr, .ref rq, .int (nI ln), .ref wq, .ref hq, .ref dq, .ref nq, .ref aq, .ref xq, .ref yq, .ref sq, .ref tq, .int (nI rd)]))]) 0 0 := by
  refine xMz.by r_Mo (by decide +kernel) (Nat.le_of_ble_eq_true rfl) rfl ?_
  intro p e s m args below meth c A ls Q E B hro hl hret
  have hl : lv_has ls 5 [(0, .ref h0), (1, .int x), (2, .int y), (3, .int z)] := hl
  refine lv_aload_n E.1 E.2.1 d_Mo_event_0 rfl (lv_at hl 0 rfl) ?_
  refine lv_iconst (v := nI 0) E.1 E.2.1 d_Mo_event_1 (by decide) ?_
  refine x_put E B 0 rfl k_Mo 0 (by decide) wd_393 rfl rfl rfl (Nat.le_of_ble_eq_true rfl) d_Mo_event_2 (fun H locs B => ?_)
  have B : xB G A s _ _ ([(h0, .inr (6, [.int (nI 0), .ref kq, .ref cq, .int (nI rs), .int ck, .int lt, .ref lq, .ref pq, .ref oq, .int (nI os), .ref bq, .int tc, .int wr, .ref rq, .int (nI ln), .ref wq, .ref hq, .ref dq, .ref nq, .ref aq, .ref xq, .ref yq, .ref sq, .ref tq, .int (nI rd)]))]) := B
  refine lv_iload_n E.1 E.2.1 d_Mo_event_5 rfl (lv_at hl 1 rfl) ?_
  refine lv_sipush (v := nI 256) E.1 E.2.1 d_Mo_event_6 (by decide) ?_
  refine x_cf (x_rS (rest := []) E (q_Mo_in l x 256 ) x_pf (gg_S wd_481 wd_482 wd_40 wd_483) p_Mo_in rfl rfl ⟨Nat.le_of_ble_eq_true rfl, Nat.le_of_ble_eq_true rfl⟩ rfl hl.1 rfl (Nat.le_of_ble_eq_true rfl) d_Mo_event_9 ⟨Nat.le_of_ble_eq_true rfl, Nat.le_of_ble_eq_true rfl⟩) ?_
  refine x_if0 (tgt := 34) E d_Mo_event_12 (by decide) (by have := c_in_le x 256; omega) (fun h1 => ?_) (fun h1 => ?_)
  · refine lv_iconst (v := nI 0) E.1 E.2.1 d_Mo_event_34 (by decide) ?_
    exact hret _ () _ _ _ _ B (rfl) rfl d_Mo_event_35
  · refine lv_iload_n E.1 E.2.1 d_Mo_event_15 rfl (lv_at hl 2 rfl) ?_
    refine lv_bipush (v := nI 32) E.1 E.2.1 d_Mo_event_16 (by decide) ?_
    refine x_cf (x_rS (rest := []) E (q_Mo_in l y 32 ) x_pf (gg_S wd_481 wd_482 wd_40 wd_483) p_Mo_in rfl rfl ⟨Nat.le_of_ble_eq_true rfl, Nat.le_of_ble_eq_true rfl⟩ rfl hl.1 rfl (Nat.le_of_ble_eq_true rfl) d_Mo_event_18 ⟨Nat.le_of_ble_eq_true rfl, Nat.le_of_ble_eq_true rfl⟩) ?_
    refine x_if0 (tgt := 34) E d_Mo_event_21 (by decide) (by have := c_in_le y 32; omega) (fun h2 => ?_) (fun h2 => ?_)
    · refine lv_iconst (v := nI 0) E.1 E.2.1 d_Mo_event_34 (by decide) ?_
      exact hret _ () _ _ _ _ B (rfl) rfl d_Mo_event_35
    · refine lv_iload_n E.1 E.2.1 d_Mo_event_24 rfl (lv_at hl 3 rfl) ?_
      refine lv_sipush (v := nI 256) E.1 E.2.1 d_Mo_event_25 (by decide) ?_
      refine x_cf (x_rS (rest := []) E (q_Mo_in l z 256 ) x_pf (gg_S wd_481 wd_482 wd_40 wd_483) p_Mo_in rfl rfl ⟨Nat.le_of_ble_eq_true rfl, Nat.le_of_ble_eq_true rfl⟩ rfl hl.1 rfl (Nat.le_of_ble_eq_true rfl) d_Mo_event_28 ⟨Nat.le_of_ble_eq_true rfl, Nat.le_of_ble_eq_true rfl⟩) ?_
      refine x_ifn (tgt := 36) E d_Mo_event_31 (by decide) (by have := c_in_le z 256; omega) (fun h3 => ?_) (fun h3 => ?_)
      · exfalso; have := c_in_le x 256; have := c_in_le y 32; have := c_in_le z 256; exact hv ⟨by omega, by omega, by omega⟩
      · refine lv_iconst (v := nI 0) E.1 E.2.1 d_Mo_event_34 (by decide) ?_
        exact hret _ () _ _ _ _ B (rfl) rfl d_Mo_event_35
set_option maxHeartbeats 4000000 in
set_option maxRecDepth 100000 in
theorem q_Mo_event_y (G : xG) (l : Launch) (h0 cd kq cq rs lq pq oq os bq rq ln wq hq dq nq aq xq yq sq tq rd : Nat) (ck lt tc wr : Int32) (sr j b : Nat) (len pp : Nat → Nat) (hs : sr < 256) (hj : j < 32) (hb : b < 256) (hln : len j + 3 ≤ 1600) : xMi G l y_Mo_event c_Mo_event 5 .boolean ({ frames := 1, cells := 0, slots := 0, locals := 21 }) [.ref h0, .int (nI sr), .int (nI j), .int (nI b)] [] [(h0, .inr (6, [.int (nI cd), .ref kq, .ref cq, .int (nI rs), .int ck, .int lt, .ref lq, .ref pq, .ref oq, .int (nI os), .ref bq, .int tc, .int wr, .ref rq, .int (nI ln), .ref wq, .ref hq, .ref dq, .ref nq, .ref aq, .ref xq, .ref yq, .ref sq, .ref tq, .int (nI rd)])), (lq, x_N G 32 len), (pq, x_N G 51200 pp)] Unit (fun r _ => r = nI 1) (fun u => [(h0, .inr (6, [.int (nI 0), .ref kq, .ref cq, .int (nI rs), .int ck, .int lt, .ref lq, .ref pq, .ref oq, .int (nI os), .ref bq, .int tc, .int wr, .ref rq, .int (nI ln), .ref wq, .ref hq, .ref dq, .ref nq, .ref aq, .ref xq, .ref yq, .ref sq, .ref tq, .int (nI rd)])), (lq, x_N G 32 (va_up len j (len j + 3))), (pq, x_N G 51200 (va_up (va_up (va_up pp (1600 * j + len j) sr) ((1600 * j + len j) + 1) 1) ((1600 * j + len j) + 2) b))]) 0 0 := by
  refine xMz.by r_Mo (by decide +kernel) (Nat.le_of_ble_eq_true rfl) rfl ?_
  intro p e s m args below meth c A ls Q E B hro hl hret
  have hl : lv_has ls 5 [(0, .ref h0), (1, .int (nI sr)), (2, .int (nI j)), (3, .int (nI b))] := hl
  refine lv_aload_n E.1 E.2.1 d_Mo_event_0 rfl (lv_at hl 0 rfl) ?_
  refine lv_iconst (v := nI 0) E.1 E.2.1 d_Mo_event_1 (by decide) ?_
  refine x_put E B 0 rfl k_Mo 0 (by decide) wd_393 rfl rfl rfl (Nat.le_of_ble_eq_true rfl) d_Mo_event_2 (fun H locs B => ?_)
  have B : xB G A s _ _ ([(h0, .inr (6, [.int (nI 0), .ref kq, .ref cq, .int (nI rs), .int ck, .int lt, .ref lq, .ref pq, .ref oq, .int (nI os), .ref bq, .int tc, .int wr, .ref rq, .int (nI ln), .ref wq, .ref hq, .ref dq, .ref nq, .ref aq, .ref xq, .ref yq, .ref sq, .ref tq, .int (nI rd)])), (lq, x_N G 32 len), (pq, x_N G 51200 pp)]) := B
  refine lv_iload_n E.1 E.2.1 d_Mo_event_5 rfl (lv_at hl 1 rfl) ?_
  refine lv_sipush (v := nI 256) E.1 E.2.1 d_Mo_event_6 (by decide) ?_
  refine x_cf (x_rS (rest := []) E (q_Mo_in l (nI sr) 256 ) x_pf (gg_S wd_481 wd_482 wd_40 wd_483) p_Mo_in rfl rfl ⟨Nat.le_of_ble_eq_true rfl, Nat.le_of_ble_eq_true rfl⟩ rfl hl.1 rfl (Nat.le_of_ble_eq_true rfl) d_Mo_event_9 ⟨Nat.le_of_ble_eq_true rfl, Nat.le_of_ble_eq_true rfl⟩) ?_
  refine x_top (show nI (c_in (nI sr) 256) = nI 1 from congrArg nI (by exact c_in_n hs (by decide))) ?_
  refine x_if0 (tgt := 34) E d_Mo_event_12 (by decide) (by omega) (fun c1 => ?_) (fun c1 => ?_)
  · exfalso; omega
  · refine lv_iload_n E.1 E.2.1 d_Mo_event_15 rfl (lv_at hl 2 rfl) ?_
    refine lv_bipush (v := nI 32) E.1 E.2.1 d_Mo_event_16 (by decide) ?_
    refine x_cf (x_rS (rest := []) E (q_Mo_in l (nI j) 32 ) x_pf (gg_S wd_481 wd_482 wd_40 wd_483) p_Mo_in rfl rfl ⟨Nat.le_of_ble_eq_true rfl, Nat.le_of_ble_eq_true rfl⟩ rfl hl.1 rfl (Nat.le_of_ble_eq_true rfl) d_Mo_event_18 ⟨Nat.le_of_ble_eq_true rfl, Nat.le_of_ble_eq_true rfl⟩) ?_
    refine x_top (show nI (c_in (nI j) 32) = nI 1 from congrArg nI (by exact c_in_n hj (by decide))) ?_
    refine x_if0 (tgt := 34) E d_Mo_event_21 (by decide) (by omega) (fun c2 => ?_) (fun c2 => ?_)
    · exfalso; omega
    · refine lv_iload_n E.1 E.2.1 d_Mo_event_24 rfl (lv_at hl 3 rfl) ?_
      refine lv_sipush (v := nI 256) E.1 E.2.1 d_Mo_event_25 (by decide) ?_
      refine x_cf (x_rS (rest := []) E (q_Mo_in l (nI b) 256 ) x_pf (gg_S wd_481 wd_482 wd_40 wd_483) p_Mo_in rfl rfl ⟨Nat.le_of_ble_eq_true rfl, Nat.le_of_ble_eq_true rfl⟩ rfl hl.1 rfl (Nat.le_of_ble_eq_true rfl) d_Mo_event_28 ⟨Nat.le_of_ble_eq_true rfl, Nat.le_of_ble_eq_true rfl⟩) ?_
      refine x_top (show nI (c_in (nI b) 256) = nI 1 from congrArg nI (by exact c_in_n hb (by decide))) ?_
      refine x_ifn (tgt := 36) E d_Mo_event_31 (by decide) (by omega) (fun c3 => ?_) (fun c3 => ?_)
      · refine lv_sipush (v := nI 1600) E.1 E.2.1 d_Mo_event_36 (by decide) ?_
        refine lv_iload_n E.1 E.2.1 d_Mo_event_39 rfl (lv_at hl 2 rfl) ?_
        refine x_imul E d_Mo_event_40 ?_
        refine lv_aload_n E.1 E.2.1 d_Mo_event_41 rfl (lv_at hl 0 rfl) ?_
        refine x_get E B 0 rfl k_Mo 6 (by decide) wd_399 rfl d_Mo_event_42 ?_
        refine lv_iload_n E.1 E.2.1 d_Mo_event_45 rfl (lv_at hl 2 rfl) ?_
        refine x_aldN E B 1 rfl (i := j) (by omega) (by decide) d_Mo_event_46 ?_
        refine x_iadd E d_Mo_event_47 ?_
        refine lv_istore (lv' := [(4, .int (nI ((1600 * j) + (len j)))), (0, .ref h0), (1, .int (nI sr)), (2, .int (nI j)), (3, .int (nI b))]) E.1 E.2.1 d_Mo_event_48 hl (by decide) rfl (fun ls hl => ?_)
        refine lv_aload_n E.1 E.2.1 d_Mo_event_50 rfl (lv_at hl 1 rfl) ?_
        refine x_get E B 0 rfl k_Mo 7 (by decide) wd_400 rfl d_Mo_event_51 ?_
        refine lv_iload E.1 E.2.1 d_Mo_event_54 (lv_at hl 0 rfl) ?_
        refine lv_iload_n E.1 E.2.1 d_Mo_event_56 rfl (lv_at hl 2 rfl) ?_
        refine x_astN E B 2 rfl (i := (1600 * j) + (len j)) (v := sr) (by omega) (by decide) d_Mo_event_57 (fun H locs B => ?_)
        have B : xB G A s _ _ ([(h0, .inr (6, [.int (nI 0), .ref kq, .ref cq, .int (nI rs), .int ck, .int lt, .ref lq, .ref pq, .ref oq, .int (nI os), .ref bq, .int tc, .int wr, .ref rq, .int (nI ln), .ref wq, .ref hq, .ref dq, .ref nq, .ref aq, .ref xq, .ref yq, .ref sq, .ref tq, .int (nI rd)])), (lq, x_N G 32 len), (pq, x_N G 51200 (va_up pp ((1600 * j) + (len j)) sr))]) := B
        refine lv_aload_n E.1 E.2.1 d_Mo_event_58 rfl (lv_at hl 1 rfl) ?_
        refine x_get E B 0 rfl k_Mo 7 (by decide) wd_400 rfl d_Mo_event_59 ?_
        refine lv_iload E.1 E.2.1 d_Mo_event_62 (lv_at hl 0 rfl) ?_
        refine lv_iconst (v := nI 1) E.1 E.2.1 d_Mo_event_64 (by decide) ?_
        refine x_iadd E d_Mo_event_65 ?_
        refine lv_iconst (v := nI 1) E.1 E.2.1 d_Mo_event_66 (by decide) ?_
        refine x_astN E B 2 rfl (i := ((1600 * j) + (len j)) + 1) (v := 1) (by omega) (by decide) d_Mo_event_67 (fun H locs B => ?_)
        have B : xB G A s _ _ ([(h0, .inr (6, [.int (nI 0), .ref kq, .ref cq, .int (nI rs), .int ck, .int lt, .ref lq, .ref pq, .ref oq, .int (nI os), .ref bq, .int tc, .int wr, .ref rq, .int (nI ln), .ref wq, .ref hq, .ref dq, .ref nq, .ref aq, .ref xq, .ref yq, .ref sq, .ref tq, .int (nI rd)])), (lq, x_N G 32 len), (pq, x_N G 51200 (va_up (va_up pp ((1600 * j) + (len j)) sr) (((1600 * j) + (len j)) + 1) 1))]) := B
        refine lv_aload_n E.1 E.2.1 d_Mo_event_68 rfl (lv_at hl 1 rfl) ?_
        refine x_get E B 0 rfl k_Mo 7 (by decide) wd_400 rfl d_Mo_event_69 ?_
        refine lv_iload E.1 E.2.1 d_Mo_event_72 (lv_at hl 0 rfl) ?_
        refine lv_iconst (v := nI 2) E.1 E.2.1 d_Mo_event_74 (by decide) ?_
        refine x_iadd E d_Mo_event_75 ?_
        refine lv_iload_n E.1 E.2.1 d_Mo_event_76 rfl (lv_at hl 4 rfl) ?_
        refine x_astN E B 2 rfl (i := ((1600 * j) + (len j)) + 2) (v := b) (by omega) (by decide) d_Mo_event_77 (fun H locs B => ?_)
        have B : xB G A s _ _ ([(h0, .inr (6, [.int (nI 0), .ref kq, .ref cq, .int (nI rs), .int ck, .int lt, .ref lq, .ref pq, .ref oq, .int (nI os), .ref bq, .int tc, .int wr, .ref rq, .int (nI ln), .ref wq, .ref hq, .ref dq, .ref nq, .ref aq, .ref xq, .ref yq, .ref sq, .ref tq, .int (nI rd)])), (lq, x_N G 32 len), (pq, x_N G 51200 (va_up (va_up (va_up pp ((1600 * j) + (len j)) sr) (((1600 * j) + (len j)) + 1) 1) (((1600 * j) + (len j)) + 2) b))]) := B
        refine lv_aload_n E.1 E.2.1 d_Mo_event_78 rfl (lv_at hl 1 rfl) ?_
        refine x_get E B 0 rfl k_Mo 6 (by decide) wd_399 rfl d_Mo_event_79 ?_
        refine lv_iload_n E.1 E.2.1 d_Mo_event_82 rfl (lv_at hl 3 rfl) ?_
        refine lv_dup2_11 E.1 E.2.1 d_Mo_event_83 rfl rfl ?_
        refine x_aldN E B 1 rfl (i := j) (by omega) (by decide) d_Mo_event_84 ?_
        refine lv_iconst (v := nI 3) E.1 E.2.1 d_Mo_event_85 (by decide) ?_
        refine x_iadd E d_Mo_event_86 ?_
        refine x_astN E B 1 rfl (i := j) (v := (len j) + 3) (by omega) (by decide) d_Mo_event_87 (fun H locs B => ?_)
        have B : xB G A s _ _ ([(h0, .inr (6, [.int (nI 0), .ref kq, .ref cq, .int (nI rs), .int ck, .int lt, .ref lq, .ref pq, .ref oq, .int (nI os), .ref bq, .int tc, .int wr, .ref rq, .int (nI ln), .ref wq, .ref hq, .ref dq, .ref nq, .ref aq, .ref xq, .ref yq, .ref sq, .ref tq, .int (nI rd)])), (lq, x_N G 32 (va_up len j ((len j) + 3))), (pq, x_N G 51200 (va_up (va_up (va_up pp ((1600 * j) + (len j)) sr) (((1600 * j) + (len j)) + 1) 1) (((1600 * j) + (len j)) + 2) b))]) := B
        refine lv_iconst (v := nI 1) E.1 E.2.1 d_Mo_event_88 (by decide) ?_
        exact hret _ () _ _ _ _ B (rfl) rfl d_Mo_event_89
      · exfalso; omega
set_option maxHeartbeats 4000000 in
set_option maxRecDepth 100000 in
theorem q_Mo_tick (G : xG) (l : Launch) (h0 cd kq cq rs lq pq oq os bq rq ln wq hq dq nq aq xq yq sq tq rd : Nat) (ck lt tc wr : Int32) (ms : Int32)  : xMi G l y_Mo_tick c_Mo_tick 2 .int ({ frames := 0, cells := 0, slots := 0, locals := 0 }) [.ref h0, .int ms] [] [(h0, .inr (6, [.int (nI cd), .ref kq, .ref cq, .int (nI rs), .int ck, .int lt, .ref lq, .ref pq, .ref oq, .int (nI os), .ref bq, .int tc, .int wr, .ref rq, .int (nI ln), .ref wq, .ref hq, .ref dq, .ref nq, .ref aq, .ref xq, .ref yq, .ref sq, .ref tq, .int (nI rd)]))] Unit (fun r _ => r = c_pt ck ms) (fun u => [(h0, .inr (6, [.int (nI 0), .ref kq, .ref cq, .int (nI rs), .int (c_pt ck ms), .int lt, .ref lq, .ref pq, .ref oq, .int (nI os), .ref bq, .int tc, .int wr, .ref rq, .int (nI ln), .ref wq, .ref hq, .ref dq, .ref nq, .ref aq, .ref xq, .ref yq, .ref sq, .ref tq, .int (nI rd)]))]) 0 0 := by
  refine xMi.by r_Mo (by decide +kernel) (Nat.le_of_ble_eq_true rfl) rfl ?_
  intro p e s m args below meth c A ls Q E B hro hl hret
  have hl : lv_has ls 2 [(0, .ref h0), (1, .int ms)] := hl
  refine lv_aload_n E.1 E.2.1 d_Mo_tick_0 rfl (lv_at hl 0 rfl) ?_
  refine lv_iconst (v := nI 0) E.1 E.2.1 d_Mo_tick_1 (by decide) ?_
  refine x_put E B 0 rfl k_Mo 0 (by decide) wd_393 rfl rfl rfl (Nat.le_of_ble_eq_true rfl) d_Mo_tick_2 (fun H locs B => ?_)
  have B : xB G A s _ _ ([(h0, .inr (6, [.int (nI 0), .ref kq, .ref cq, .int (nI rs), .int ck, .int lt, .ref lq, .ref pq, .ref oq, .int (nI os), .ref bq, .int tc, .int wr, .ref rq, .int (nI ln), .ref wq, .ref hq, .ref dq, .ref nq, .ref aq, .ref xq, .ref yq, .ref sq, .ref tq, .int (nI rd)]))]) := B
  refine lv_aload_n E.1 E.2.1 d_Mo_tick_5 rfl (lv_at hl 0 rfl) ?_
  refine lv_dup E.1 E.2.1 d_Mo_tick_6 rfl ?_
  refine x_get E B 0 rfl k_Mo 4 (by decide) wd_397 rfl d_Mo_tick_7 ?_
  refine lv_iload_n E.1 E.2.1 d_Mo_tick_10 rfl (lv_at hl 1 rfl) ?_
  refine lv_if_le (tgt := 29) E.1 E.2.1 d_Mo_tick_11 (by decide) (fun h1 => ?_) (fun h1 => ?_)
  · refine lv_iconst (v := nI 0) E.1 E.2.1 d_Mo_tick_29 (by decide) ?_
    refine lv_iadd E.1 E.2.1 d_Mo_tick_30 ?_
    refine x_top (v' := (c_pt ck ms)) (by first | exact (c_pt_y h1 h2).symm | exact c_ptb h2 | exact c_pta h1) ?_
    refine x_put E B 0 rfl k_Mo 4 (by decide) wd_397 rfl rfl rfl (Nat.le_of_ble_eq_true rfl) d_Mo_tick_31 (fun H locs B => ?_)
    have B : xB G A s _ _ ([(h0, .inr (6, [.int (nI 0), .ref kq, .ref cq, .int (nI rs), .int (c_pt ck ms), .int lt, .ref lq, .ref pq, .ref oq, .int (nI os), .ref bq, .int tc, .int wr, .ref rq, .int (nI ln), .ref wq, .ref hq, .ref dq, .ref nq, .ref aq, .ref xq, .ref yq, .ref sq, .ref tq, .int (nI rd)]))]) := B
    refine lv_aload_n E.1 E.2.1 d_Mo_tick_34 rfl (lv_at hl 0 rfl) ?_
    refine x_get E B 0 rfl k_Mo 4 (by decide) wd_397 rfl d_Mo_tick_35 ?_
    exact hret _ () _ _ _ _ B (rfl) d_Mo_tick_38
  · refine lv_iload_n E.1 E.2.1 d_Mo_tick_14 rfl (lv_at hl 1 rfl) ?_
    refine lv_ldc E.1 E.2.1 E.2.2.2.1 (E.2.2.2.2 _ wd_488) d_Mo_tick_15 ?_
    refine lv_aload_n E.1 E.2.1 d_Mo_tick_17 rfl (lv_at hl 0 rfl) ?_
    refine x_get E B 0 rfl k_Mo 4 (by decide) wd_397 rfl d_Mo_tick_18 ?_
    refine lv_isub E.1 E.2.1 d_Mo_tick_21 ?_
    refine lv_icmp_gt (tgt := 29) E.1 E.2.1 d_Mo_tick_22 (by decide) (fun h2 => ?_) (fun h2 => ?_)
    · refine lv_iconst (v := nI 0) E.1 E.2.1 d_Mo_tick_29 (by decide) ?_
      refine lv_iadd E.1 E.2.1 d_Mo_tick_30 ?_
      refine x_top (v' := (c_pt ck ms)) (by first | exact (c_pt_y h1 h2).symm | exact c_ptb h2 | exact c_pta h1) ?_
      refine x_put E B 0 rfl k_Mo 4 (by decide) wd_397 rfl rfl rfl (Nat.le_of_ble_eq_true rfl) d_Mo_tick_31 (fun H locs B => ?_)
      have B : xB G A s _ _ ([(h0, .inr (6, [.int (nI 0), .ref kq, .ref cq, .int (nI rs), .int (c_pt ck ms), .int lt, .ref lq, .ref pq, .ref oq, .int (nI os), .ref bq, .int tc, .int wr, .ref rq, .int (nI ln), .ref wq, .ref hq, .ref dq, .ref nq, .ref aq, .ref xq, .ref yq, .ref sq, .ref tq, .int (nI rd)]))]) := B
      refine lv_aload_n E.1 E.2.1 d_Mo_tick_34 rfl (lv_at hl 0 rfl) ?_
      refine x_get E B 0 rfl k_Mo 4 (by decide) wd_397 rfl d_Mo_tick_35 ?_
      exact hret _ () _ _ _ _ B (rfl) d_Mo_tick_38
    · refine lv_iload_n E.1 E.2.1 d_Mo_tick_25 rfl (lv_at hl 1 rfl) ?_
      refine lv_goto (tgt := 30) E.1 E.2.1 d_Mo_tick_26 (by decide) ?_
      refine lv_iadd E.1 E.2.1 d_Mo_tick_30 ?_
      refine x_top (v' := (c_pt ck ms)) (by first | exact (c_pt_y h1 h2).symm | exact c_ptb h2 | exact c_pta h1) ?_
      refine x_put E B 0 rfl k_Mo 4 (by decide) wd_397 rfl rfl rfl (Nat.le_of_ble_eq_true rfl) d_Mo_tick_31 (fun H locs B => ?_)
      have B : xB G A s _ _ ([(h0, .inr (6, [.int (nI 0), .ref kq, .ref cq, .int (nI rs), .int (c_pt ck ms), .int lt, .ref lq, .ref pq, .ref oq, .int (nI os), .ref bq, .int tc, .int wr, .ref rq, .int (nI ln), .ref wq, .ref hq, .ref dq, .ref nq, .ref aq, .ref xq, .ref yq, .ref sq, .ref tq, .int (nI rd)]))]) := B
      refine lv_aload_n E.1 E.2.1 d_Mo_tick_34 rfl (lv_at hl 0 rfl) ?_
      refine x_get E B 0 rfl k_Mo 4 (by decide) wd_397 rfl d_Mo_tick_35 ?_
      exact hret _ () _ _ _ _ B (rfl) d_Mo_tick_38
set_option maxHeartbeats 4000000 in
set_option maxRecDepth 100000 in
theorem q_Mo_crash (G : xG) (l : Launch) (h0 cd kq cq rs lq pq oq os bq rq ln wq hq dq nq aq xq yq sq tq rd : Nat) (ck lt tc wr : Int32) (x : Int32)  : xMv G l y_Mo_crash c_Mo_crash 2 ({ frames := 0, cells := 0, slots := 0, locals := 0 }) [.ref h0, .int x] [] [(h0, .inr (6, [.int (nI cd), .ref kq, .ref cq, .int (nI rs), .int ck, .int lt, .ref lq, .ref pq, .ref oq, .int (nI os), .ref bq, .int tc, .int wr, .ref rq, .int (nI ln), .ref wq, .ref hq, .ref dq, .ref nq, .ref aq, .ref xq, .ref yq, .ref sq, .ref tq, .int (nI rd)]))] Unit (fun _ => True) (fun u => [(h0, .inr (6, [.int (nI 0), .ref kq, .ref cq, .int (nI rs), .int ck, .int lt, .ref lq, .ref pq, .ref oq, .int (nI os), .ref bq, .int (d_tc x), .int wr, .ref rq, .int (nI ln), .ref wq, .ref hq, .ref dq, .ref nq, .ref aq, .ref xq, .ref yq, .ref sq, .ref tq, .int (nI rd)]))]) 0 0 := by
  refine xMv.by r_Mo (by decide +kernel) (Nat.le_of_ble_eq_true rfl) rfl ?_
  intro p e s m args below meth c A ls Q E hin B hro hl hret
  have hl : lv_has ls 2 [(0, .ref h0), (1, .int x)] := hl
  refine lv_aload_n E.1 E.2.1 d_Mo_crash_0 rfl (lv_at hl 0 rfl) ?_
  refine lv_iconst (v := nI 0) E.1 E.2.1 d_Mo_crash_1 (by decide) ?_
  refine x_put E B 0 rfl k_Mo 0 (by decide) wd_393 rfl rfl rfl (Nat.le_of_ble_eq_true rfl) d_Mo_crash_2 (fun H locs B => ?_)
  have B : xB G A s _ _ ([(h0, .inr (6, [.int (nI 0), .ref kq, .ref cq, .int (nI rs), .int ck, .int lt, .ref lq, .ref pq, .ref oq, .int (nI os), .ref bq, .int tc, .int wr, .ref rq, .int (nI ln), .ref wq, .ref hq, .ref dq, .ref nq, .ref aq, .ref xq, .ref yq, .ref sq, .ref tq, .int (nI rd)]))]) := B
  refine lv_aload_n E.1 E.2.1 d_Mo_crash_5 rfl (lv_at hl 0 rfl) ?_
  refine lv_iload_n E.1 E.2.1 d_Mo_crash_6 rfl (lv_at hl 1 rfl) ?_
  refine lv_iconst (v := nI 1) E.1 E.2.1 d_Mo_crash_7 (by decide) ?_
  refine lv_icmp_ge (tgt := 15) E.1 E.2.1 d_Mo_crash_8 (by decide) (fun hc => ?_) (fun hc => ?_)
  · refine lv_iload_n E.1 E.2.1 d_Mo_crash_15 rfl (lv_at hl 1 rfl) ?_
    refine x_top (v' := (d_tc x)) (by unfold d_tc; first | rw [if_pos hc] | rw [if_neg hc]) ?_
    refine x_put E B 0 rfl k_Mo 11 (by decide) wd_404 rfl rfl rfl (Nat.le_of_ble_eq_true rfl) d_Mo_crash_16 (fun H locs B => ?_)
    have B : xB G A s _ _ ([(h0, .inr (6, [.int (nI 0), .ref kq, .ref cq, .int (nI rs), .int ck, .int lt, .ref lq, .ref pq, .ref oq, .int (nI os), .ref bq, .int (d_tc x), .int wr, .ref rq, .int (nI ln), .ref wq, .ref hq, .ref dq, .ref nq, .ref aq, .ref xq, .ref yq, .ref sq, .ref tq, .int (nI rd)]))]) := B
    exact hret () _ _ _ _ B trivial d_Mo_crash_19
  · refine lv_iconst (v := nI 0) E.1 E.2.1 d_Mo_crash_11 (by decide) ?_
    refine lv_goto (tgt := 16) E.1 E.2.1 d_Mo_crash_12 (by decide) ?_
    refine x_top (v' := (d_tc x)) (by unfold d_tc; first | rw [if_pos hc] | rw [if_neg hc]) ?_
    refine x_put E B 0 rfl k_Mo 11 (by decide) wd_404 rfl rfl rfl (Nat.le_of_ble_eq_true rfl) d_Mo_crash_16 (fun H locs B => ?_)
    have B : xB G A s _ _ ([(h0, .inr (6, [.int (nI 0), .ref kq, .ref cq, .int (nI rs), .int ck, .int lt, .ref lq, .ref pq, .ref oq, .int (nI os), .ref bq, .int (d_tc x), .int wr, .ref rq, .int (nI ln), .ref wq, .ref hq, .ref dq, .ref nq, .ref aq, .ref xq, .ref yq, .ref sq, .ref tq, .int (nI rd)]))]) := B
    exact hret () _ _ _ _ B trivial d_Mo_crash_19
set_option maxHeartbeats 4000000 in
set_option maxRecDepth 100000 in
theorem q_Mo_out (G : xG) (l : Launch) (h0 cd kq cq rs lq pq oq os bq rq ln wq hq dq nq aq xq yq sq tq rd : Nat) (ck lt tc wr : Int32) (x : Int32) (ov : Nat → Nat) (ho : os ≤ 256) : xMi G l y_Mo_out c_Mo_out 2 .int ({ frames := 1, cells := 0, slots := 0, locals := 21 }) [.ref h0, .int x] [] [(h0, .inr (6, [.int (nI cd), .ref kq, .ref cq, .int (nI rs), .int ck, .int lt, .ref lq, .ref pq, .ref oq, .int (nI os), .ref bq, .int tc, .int wr, .ref rq, .int (nI ln), .ref wq, .ref hq, .ref dq, .ref nq, .ref aq, .ref xq, .ref yq, .ref sq, .ref tq, .int (nI rd)])), (oq, x_N G 256 ov)] Unit (fun r _ => r = c_at ov os x) (fun u => [(h0, .inr (6, [.int (nI 0), .ref kq, .ref cq, .int (nI rs), .int ck, .int lt, .ref lq, .ref pq, .ref oq, .int (nI os), .ref bq, .int tc, .int wr, .ref rq, .int (nI ln), .ref wq, .ref hq, .ref dq, .ref nq, .ref aq, .ref xq, .ref yq, .ref sq, .ref tq, .int (nI rd)])), (oq, x_N G 256 ov)]) 0 0 := by
  refine xMi.by r_Mo (by decide +kernel) (Nat.le_of_ble_eq_true rfl) rfl ?_
  intro p e s m args below meth c A ls Q E B hro hl hret
  have hl : lv_has ls 2 [(0, .ref h0), (1, .int x)] := hl
  refine lv_aload_n E.1 E.2.1 d_Mo_out_0 rfl (lv_at hl 0 rfl) ?_
  refine lv_iconst (v := nI 0) E.1 E.2.1 d_Mo_out_1 (by decide) ?_
  refine x_put E B 0 rfl k_Mo 0 (by decide) wd_393 rfl rfl rfl (Nat.le_of_ble_eq_true rfl) d_Mo_out_2 (fun H locs B => ?_)
  have B : xB G A s _ _ ([(h0, .inr (6, [.int (nI 0), .ref kq, .ref cq, .int (nI rs), .int ck, .int lt, .ref lq, .ref pq, .ref oq, .int (nI os), .ref bq, .int tc, .int wr, .ref rq, .int (nI ln), .ref wq, .ref hq, .ref dq, .ref nq, .ref aq, .ref xq, .ref yq, .ref sq, .ref tq, .int (nI rd)])), (oq, x_N G 256 ov)]) := B
  refine lv_iload_n E.1 E.2.1 d_Mo_out_5 rfl (lv_at hl 1 rfl) ?_
  refine lv_aload_n E.1 E.2.1 d_Mo_out_6 rfl (lv_at hl 0 rfl) ?_
  refine x_get E B 0 rfl k_Mo 9 (by decide) wd_402 rfl d_Mo_out_7 ?_
  refine x_cf (x_rS (rest := []) E (q_Mo_in l x os ) x_pf (gg_S wd_481 wd_482 wd_40 wd_483) p_Mo_in rfl rfl ⟨Nat.le_of_ble_eq_true rfl, Nat.le_of_ble_eq_true rfl⟩ rfl hl.1 rfl (Nat.le_of_ble_eq_true rfl) d_Mo_out_10 ⟨Nat.le_of_ble_eq_true rfl, Nat.le_of_ble_eq_true rfl⟩) ?_
  refine x_if0 (tgt := 25) E d_Mo_out_13 (by decide) (by have := c_in_le x os; omega) (fun hz => ?_) (fun hz => ?_)
  · refine lv_iconst (v := -1) E.1 E.2.1 d_Mo_out_25 (by decide) ?_
    exact hret _ () _ _ _ _ B (by first | exact c_at_y hj (by omega) | exact c_at_0 hz) d_Mo_out_26
  · have hzx := c_in_le x os
    obtain ⟨j, hj, rfl⟩ := c_in_1 (x := x) (n := os) (by omega) (by omega)
    refine lv_aload_n E.1 E.2.1 d_Mo_out_16 rfl (lv_at hl 0 rfl) ?_
    refine x_get E B 0 rfl k_Mo 8 (by decide) wd_401 rfl d_Mo_out_17 ?_
    refine lv_iload_n E.1 E.2.1 d_Mo_out_20 rfl (lv_at hl 1 rfl) ?_
    refine x_aldN E B 1 rfl (i := j) (by omega) (by decide) d_Mo_out_21 ?_
    refine lv_goto (tgt := 26) E.1 E.2.1 d_Mo_out_22 (by decide) ?_
    exact hret _ () _ _ _ _ B (by first | exact c_at_y hj (by omega) | exact c_at_0 hz) d_Mo_out_26
set_option maxHeartbeats 4000000 in
set_option maxRecDepth 100000 in
theorem q_Mo_spoil_n (G : xG) (l : Launch) (h0 cd kq cq rs lq pq oq os bq rq ln wq hq dq nq aq xq yq sq tq rd : Nat) (ck lt tc wr : Int32) (x y : Int32) (hv : ¬ (c_in x 129 = 1 ∧ c_in y 256 = 1)) : xMi G l y_Mo_spoil c_Mo_spoil 3 .boolean ({ frames := 1, cells := 0, slots := 0, locals := 21 }) [.ref h0, .int x, .int y] [] [(h0, .inr (6, [.int (nI cd), .ref kq, .ref cq, .int (nI rs), .int ck, .int lt, .ref lq, .ref pq, .ref oq, .int (nI os), .ref bq, .int tc, .int wr, .ref rq, .int (nI ln), .ref wq, .ref hq, .ref dq, .ref nq, .ref aq, .ref xq, .ref yq, .ref sq, .ref tq, .int (nI rd)]))] Unit (fun r _ => r = nI 0) (fun u => [(h0, .inr (6, [.int (nI 0), .ref kq, .ref cq, .int (nI rs), .int ck, .int lt, .ref lq, .ref pq, .ref oq, .int (nI os), .ref bq, .int tc, .int wr, .ref rq, .int (nI ln), .ref wq, .ref hq, .ref dq, .ref nq, .ref aq, .ref xq, .ref yq, .ref sq, .ref tq, .int (nI rd)]))]) 0 0 := by
  refine xMz.by r_Mo (by decide +kernel) (Nat.le_of_ble_eq_true rfl) rfl ?_
  intro p e s m args below meth c A ls Q E B hro hl hret
  have hl : lv_has ls 3 [(0, .ref h0), (1, .int x), (2, .int y)] := hl
  refine lv_aload_n E.1 E.2.1 d_Mo_spoil_0 rfl (lv_at hl 0 rfl) ?_
  refine lv_iconst (v := nI 0) E.1 E.2.1 d_Mo_spoil_1 (by decide) ?_
  refine x_put E B 0 rfl k_Mo 0 (by decide) wd_393 rfl rfl rfl (Nat.le_of_ble_eq_true rfl) d_Mo_spoil_2 (fun H locs B => ?_)
  have B : xB G A s _ _ ([(h0, .inr (6, [.int (nI 0), .ref kq, .ref cq, .int (nI rs), .int ck, .int lt, .ref lq, .ref pq, .ref oq, .int (nI os), .ref bq, .int tc, .int wr, .ref rq, .int (nI ln), .ref wq, .ref hq, .ref dq, .ref nq, .ref aq, .ref xq, .ref yq, .ref sq, .ref tq, .int (nI rd)]))]) := B
  refine lv_iload_n E.1 E.2.1 d_Mo_spoil_5 rfl (lv_at hl 1 rfl) ?_
  refine lv_sipush (v := nI 129) E.1 E.2.1 d_Mo_spoil_6 (by decide) ?_
  refine x_cf (x_rS (rest := []) E (q_Mo_in l x 129 ) x_pf (gg_S wd_481 wd_482 wd_40 wd_483) p_Mo_in rfl rfl ⟨Nat.le_of_ble_eq_true rfl, Nat.le_of_ble_eq_true rfl⟩ rfl hl.1 rfl (Nat.le_of_ble_eq_true rfl) d_Mo_spoil_9 ⟨Nat.le_of_ble_eq_true rfl, Nat.le_of_ble_eq_true rfl⟩) ?_
  refine x_if0 (tgt := 25) E d_Mo_spoil_12 (by decide) (by have := c_in_le x 129; omega) (fun h1 => ?_) (fun h1 => ?_)
  · refine lv_iconst (v := nI 0) E.1 E.2.1 d_Mo_spoil_25 (by decide) ?_
    exact hret _ () _ _ _ _ B (rfl) rfl d_Mo_spoil_26
  · refine lv_iload_n E.1 E.2.1 d_Mo_spoil_15 rfl (lv_at hl 2 rfl) ?_
    refine lv_sipush (v := nI 256) E.1 E.2.1 d_Mo_spoil_16 (by decide) ?_
    refine x_cf (x_rS (rest := []) E (q_Mo_in l y 256 ) x_pf (gg_S wd_481 wd_482 wd_40 wd_483) p_Mo_in rfl rfl ⟨Nat.le_of_ble_eq_true rfl, Nat.le_of_ble_eq_true rfl⟩ rfl hl.1 rfl (Nat.le_of_ble_eq_true rfl) d_Mo_spoil_19 ⟨Nat.le_of_ble_eq_true rfl, Nat.le_of_ble_eq_true rfl⟩) ?_
    refine x_ifn (tgt := 27) E d_Mo_spoil_22 (by decide) (by have := c_in_le y 256; omega) (fun h2 => ?_) (fun h2 => ?_)
    · exfalso; have := c_in_le x 129; have := c_in_le y 256; exact hv ⟨by omega, by omega⟩
    · refine lv_iconst (v := nI 0) E.1 E.2.1 d_Mo_spoil_25 (by decide) ?_
      exact hret _ () _ _ _ _ B (rfl) rfl d_Mo_spoil_26
set_option maxHeartbeats 4000000 in
set_option maxRecDepth 100000 in
theorem q_Mo_spoil_y (G : xG) (l : Launch) (h0 cd kq cq rs lq pq oq os bq rq ln wq hq dq nq aq xq yq sq tq rd : Nat) (ck lt tc wr : Int32) (i b : Nat) (dk : Nat → Nat) (hi : i < 129) (hb : b < 256) : xMi G l y_Mo_spoil c_Mo_spoil 3 .boolean ({ frames := 1, cells := 0, slots := 0, locals := 21 }) [.ref h0, .int (nI i), .int (nI b)] [] [(h0, .inr (6, [.int (nI cd), .ref kq, .ref cq, .int (nI rs), .int ck, .int lt, .ref lq, .ref pq, .ref oq, .int (nI os), .ref bq, .int tc, .int wr, .ref rq, .int (nI ln), .ref wq, .ref hq, .ref dq, .ref nq, .ref aq, .ref xq, .ref yq, .ref sq, .ref tq, .int (nI rd)])), (bq, x_N G 129 dk)] Unit (fun r _ => r = nI 1) (fun u => [(h0, .inr (6, [.int (nI 0), .ref kq, .ref cq, .int (nI rs), .int ck, .int lt, .ref lq, .ref pq, .ref oq, .int (nI os), .ref bq, .int tc, .int wr, .ref rq, .int (nI ln), .ref wq, .ref hq, .ref dq, .ref nq, .ref aq, .ref xq, .ref yq, .ref sq, .ref tq, .int (nI rd)])), (bq, x_N G 129 (va_up dk i b))]) 0 0 := by
  refine xMz.by r_Mo (by decide +kernel) (Nat.le_of_ble_eq_true rfl) rfl ?_
  intro p e s m args below meth c A ls Q E B hro hl hret
  have hl : lv_has ls 3 [(0, .ref h0), (1, .int (nI i)), (2, .int (nI b))] := hl
  refine lv_aload_n E.1 E.2.1 d_Mo_spoil_0 rfl (lv_at hl 0 rfl) ?_
  refine lv_iconst (v := nI 0) E.1 E.2.1 d_Mo_spoil_1 (by decide) ?_
  refine x_put E B 0 rfl k_Mo 0 (by decide) wd_393 rfl rfl rfl (Nat.le_of_ble_eq_true rfl) d_Mo_spoil_2 (fun H locs B => ?_)
  have B : xB G A s _ _ ([(h0, .inr (6, [.int (nI 0), .ref kq, .ref cq, .int (nI rs), .int ck, .int lt, .ref lq, .ref pq, .ref oq, .int (nI os), .ref bq, .int tc, .int wr, .ref rq, .int (nI ln), .ref wq, .ref hq, .ref dq, .ref nq, .ref aq, .ref xq, .ref yq, .ref sq, .ref tq, .int (nI rd)])), (bq, x_N G 129 dk)]) := B
  refine lv_iload_n E.1 E.2.1 d_Mo_spoil_5 rfl (lv_at hl 1 rfl) ?_
  refine lv_sipush (v := nI 129) E.1 E.2.1 d_Mo_spoil_6 (by decide) ?_
  refine x_cf (x_rS (rest := []) E (q_Mo_in l (nI i) 129 ) x_pf (gg_S wd_481 wd_482 wd_40 wd_483) p_Mo_in rfl rfl ⟨Nat.le_of_ble_eq_true rfl, Nat.le_of_ble_eq_true rfl⟩ rfl hl.1 rfl (Nat.le_of_ble_eq_true rfl) d_Mo_spoil_9 ⟨Nat.le_of_ble_eq_true rfl, Nat.le_of_ble_eq_true rfl⟩) ?_
  refine x_top (show nI (c_in (nI i) 129) = nI 1 from congrArg nI (by exact c_in_n hi (by decide))) ?_
  refine x_if0 (tgt := 25) E d_Mo_spoil_12 (by decide) (by omega) (fun c1 => ?_) (fun c1 => ?_)
  · exfalso; omega
  · refine lv_iload_n E.1 E.2.1 d_Mo_spoil_15 rfl (lv_at hl 2 rfl) ?_
    refine lv_sipush (v := nI 256) E.1 E.2.1 d_Mo_spoil_16 (by decide) ?_
    refine x_cf (x_rS (rest := []) E (q_Mo_in l (nI b) 256 ) x_pf (gg_S wd_481 wd_482 wd_40 wd_483) p_Mo_in rfl rfl ⟨Nat.le_of_ble_eq_true rfl, Nat.le_of_ble_eq_true rfl⟩ rfl hl.1 rfl (Nat.le_of_ble_eq_true rfl) d_Mo_spoil_19 ⟨Nat.le_of_ble_eq_true rfl, Nat.le_of_ble_eq_true rfl⟩) ?_
    refine x_top (show nI (c_in (nI b) 256) = nI 1 from congrArg nI (by exact c_in_n hb (by decide))) ?_
    refine x_ifn (tgt := 27) E d_Mo_spoil_22 (by decide) (by omega) (fun c2 => ?_) (fun c2 => ?_)
    · refine lv_aload_n E.1 E.2.1 d_Mo_spoil_27 rfl (lv_at hl 0 rfl) ?_
      refine x_get E B 0 rfl k_Mo 10 (by decide) wd_403 rfl d_Mo_spoil_28 ?_
      refine lv_iload_n E.1 E.2.1 d_Mo_spoil_31 rfl (lv_at hl 1 rfl) ?_
      refine lv_iload_n E.1 E.2.1 d_Mo_spoil_32 rfl (lv_at hl 2 rfl) ?_
      refine x_astN E B 1 rfl (i := i) (v := b) (by omega) (by decide) d_Mo_spoil_33 (fun H locs B => ?_)
      have B : xB G A s _ _ ([(h0, .inr (6, [.int (nI 0), .ref kq, .ref cq, .int (nI rs), .int ck, .int lt, .ref lq, .ref pq, .ref oq, .int (nI os), .ref bq, .int tc, .int wr, .ref rq, .int (nI ln), .ref wq, .ref hq, .ref dq, .ref nq, .ref aq, .ref xq, .ref yq, .ref sq, .ref tq, .int (nI rd)])), (bq, x_N G 129 (va_up dk i b))]) := B
      refine lv_iconst (v := nI 1) E.1 E.2.1 d_Mo_spoil_34 (by decide) ?_
      exact hret _ () _ _ _ _ B (rfl) rfl d_Mo_spoil_35
    · exfalso; omega
set_option maxHeartbeats 4000000 in
set_option maxRecDepth 100000 in
theorem q_Mo_about_0 (G : xG) (l : Launch) (h0 cd kq cq rs lq pq oq os bq rq ln wq hq dq nq aq xq yq sq tq rd : Nat) (ck lt tc wr : Int32)  : xMi G l y_Mo_about c_Mo_about 2 .int ({ frames := 1, cells := 0, slots := 0, locals := 22 }) [.ref h0, .int (nI 0)] [] [(h0, .inr (6, [.int (nI cd), .ref kq, .ref cq, .int (nI rs), .int ck, .int lt, .ref lq, .ref pq, .ref oq, .int (nI os), .ref bq, .int tc, .int wr, .ref rq, .int (nI ln), .ref wq, .ref hq, .ref dq, .ref nq, .ref aq, .ref xq, .ref yq, .ref sq, .ref tq, .int (nI rd)]))] Unit (fun r _ => r = nI rs) (fun u => [(h0, .inr (6, [.int (nI 0), .ref kq, .ref cq, .int (nI rs), .int ck, .int lt, .ref lq, .ref pq, .ref oq, .int (nI os), .ref bq, .int tc, .int wr, .ref rq, .int (nI ln), .ref wq, .ref hq, .ref dq, .ref nq, .ref aq, .ref xq, .ref yq, .ref sq, .ref tq, .int (nI rd)]))]) 0 0 := by
  refine xMi.by r_Mo (by decide +kernel) (Nat.le_of_ble_eq_true rfl) rfl ?_
  intro p e s m args below meth c A ls Q E B hro hl hret
  have hl : lv_has ls 2 [(0, .ref h0), (1, .int (nI 0))] := hl
  refine lv_aload_n E.1 E.2.1 d_Mo_about_0 rfl (lv_at hl 0 rfl) ?_
  refine lv_iconst (v := nI 0) E.1 E.2.1 d_Mo_about_1 (by decide) ?_
  refine x_put E B 0 rfl k_Mo 0 (by decide) wd_393 rfl rfl rfl (Nat.le_of_ble_eq_true rfl) d_Mo_about_2 (fun H locs B => ?_)
  have B : xB G A s _ _ ([(h0, .inr (6, [.int (nI 0), .ref kq, .ref cq, .int (nI rs), .int ck, .int lt, .ref lq, .ref pq, .ref oq, .int (nI os), .ref bq, .int tc, .int wr, .ref rq, .int (nI ln), .ref wq, .ref hq, .ref dq, .ref nq, .ref aq, .ref xq, .ref yq, .ref sq, .ref tq, .int (nI rd)]))]) := B
  refine lv_iload_n E.1 E.2.1 d_Mo_about_5 rfl (lv_at hl 1 rfl) ?_
  refine lv_tableIn (tgt := 44) (off := 38) E.1 E.2.1 d_Mo_about_6 (by decide) (by decide) (by decide) (by decide) ?_
  refine lv_aload_n E.1 E.2.1 d_Mo_about_44 rfl (lv_at hl 0 rfl) ?_
  refine x_get E B 0 rfl k_Mo 3 (by decide) wd_396 rfl d_Mo_about_45 ?_
  exact hret _ () _ _ _ _ B (rfl) d_Mo_about_48
set_option maxHeartbeats 4000000 in
set_option maxRecDepth 100000 in
theorem q_Mo_about_1 (G : xG) (l : Launch) (h0 cd kq cq rs lq pq oq os bq rq ln wq hq dq nq aq xq yq sq tq rd : Nat) (ck lt tc wr : Int32)  : xMi G l y_Mo_about c_Mo_about 2 .int ({ frames := 1, cells := 0, slots := 0, locals := 22 }) [.ref h0, .int (nI 1)] [] [(h0, .inr (6, [.int (nI cd), .ref kq, .ref cq, .int (nI rs), .int ck, .int lt, .ref lq, .ref pq, .ref oq, .int (nI os), .ref bq, .int tc, .int wr, .ref rq, .int (nI ln), .ref wq, .ref hq, .ref dq, .ref nq, .ref aq, .ref xq, .ref yq, .ref sq, .ref tq, .int (nI rd)]))] Unit (fun r _ => r = ck) (fun u => [(h0, .inr (6, [.int (nI 0), .ref kq, .ref cq, .int (nI rs), .int ck, .int lt, .ref lq, .ref pq, .ref oq, .int (nI os), .ref bq, .int tc, .int wr, .ref rq, .int (nI ln), .ref wq, .ref hq, .ref dq, .ref nq, .ref aq, .ref xq, .ref yq, .ref sq, .ref tq, .int (nI rd)]))]) 0 0 := by
  refine xMi.by r_Mo (by decide +kernel) (Nat.le_of_ble_eq_true rfl) rfl ?_
  intro p e s m args below meth c A ls Q E B hro hl hret
  have hl : lv_has ls 2 [(0, .ref h0), (1, .int (nI 1))] := hl
  refine lv_aload_n E.1 E.2.1 d_Mo_about_0 rfl (lv_at hl 0 rfl) ?_
  refine lv_iconst (v := nI 0) E.1 E.2.1 d_Mo_about_1 (by decide) ?_
  refine x_put E B 0 rfl k_Mo 0 (by decide) wd_393 rfl rfl rfl (Nat.le_of_ble_eq_true rfl) d_Mo_about_2 (fun H locs B => ?_)
  have B : xB G A s _ _ ([(h0, .inr (6, [.int (nI 0), .ref kq, .ref cq, .int (nI rs), .int ck, .int lt, .ref lq, .ref pq, .ref oq, .int (nI os), .ref bq, .int tc, .int wr, .ref rq, .int (nI ln), .ref wq, .ref hq, .ref dq, .ref nq, .ref aq, .ref xq, .ref yq, .ref sq, .ref tq, .int (nI rd)]))]) := B
  refine lv_iload_n E.1 E.2.1 d_Mo_about_5 rfl (lv_at hl 1 rfl) ?_
  refine lv_tableIn (tgt := 49) (off := 43) E.1 E.2.1 d_Mo_about_6 (by decide) (by decide) (by decide) (by decide) ?_
  refine lv_aload_n E.1 E.2.1 d_Mo_about_49 rfl (lv_at hl 0 rfl) ?_
  refine x_get E B 0 rfl k_Mo 4 (by decide) wd_397 rfl d_Mo_about_50 ?_
  exact hret _ () _ _ _ _ B (rfl) d_Mo_about_53
set_option maxHeartbeats 4000000 in
set_option maxRecDepth 100000 in
theorem q_Mo_about_2 (G : xG) (l : Launch) (h0 cd kq cq rs lq pq oq os bq rq ln wq hq dq nq aq xq yq sq tq rd : Nat) (ck lt tc wr : Int32)  : xMi G l y_Mo_about c_Mo_about 2 .int ({ frames := 1, cells := 0, slots := 0, locals := 22 }) [.ref h0, .int (nI 2)] [] [(h0, .inr (6, [.int (nI cd), .ref kq, .ref cq, .int (nI rs), .int ck, .int lt, .ref lq, .ref pq, .ref oq, .int (nI os), .ref bq, .int tc, .int wr, .ref rq, .int (nI ln), .ref wq, .ref hq, .ref dq, .ref nq, .ref aq, .ref xq, .ref yq, .ref sq, .ref tq, .int (nI rd)]))] Unit (fun r _ => r = lt) (fun u => [(h0, .inr (6, [.int (nI 0), .ref kq, .ref cq, .int (nI rs), .int ck, .int lt, .ref lq, .ref pq, .ref oq, .int (nI os), .ref bq, .int tc, .int wr, .ref rq, .int (nI ln), .ref wq, .ref hq, .ref dq, .ref nq, .ref aq, .ref xq, .ref yq, .ref sq, .ref tq, .int (nI rd)]))]) 0 0 := by
  refine xMi.by r_Mo (by decide +kernel) (Nat.le_of_ble_eq_true rfl) rfl ?_
  intro p e s m args below meth c A ls Q E B hro hl hret
  have hl : lv_has ls 2 [(0, .ref h0), (1, .int (nI 2))] := hl
  refine lv_aload_n E.1 E.2.1 d_Mo_about_0 rfl (lv_at hl 0 rfl) ?_
  refine lv_iconst (v := nI 0) E.1 E.2.1 d_Mo_about_1 (by decide) ?_
  refine x_put E B 0 rfl k_Mo 0 (by decide) wd_393 rfl rfl rfl (Nat.le_of_ble_eq_true rfl) d_Mo_about_2 (fun H locs B => ?_)
  have B : xB G A s _ _ ([(h0, .inr (6, [.int (nI 0), .ref kq, .ref cq, .int (nI rs), .int ck, .int lt, .ref lq, .ref pq, .ref oq, .int (nI os), .ref bq, .int tc, .int wr, .ref rq, .int (nI ln), .ref wq, .ref hq, .ref dq, .ref nq, .ref aq, .ref xq, .ref yq, .ref sq, .ref tq, .int (nI rd)]))]) := B
  refine lv_iload_n E.1 E.2.1 d_Mo_about_5 rfl (lv_at hl 1 rfl) ?_
  refine lv_tableIn (tgt := 54) (off := 48) E.1 E.2.1 d_Mo_about_6 (by decide) (by decide) (by decide) (by decide) ?_
  refine lv_aload_n E.1 E.2.1 d_Mo_about_54 rfl (lv_at hl 0 rfl) ?_
  refine x_get E B 0 rfl k_Mo 5 (by decide) wd_398 rfl d_Mo_about_55 ?_
  exact hret _ () _ _ _ _ B (rfl) d_Mo_about_58
set_option maxHeartbeats 4000000 in
set_option maxRecDepth 100000 in
theorem q_Mo_about_3 (G : xG) (l : Launch) (h0 cd kq cq rs lq pq oq os bq rq ln wq hq dq nq aq xq yq sq tq rd : Nat) (ck lt tc wr : Int32)  : xMi G l y_Mo_about c_Mo_about 2 .int ({ frames := 1, cells := 0, slots := 0, locals := 22 }) [.ref h0, .int (nI 3)] [] [(h0, .inr (6, [.int (nI cd), .ref kq, .ref cq, .int (nI rs), .int ck, .int lt, .ref lq, .ref pq, .ref oq, .int (nI os), .ref bq, .int tc, .int wr, .ref rq, .int (nI ln), .ref wq, .ref hq, .ref dq, .ref nq, .ref aq, .ref xq, .ref yq, .ref sq, .ref tq, .int (nI rd)]))] Unit (fun r _ => r = tc) (fun u => [(h0, .inr (6, [.int (nI 0), .ref kq, .ref cq, .int (nI rs), .int ck, .int lt, .ref lq, .ref pq, .ref oq, .int (nI os), .ref bq, .int tc, .int wr, .ref rq, .int (nI ln), .ref wq, .ref hq, .ref dq, .ref nq, .ref aq, .ref xq, .ref yq, .ref sq, .ref tq, .int (nI rd)]))]) 0 0 := by
  refine xMi.by r_Mo (by decide +kernel) (Nat.le_of_ble_eq_true rfl) rfl ?_
  intro p e s m args below meth c A ls Q E B hro hl hret
  have hl : lv_has ls 2 [(0, .ref h0), (1, .int (nI 3))] := hl
  refine lv_aload_n E.1 E.2.1 d_Mo_about_0 rfl (lv_at hl 0 rfl) ?_
  refine lv_iconst (v := nI 0) E.1 E.2.1 d_Mo_about_1 (by decide) ?_
  refine x_put E B 0 rfl k_Mo 0 (by decide) wd_393 rfl rfl rfl (Nat.le_of_ble_eq_true rfl) d_Mo_about_2 (fun H locs B => ?_)
  have B : xB G A s _ _ ([(h0, .inr (6, [.int (nI 0), .ref kq, .ref cq, .int (nI rs), .int ck, .int lt, .ref lq, .ref pq, .ref oq, .int (nI os), .ref bq, .int tc, .int wr, .ref rq, .int (nI ln), .ref wq, .ref hq, .ref dq, .ref nq, .ref aq, .ref xq, .ref yq, .ref sq, .ref tq, .int (nI rd)]))]) := B
  refine lv_iload_n E.1 E.2.1 d_Mo_about_5 rfl (lv_at hl 1 rfl) ?_
  refine lv_tableIn (tgt := 59) (off := 53) E.1 E.2.1 d_Mo_about_6 (by decide) (by decide) (by decide) (by decide) ?_
  refine lv_aload_n E.1 E.2.1 d_Mo_about_59 rfl (lv_at hl 0 rfl) ?_
  refine x_get E B 0 rfl k_Mo 11 (by decide) wd_404 rfl d_Mo_about_60 ?_
  exact hret _ () _ _ _ _ B (rfl) d_Mo_about_63
set_option maxHeartbeats 4000000 in
set_option maxRecDepth 100000 in
theorem q_Mo_about_4 (G : xG) (l : Launch) (h0 cd kq cq rs lq pq oq os bq rq ln wq hq dq nq aq xq yq sq tq rd : Nat) (ck lt tc wr : Int32)  : xMi G l y_Mo_about c_Mo_about 2 .int ({ frames := 1, cells := 0, slots := 0, locals := 22 }) [.ref h0, .int (nI 4)] [] [(h0, .inr (6, [.int (nI cd), .ref kq, .ref cq, .int (nI rs), .int ck, .int lt, .ref lq, .ref pq, .ref oq, .int (nI os), .ref bq, .int tc, .int wr, .ref rq, .int (nI ln), .ref wq, .ref hq, .ref dq, .ref nq, .ref aq, .ref xq, .ref yq, .ref sq, .ref tq, .int (nI rd)]))] Unit (fun r _ => r = wr) (fun u => [(h0, .inr (6, [.int (nI 0), .ref kq, .ref cq, .int (nI rs), .int ck, .int lt, .ref lq, .ref pq, .ref oq, .int (nI os), .ref bq, .int tc, .int wr, .ref rq, .int (nI ln), .ref wq, .ref hq, .ref dq, .ref nq, .ref aq, .ref xq, .ref yq, .ref sq, .ref tq, .int (nI rd)]))]) 0 0 := by
  refine xMi.by r_Mo (by decide +kernel) (Nat.le_of_ble_eq_true rfl) rfl ?_
  intro p e s m args below meth c A ls Q E B hro hl hret
  have hl : lv_has ls 2 [(0, .ref h0), (1, .int (nI 4))] := hl
  refine lv_aload_n E.1 E.2.1 d_Mo_about_0 rfl (lv_at hl 0 rfl) ?_
  refine lv_iconst (v := nI 0) E.1 E.2.1 d_Mo_about_1 (by decide) ?_
  refine x_put E B 0 rfl k_Mo 0 (by decide) wd_393 rfl rfl rfl (Nat.le_of_ble_eq_true rfl) d_Mo_about_2 (fun H locs B => ?_)
  have B : xB G A s _ _ ([(h0, .inr (6, [.int (nI 0), .ref kq, .ref cq, .int (nI rs), .int ck, .int lt, .ref lq, .ref pq, .ref oq, .int (nI os), .ref bq, .int tc, .int wr, .ref rq, .int (nI ln), .ref wq, .ref hq, .ref dq, .ref nq, .ref aq, .ref xq, .ref yq, .ref sq, .ref tq, .int (nI rd)]))]) := B
  refine lv_iload_n E.1 E.2.1 d_Mo_about_5 rfl (lv_at hl 1 rfl) ?_
  refine lv_tableIn (tgt := 64) (off := 58) E.1 E.2.1 d_Mo_about_6 (by decide) (by decide) (by decide) (by decide) ?_
  refine lv_aload_n E.1 E.2.1 d_Mo_about_64 rfl (lv_at hl 0 rfl) ?_
  refine x_get E B 0 rfl k_Mo 12 (by decide) wd_405 rfl d_Mo_about_65 ?_
  exact hret _ () _ _ _ _ B (rfl) d_Mo_about_68
set_option maxHeartbeats 4000000 in
set_option maxRecDepth 100000 in
theorem q_Mo_about_5 (G : xG) (l : Launch) (h0 cd kq cq rs lq pq oq os bq rq ln wq hq dq nq aq xq yq sq tq rd : Nat) (ck lt tc wr : Int32) (ctr : Nat → Nat) (hb : g_bt 16 ctr) : xMi G l y_Mo_about c_Mo_about 2 .int ({ frames := 1, cells := 0, slots := 0, locals := 22 }) [.ref h0, .int (nI 5)] [] [(h0, .inr (6, [.int (nI cd), .ref kq, .ref cq, .int (nI rs), .int ck, .int lt, .ref lq, .ref pq, .ref oq, .int (nI os), .ref bq, .int tc, .int wr, .ref rq, .int (nI ln), .ref wq, .ref hq, .ref dq, .ref nq, .ref aq, .ref xq, .ref yq, .ref sq, .ref tq, .int (nI rd)])), (cq, x_N G 16 ctr)] Unit (fun r _ => r = nI (g_sd ctr)) (fun u => [(h0, .inr (6, [.int (nI 0), .ref kq, .ref cq, .int (nI rs), .int ck, .int lt, .ref lq, .ref pq, .ref oq, .int (nI os), .ref bq, .int tc, .int wr, .ref rq, .int (nI ln), .ref wq, .ref hq, .ref dq, .ref nq, .ref aq, .ref xq, .ref yq, .ref sq, .ref tq, .int (nI rd)])), (cq, x_N G 16 ctr)]) 0 0 := by
  refine xMi.by r_Mo (by decide +kernel) (Nat.le_of_ble_eq_true rfl) rfl ?_
  intro p e s m args below meth c A ls Q E B hro hl hret
  have hl : lv_has ls 2 [(0, .ref h0), (1, .int (nI 5))] := hl
  refine lv_aload_n E.1 E.2.1 d_Mo_about_0 rfl (lv_at hl 0 rfl) ?_
  refine lv_iconst (v := nI 0) E.1 E.2.1 d_Mo_about_1 (by decide) ?_
  refine x_put E B 0 rfl k_Mo 0 (by decide) wd_393 rfl rfl rfl (Nat.le_of_ble_eq_true rfl) d_Mo_about_2 (fun H locs B => ?_)
  have B : xB G A s _ _ ([(h0, .inr (6, [.int (nI 0), .ref kq, .ref cq, .int (nI rs), .int ck, .int lt, .ref lq, .ref pq, .ref oq, .int (nI os), .ref bq, .int tc, .int wr, .ref rq, .int (nI ln), .ref wq, .ref hq, .ref dq, .ref nq, .ref aq, .ref xq, .ref yq, .ref sq, .ref tq, .int (nI rd)])), (cq, x_N G 16 ctr)]) := B
  refine lv_iload_n E.1 E.2.1 d_Mo_about_5 rfl (lv_at hl 1 rfl) ?_
  refine lv_tableIn (tgt := 69) (off := 63) E.1 E.2.1 d_Mo_about_6 (by decide) (by decide) (by decide) (by decide) ?_
  refine lv_aload_n E.1 E.2.1 d_Mo_about_69 rfl (lv_at hl 0 rfl) ?_
  refine x_cf (x_rV (rest := []) E B (q_Mo_isSeeded G l h0 0 kq cq rs lq pq oq os bq rq ln wq hq dq nq aq xq yq sq tq rd ck lt tc wr ctr (hb) _) (x_pre B [0, 1] rfl (by decide) x_ro0) 0 rfl k_Mo (gg_V wd_606 wd_608 wd_26 wd_40 wd_609) ⟨rfl, p_Mo_isSeeded⟩ rfl rfl ⟨Nat.le_of_ble_eq_true rfl, Nat.le_of_ble_eq_true rfl⟩ rfl hl.1 rfl (Nat.le_of_ble_eq_true rfl) d_Mo_about_70 ⟨Nat.le_of_ble_eq_true rfl, Nat.le_of_ble_eq_true rfl⟩) ?_
  refine x_if0 (tgt := 80) E d_Mo_about_73 (by decide) (by have := g_sd_lt ctr; omega) (fun hz => ?_) (fun hz => ?_)
  · refine lv_iconst (v := nI 0) E.1 E.2.1 d_Mo_about_80 (by decide) ?_
    exact hret _ () _ _ _ _ B (by have := g_sd_lt ctr; exact congrArg nI (by omega)) d_Mo_about_81
  · refine lv_iconst (v := nI 1) E.1 E.2.1 d_Mo_about_76 (by decide) ?_
    refine lv_goto (tgt := 81) E.1 E.2.1 d_Mo_about_77 (by decide) ?_
    exact hret _ () _ _ _ _ B (by have := g_sd_lt ctr; exact congrArg nI (by omega)) d_Mo_about_81
set_option maxHeartbeats 4000000 in
set_option maxRecDepth 100000 in
theorem q_Mo_about_y (G : xG) (l : Launch) (h0 cd kq cq rs lq pq oq os bq rq ln wq hq dq nq aq xq yq sq tq rd : Nat) (ck lt tc wr : Int32) (j : Nat) (len : Nat → Nat) (hj : j < 32) : xMi G l y_Mo_about c_Mo_about 2 .int ({ frames := 0, cells := 0, slots := 0, locals := 0 }) [.ref h0, .int (nI (6 + j))] [] [(h0, .inr (6, [.int (nI cd), .ref kq, .ref cq, .int (nI rs), .int ck, .int lt, .ref lq, .ref pq, .ref oq, .int (nI os), .ref bq, .int tc, .int wr, .ref rq, .int (nI ln), .ref wq, .ref hq, .ref dq, .ref nq, .ref aq, .ref xq, .ref yq, .ref sq, .ref tq, .int (nI rd)])), (lq, x_N G 32 len)] Unit (fun r _ => r = nI (len j)) (fun u => [(h0, .inr (6, [.int (nI 0), .ref kq, .ref cq, .int (nI rs), .int ck, .int lt, .ref lq, .ref pq, .ref oq, .int (nI os), .ref bq, .int tc, .int wr, .ref rq, .int (nI ln), .ref wq, .ref hq, .ref dq, .ref nq, .ref aq, .ref xq, .ref yq, .ref sq, .ref tq, .int (nI rd)])), (lq, x_N G 32 len)]) 0 0 := by
  refine xMi.by r_Mo (by decide +kernel) (Nat.le_of_ble_eq_true rfl) rfl ?_
  intro p e s m args below meth c A ls Q E B hro hl hret
  have hl : lv_has ls 2 [(0, .ref h0), (1, .int (nI (6 + j)))] := hl
  refine lv_aload_n E.1 E.2.1 d_Mo_about_0 rfl (lv_at hl 0 rfl) ?_
  refine lv_iconst (v := nI 0) E.1 E.2.1 d_Mo_about_1 (by decide) ?_
  refine x_put E B 0 rfl k_Mo 0 (by decide) wd_393 rfl rfl rfl (Nat.le_of_ble_eq_true rfl) d_Mo_about_2 (fun H locs B => ?_)
  have B : xB G A s _ _ ([(h0, .inr (6, [.int (nI 0), .ref kq, .ref cq, .int (nI rs), .int ck, .int lt, .ref lq, .ref pq, .ref oq, .int (nI os), .ref bq, .int tc, .int wr, .ref rq, .int (nI ln), .ref wq, .ref hq, .ref dq, .ref nq, .ref aq, .ref xq, .ref yq, .ref sq, .ref tq, .int (nI rd)])), (lq, x_N G 32 len)]) := B
  refine lv_iload_n E.1 E.2.1 d_Mo_about_5 rfl (lv_at hl 1 rfl) ?_
  refine lv_tableOut (tgt := 82) E.1 E.2.1 d_Mo_about_6 (by rw [nI_toInt (by omega)]; omega) (by decide) ?_
  refine lv_iload_n E.1 E.2.1 d_Mo_about_82 rfl (lv_at hl 1 rfl) ?_
  refine lv_bipush (v := nI 6) E.1 E.2.1 d_Mo_about_83 (by decide) ?_
  refine x_lt (tgt := 94) E d_Mo_about_85 (by decide) (by omega) (by omega) (fun c1 => ?_) (fun c1 => ?_)
  · exfalso; omega
  · refine lv_iload_n E.1 E.2.1 d_Mo_about_88 rfl (lv_at hl 1 rfl) ?_
    refine lv_bipush (v := nI 37) E.1 E.2.1 d_Mo_about_89 (by decide) ?_
    refine x_le (tgt := 98) E d_Mo_about_91 (by decide) (by omega) (by omega) (fun c2 => ?_) (fun c2 => ?_)
    · refine lv_aload_n E.1 E.2.1 d_Mo_about_98 rfl (lv_at hl 0 rfl) ?_
      refine x_get E B 0 rfl k_Mo 6 (by decide) wd_399 rfl d_Mo_about_99 ?_
      refine lv_iload_n E.1 E.2.1 d_Mo_about_102 rfl (lv_at hl 1 rfl) ?_
      refine lv_bipush (v := nI 6) E.1 E.2.1 d_Mo_about_103 (by decide) ?_
      refine x_isub E d_Mo_about_105 (by omega) ?_
      refine x_top (show nI ((6 + j) - 6) = nI j from congrArg nI (by omega)) ?_
      refine x_aldN E B 1 rfl (i := j) (by omega) (by decide) d_Mo_about_106 ?_
      exact hret _ () _ _ _ _ B (rfl) d_Mo_about_107
    · exfalso; omega
set_option maxHeartbeats 4000000 in
set_option maxRecDepth 100000 in
theorem q_Mo_about_n (G : xG) (l : Launch) (h0 cd kq cq rs lq pq oq os bq rq ln wq hq dq nq aq xq yq sq tq rd : Nat) (ck lt tc wr : Int32) (x : Int32) (hs : x.toInt < 0 ∨ 5 < x.toInt) (hv : ¬ (¬ x < nI 6 ∧ x ≤ nI 37)) : xMi G l y_Mo_about c_Mo_about 2 .int ({ frames := 0, cells := 0, slots := 0, locals := 0 }) [.ref h0, .int x] [] [(h0, .inr (6, [.int (nI cd), .ref kq, .ref cq, .int (nI rs), .int ck, .int lt, .ref lq, .ref pq, .ref oq, .int (nI os), .ref bq, .int tc, .int wr, .ref rq, .int (nI ln), .ref wq, .ref hq, .ref dq, .ref nq, .ref aq, .ref xq, .ref yq, .ref sq, .ref tq, .int (nI rd)]))] Unit (fun r _ => r = (-1)) (fun u => [(h0, .inr (6, [.int (nI 0), .ref kq, .ref cq, .int (nI rs), .int ck, .int lt, .ref lq, .ref pq, .ref oq, .int (nI os), .ref bq, .int tc, .int wr, .ref rq, .int (nI ln), .ref wq, .ref hq, .ref dq, .ref nq, .ref aq, .ref xq, .ref yq, .ref sq, .ref tq, .int (nI rd)]))]) 0 0 := by
  refine xMi.by r_Mo (by decide +kernel) (Nat.le_of_ble_eq_true rfl) rfl ?_
  intro p e s m args below meth c A ls Q E B hro hl hret
  have hl : lv_has ls 2 [(0, .ref h0), (1, .int x)] := hl
  refine lv_aload_n E.1 E.2.1 d_Mo_about_0 rfl (lv_at hl 0 rfl) ?_
  refine lv_iconst (v := nI 0) E.1 E.2.1 d_Mo_about_1 (by decide) ?_
  refine x_put E B 0 rfl k_Mo 0 (by decide) wd_393 rfl rfl rfl (Nat.le_of_ble_eq_true rfl) d_Mo_about_2 (fun H locs B => ?_)
  have B : xB G A s _ _ ([(h0, .inr (6, [.int (nI 0), .ref kq, .ref cq, .int (nI rs), .int ck, .int lt, .ref lq, .ref pq, .ref oq, .int (nI os), .ref bq, .int tc, .int wr, .ref rq, .int (nI ln), .ref wq, .ref hq, .ref dq, .ref nq, .ref aq, .ref xq, .ref yq, .ref sq, .ref tq, .int (nI rd)]))]) := B
  refine lv_iload_n E.1 E.2.1 d_Mo_about_5 rfl (lv_at hl 1 rfl) ?_
  refine lv_tableOut (tgt := 82) E.1 E.2.1 d_Mo_about_6 (hs) (by decide) ?_
  refine lv_iload_n E.1 E.2.1 d_Mo_about_82 rfl (lv_at hl 1 rfl) ?_
  refine lv_bipush (v := nI 6) E.1 E.2.1 d_Mo_about_83 (by decide) ?_
  refine lv_icmp_lt (tgt := 94) E.1 E.2.1 d_Mo_about_85 (by decide) (fun h1 => ?_) (fun h1 => ?_)
  · refine lv_iconst (v := -1) E.1 E.2.1 d_Mo_about_94 (by decide) ?_
    refine lv_goto (tgt := 107) E.1 E.2.1 d_Mo_about_95 (by decide) ?_
    exact hret _ () _ _ _ _ B (rfl) d_Mo_about_107
  · refine lv_iload_n E.1 E.2.1 d_Mo_about_88 rfl (lv_at hl 1 rfl) ?_
    refine lv_bipush (v := nI 37) E.1 E.2.1 d_Mo_about_89 (by decide) ?_
    refine lv_icmp_le (tgt := 98) E.1 E.2.1 d_Mo_about_91 (by decide) (fun h2 => ?_) (fun h2 => ?_)
    · exfalso; exact hv ⟨h1, h2⟩
    · refine lv_iconst (v := -1) E.1 E.2.1 d_Mo_about_94 (by decide) ?_
      refine lv_goto (tgt := 107) E.1 E.2.1 d_Mo_about_95 (by decide) ?_
      exact hret _ () _ _ _ _ B (rfl) d_Mo_about_107
set_option maxHeartbeats 4000000 in
set_option maxRecDepth 100000 in
theorem q_Mo_writes_n (G : xG) (l : Launch) (h0 cd kq cq rs lq pq oq os bq rq ln wq hq dq nq aq xq yq sq tq rd : Nat) (ck lt tc wr : Int32) (i b : Nat) (key ctr len : Nat → Nat) (ht : tc = nI 1) : xMi G l y_Mo_writes c_Mo_writes 3 .boolean ({ frames := 1, cells := 0, slots := 0, locals := 21 }) [.ref h0, .int (nI i), .int (nI b)] [] [(h0, .inr (6, [.int (nI cd), .ref kq, .ref cq, .int (nI rs), .int ck, .int lt, .ref lq, .ref pq, .ref oq, .int (nI os), .ref bq, .int tc, .int wr, .ref rq, .int (nI ln), .ref wq, .ref hq, .ref dq, .ref nq, .ref aq, .ref xq, .ref yq, .ref sq, .ref tq, .int (nI rd)])), (kq, x_N G 16 key), (cq, x_N G 16 ctr), (lq, x_N G 32 len)] Unit (fun r _ => r = nI 0) (fun u => [(h0, .inr (6, [.int (nI cd), .ref kq, .ref cq, .int (nI 0), .int (nI 0), .int (-1), .ref lq, .ref pq, .ref oq, .int (nI 0), .ref bq, .int (nI 0), .int wr, .ref rq, .int (nI ln), .ref wq, .ref hq, .ref dq, .ref nq, .ref aq, .ref xq, .ref yq, .ref sq, .ref tq, .int (nI rd)])), (kq, x_N G 16 (fun _ => 0)), (cq, x_N G 16 (fun _ => 0)), (lq, x_N G 32 (fun _ => 0))]) 0 0 := by
  refine xMz.by r_Mo (by decide +kernel) (Nat.le_of_ble_eq_true rfl) rfl ?_
  intro p e s m args below meth c A ls Q E B hro hl hret
  have hl : lv_has ls 3 [(0, .ref h0), (1, .int (nI i)), (2, .int (nI b))] := hl
  refine lv_aload_n E.1 E.2.1 d_Mo_writes_0 rfl (lv_at hl 0 rfl) ?_
  refine x_get E B 0 rfl k_Mo 11 (by decide) wd_404 rfl d_Mo_writes_1 ?_
  refine lv_iconst (v := nI 1) E.1 E.2.1 d_Mo_writes_4 (by decide) ?_
  refine lv_icmp_ne (tgt := 14) E.1 E.2.1 d_Mo_writes_5 (by decide) (fun hc => ?_) (fun hc => ?_)
  · exfalso; exact hc ht
  · refine lv_aload_n E.1 E.2.1 d_Mo_writes_8 rfl (lv_at hl 0 rfl) ?_
    refine x_cv (ws' := (fun u => [(h0, .inr (6, [.int (nI cd), .ref kq, .ref cq, .int (nI 0), .int (nI 0), .int (-1), .ref lq, .ref pq, .ref oq, .int (nI 0), .ref bq, .int (nI 0), .int wr, .ref rq, .int (nI ln), .ref wq, .ref hq, .ref dq, .ref nq, .ref aq, .ref xq, .ref yq, .ref sq, .ref tq, .int (nI rd)])), (kq, x_N G 16 (fun _ => 0)), (cq, x_N G 16 (fun _ => 0)), (lq, x_N G 32 (fun _ => 0))])) (wr := []) B (x_rV (rest := []) E B (q_Mo_first G l h0 cd kq cq rs lq pq oq os bq rq ln wq hq dq nq aq xq yq sq tq rd ck lt tc wr key ctr len  _) (x_pre B [0, 1, 2, 3] rfl (by decide) x_ro0) 0 rfl k_Mo (gg_V wd_473 wd_475 wd_17 wd_40 wd_476) ⟨rfl, p_Mo_first⟩ rfl rfl ⟨Nat.le_of_ble_eq_true rfl, Nat.le_of_ble_eq_true rfl⟩ rfl hl.1 rfl (Nat.le_of_ble_eq_true rfl) d_Mo_writes_9 ⟨Nat.le_of_ble_eq_true rfl, Nat.le_of_ble_eq_true rfl⟩) [0, 1, 2, 3] [] [0, 1, 2, 3] rfl rfl (by decide) (by decide) (by decide) (fun _ => rfl) (fun u9 H locs hw9 B => ?_)
    have B : xB G A s _ _ ([(h0, .inr (6, [.int (nI cd), .ref kq, .ref cq, .int (nI 0), .int (nI 0), .int (-1), .ref lq, .ref pq, .ref oq, .int (nI 0), .ref bq, .int (nI 0), .int wr, .ref rq, .int (nI ln), .ref wq, .ref hq, .ref dq, .ref nq, .ref aq, .ref xq, .ref yq, .ref sq, .ref tq, .int (nI rd)])), (kq, x_N G 16 (fun _ => 0)), (cq, x_N G 16 (fun _ => 0)), (lq, x_N G 32 (fun _ => 0))]) := B
    refine lv_iconst (v := nI 0) E.1 E.2.1 d_Mo_writes_12 (by decide) ?_
    exact hret _ () _ _ _ _ B (rfl) rfl d_Mo_writes_13
set_option maxHeartbeats 4000000 in
set_option maxRecDepth 100000 in
theorem q_Mo_writes_y (G : xG) (l : Launch) (h0 cd kq cq rs lq pq oq os bq rq ln wq hq dq nq aq xq yq sq tq rd : Nat) (ck lt tc wr : Int32) (i b : Nat) (dk : Nat → Nat) (ht : ¬ tc = nI 1) (hi : i < 129) : xMi G l y_Mo_writes c_Mo_writes 3 .boolean ({ frames := 0, cells := 0, slots := 0, locals := 0 }) [.ref h0, .int (nI i), .int (nI b)] [] [(h0, .inr (6, [.int (nI cd), .ref kq, .ref cq, .int (nI rs), .int ck, .int lt, .ref lq, .ref pq, .ref oq, .int (nI os), .ref bq, .int tc, .int wr, .ref rq, .int (nI ln), .ref wq, .ref hq, .ref dq, .ref nq, .ref aq, .ref xq, .ref yq, .ref sq, .ref tq, .int (nI rd)])), (bq, x_N G 129 dk)] Unit (fun r _ => r = nI 1) (fun u => [(h0, .inr (6, [.int (nI cd), .ref kq, .ref cq, .int (nI rs), .int ck, .int lt, .ref lq, .ref pq, .ref oq, .int (nI os), .ref bq, .int (d_w1 tc), .int (wr + nI 1), .ref rq, .int (nI ln), .ref wq, .ref hq, .ref dq, .ref nq, .ref aq, .ref xq, .ref yq, .ref sq, .ref tq, .int (nI rd)])), (bq, x_N G 129 (va_up dk i b))]) 0 0 := by
  refine xMz.by r_Mo (by decide +kernel) (Nat.le_of_ble_eq_true rfl) rfl ?_
  intro p e s m args below meth c A ls Q E B hro hl hret
  have hl : lv_has ls 3 [(0, .ref h0), (1, .int (nI i)), (2, .int (nI b))] := hl
  refine lv_aload_n E.1 E.2.1 d_Mo_writes_0 rfl (lv_at hl 0 rfl) ?_
  refine x_get E B 0 rfl k_Mo 11 (by decide) wd_404 rfl d_Mo_writes_1 ?_
  refine lv_iconst (v := nI 1) E.1 E.2.1 d_Mo_writes_4 (by decide) ?_
  refine lv_icmp_ne (tgt := 14) E.1 E.2.1 d_Mo_writes_5 (by decide) (fun hc => ?_) (fun hc => ?_)
  · refine lv_aload_n E.1 E.2.1 d_Mo_writes_14 rfl (lv_at hl 0 rfl) ?_
    refine lv_dup E.1 E.2.1 d_Mo_writes_15 rfl ?_
    refine x_get E B 0 rfl k_Mo 11 (by decide) wd_404 rfl d_Mo_writes_16 ?_
    refine lv_aload_n E.1 E.2.1 d_Mo_writes_19 rfl (lv_at hl 0 rfl) ?_
    refine x_get E B 0 rfl k_Mo 11 (by decide) wd_404 rfl d_Mo_writes_20 ?_
    refine lv_if_le (tgt := 30) E.1 E.2.1 d_Mo_writes_23 (by decide) (fun hc2 => ?_) (fun hc2 => ?_)
    · refine lv_iconst (v := nI 0) E.1 E.2.1 d_Mo_writes_30 (by decide) ?_
      refine lv_isub E.1 E.2.1 d_Mo_writes_31 ?_
      refine x_top (v' := (d_w1 tc)) (by first | exact d_w1m ht hc2 | exact d_w1o hc2) ?_
      refine x_put E B 0 rfl k_Mo 11 (by decide) wd_404 rfl rfl rfl (Nat.le_of_ble_eq_true rfl) d_Mo_writes_32 (fun H locs B => ?_)
      have B : xB G A s _ _ ([(h0, .inr (6, [.int (nI cd), .ref kq, .ref cq, .int (nI rs), .int ck, .int lt, .ref lq, .ref pq, .ref oq, .int (nI os), .ref bq, .int (d_w1 tc), .int wr, .ref rq, .int (nI ln), .ref wq, .ref hq, .ref dq, .ref nq, .ref aq, .ref xq, .ref yq, .ref sq, .ref tq, .int (nI rd)])), (bq, x_N G 129 dk)]) := B
      refine lv_aload_n E.1 E.2.1 d_Mo_writes_35 rfl (lv_at hl 0 rfl) ?_
      refine x_get E B 0 rfl k_Mo 10 (by decide) wd_403 rfl d_Mo_writes_36 ?_
      refine lv_iload_n E.1 E.2.1 d_Mo_writes_39 rfl (lv_at hl 1 rfl) ?_
      refine lv_iload_n E.1 E.2.1 d_Mo_writes_40 rfl (lv_at hl 2 rfl) ?_
      refine x_astN E B 1 rfl (i := i) (v := b) (by omega) (by decide) d_Mo_writes_41 (fun H locs B => ?_)
      have B : xB G A s _ _ ([(h0, .inr (6, [.int (nI cd), .ref kq, .ref cq, .int (nI rs), .int ck, .int lt, .ref lq, .ref pq, .ref oq, .int (nI os), .ref bq, .int (d_w1 tc), .int wr, .ref rq, .int (nI ln), .ref wq, .ref hq, .ref dq, .ref nq, .ref aq, .ref xq, .ref yq, .ref sq, .ref tq, .int (nI rd)])), (bq, x_N G 129 (va_up dk i b))]) := B
      refine lv_aload_n E.1 E.2.1 d_Mo_writes_42 rfl (lv_at hl 0 rfl) ?_
      refine lv_dup E.1 E.2.1 d_Mo_writes_43 rfl ?_
      refine x_get E B 0 rfl k_Mo 12 (by decide) wd_405 rfl d_Mo_writes_44 ?_
      refine lv_iconst (v := nI 1) E.1 E.2.1 d_Mo_writes_47 (by decide) ?_
      refine lv_iadd E.1 E.2.1 d_Mo_writes_48 ?_
      refine x_put E B 0 rfl k_Mo 12 (by decide) wd_405 rfl rfl rfl (Nat.le_of_ble_eq_true rfl) d_Mo_writes_49 (fun H locs B => ?_)
      have B : xB G A s _ _ ([(h0, .inr (6, [.int (nI cd), .ref kq, .ref cq, .int (nI rs), .int ck, .int lt, .ref lq, .ref pq, .ref oq, .int (nI os), .ref bq, .int (d_w1 tc), .int (wr + (nI 1)), .ref rq, .int (nI ln), .ref wq, .ref hq, .ref dq, .ref nq, .ref aq, .ref xq, .ref yq, .ref sq, .ref tq, .int (nI rd)])), (bq, x_N G 129 (va_up dk i b))]) := B
      refine lv_iconst (v := nI 1) E.1 E.2.1 d_Mo_writes_52 (by decide) ?_
      exact hret _ () _ _ _ _ B (rfl) rfl d_Mo_writes_53
    · refine lv_iconst (v := nI 1) E.1 E.2.1 d_Mo_writes_26 (by decide) ?_
      refine lv_goto (tgt := 31) E.1 E.2.1 d_Mo_writes_27 (by decide) ?_
      refine lv_isub E.1 E.2.1 d_Mo_writes_31 ?_
      refine x_top (v' := (d_w1 tc)) (by first | exact d_w1m ht hc2 | exact d_w1o hc2) ?_
      refine x_put E B 0 rfl k_Mo 11 (by decide) wd_404 rfl rfl rfl (Nat.le_of_ble_eq_true rfl) d_Mo_writes_32 (fun H locs B => ?_)
      have B : xB G A s _ _ ([(h0, .inr (6, [.int (nI cd), .ref kq, .ref cq, .int (nI rs), .int ck, .int lt, .ref lq, .ref pq, .ref oq, .int (nI os), .ref bq, .int (d_w1 tc), .int wr, .ref rq, .int (nI ln), .ref wq, .ref hq, .ref dq, .ref nq, .ref aq, .ref xq, .ref yq, .ref sq, .ref tq, .int (nI rd)])), (bq, x_N G 129 dk)]) := B
      refine lv_aload_n E.1 E.2.1 d_Mo_writes_35 rfl (lv_at hl 0 rfl) ?_
      refine x_get E B 0 rfl k_Mo 10 (by decide) wd_403 rfl d_Mo_writes_36 ?_
      refine lv_iload_n E.1 E.2.1 d_Mo_writes_39 rfl (lv_at hl 1 rfl) ?_
      refine lv_iload_n E.1 E.2.1 d_Mo_writes_40 rfl (lv_at hl 2 rfl) ?_
      refine x_astN E B 1 rfl (i := i) (v := b) (by omega) (by decide) d_Mo_writes_41 (fun H locs B => ?_)
      have B : xB G A s _ _ ([(h0, .inr (6, [.int (nI cd), .ref kq, .ref cq, .int (nI rs), .int ck, .int lt, .ref lq, .ref pq, .ref oq, .int (nI os), .ref bq, .int (d_w1 tc), .int wr, .ref rq, .int (nI ln), .ref wq, .ref hq, .ref dq, .ref nq, .ref aq, .ref xq, .ref yq, .ref sq, .ref tq, .int (nI rd)])), (bq, x_N G 129 (va_up dk i b))]) := B
      refine lv_aload_n E.1 E.2.1 d_Mo_writes_42 rfl (lv_at hl 0 rfl) ?_
      refine lv_dup E.1 E.2.1 d_Mo_writes_43 rfl ?_
      refine x_get E B 0 rfl k_Mo 12 (by decide) wd_405 rfl d_Mo_writes_44 ?_
      refine lv_iconst (v := nI 1) E.1 E.2.1 d_Mo_writes_47 (by decide) ?_
      refine lv_iadd E.1 E.2.1 d_Mo_writes_48 ?_
      refine x_put E B 0 rfl k_Mo 12 (by decide) wd_405 rfl rfl rfl (Nat.le_of_ble_eq_true rfl) d_Mo_writes_49 (fun H locs B => ?_)
      have B : xB G A s _ _ ([(h0, .inr (6, [.int (nI cd), .ref kq, .ref cq, .int (nI rs), .int ck, .int lt, .ref lq, .ref pq, .ref oq, .int (nI os), .ref bq, .int (d_w1 tc), .int (wr + (nI 1)), .ref rq, .int (nI ln), .ref wq, .ref hq, .ref dq, .ref nq, .ref aq, .ref xq, .ref yq, .ref sq, .ref tq, .int (nI rd)])), (bq, x_N G 129 (va_up dk i b))]) := B
      refine lv_iconst (v := nI 1) E.1 E.2.1 d_Mo_writes_52 (by decide) ?_
      exact hret _ () _ _ _ _ B (rfl) rfl d_Mo_writes_53
  · exfalso; exact ht hc
