set_option maxHeartbeats 4000000 in
set_option maxRecDepth 100000 in
theorem q_Mo_byteOf_0 (G : xG) (l : Launch) (h0 cd kq cq rs lq pq oq os bq rq ln wq hq dq nq aq xq yq sq tq rd : Nat) (ck lt tc wr : Int32) (x : Int32) (f : Nat → Nat)  : xMi G l y_Mo_byteOf c_Mo_byteOf 3 .int ({ frames := 1, cells := 0, slots := 0, locals := 21 }) [.ref h0, .int (nI 0), .int x] [] [(h0, .inr (6, [.int (nI cd), .ref kq, .ref cq, .int (nI rs), .int ck, .int lt, .ref lq, .ref pq, .ref oq, .int (nI os), .ref bq, .int tc, .int wr, .ref rq, .int (nI ln), .ref wq, .ref hq, .ref dq, .ref nq, .ref aq, .ref xq, .ref yq, .ref sq, .ref tq, .int (nI rd)])), (kq, x_N G 16 f)] Unit (fun r _ => r = c_at f 16 x) (fun u => [(h0, .inr (6, [.int (nI 0), .ref kq, .ref cq, .int (nI rs), .int ck, .int lt, .ref lq, .ref pq, .ref oq, .int (nI os), .ref bq, .int tc, .int wr, .ref rq, .int (nI ln), .ref wq, .ref hq, .ref dq, .ref nq, .ref aq, .ref xq, .ref yq, .ref sq, .ref tq, .int (nI rd)])), (kq, x_N G 16 f)]) 0 0 := by
  refine xMi.by r_Mo (by decide +kernel) (Nat.le_of_ble_eq_true rfl) rfl ?_
  intro p e s m args below meth c A ls Q E B hro hl hret
  have hl : lv_has ls 3 [(0, .ref h0), (1, .int (nI 0)), (2, .int x)] := hl
  refine lv_aload_n E.1 E.2.1 d_Mo_byteOf_0 rfl (lv_at hl 0 rfl) ?_
  refine lv_iconst (v := nI 0) E.1 E.2.1 d_Mo_byteOf_1 (by decide) ?_
  refine x_put E B 0 rfl k_Mo 0 (by decide) wd_393 rfl rfl rfl (Nat.le_of_ble_eq_true rfl) d_Mo_byteOf_2 (fun H locs B => ?_)
  have B : xB G A s _ _ ([(h0, .inr (6, [.int (nI 0), .ref kq, .ref cq, .int (nI rs), .int ck, .int lt, .ref lq, .ref pq, .ref oq, .int (nI os), .ref bq, .int tc, .int wr, .ref rq, .int (nI ln), .ref wq, .ref hq, .ref dq, .ref nq, .ref aq, .ref xq, .ref yq, .ref sq, .ref tq, .int (nI rd)])), (kq, x_N G 16 f)]) := B
  refine lv_iload_n E.1 E.2.1 d_Mo_byteOf_5 rfl (lv_at hl 1 rfl) ?_
  refine lv_iconst (v := nI 2) E.1 E.2.1 d_Mo_byteOf_6 (by decide) ?_
  refine x_ne (tgt := 31) E d_Mo_byteOf_7 (by decide) (by omega) (by omega) (fun c1 => ?_) (fun c1 => ?_)
  · refine lv_iload_n E.1 E.2.1 d_Mo_byteOf_31 rfl (lv_at hl 1 rfl) ?_
    refine lv_if_lt (tgt := 61) E.1 E.2.1 d_Mo_byteOf_32 (by decide) (fun hq0 => ?_) (fun hq0 => ?_)
    · exfalso; exact absurd hq0 (by decide)
    · refine lv_iload_n E.1 E.2.1 d_Mo_byteOf_35 rfl (lv_at hl 1 rfl) ?_
      refine lv_bipush (v := nI 34) E.1 E.2.1 d_Mo_byteOf_36 (by decide) ?_
      refine x_gt (tgt := 61) E d_Mo_byteOf_38 (by decide) (by omega) (by omega) (fun c3 => ?_) (fun c3 => ?_)
      · exfalso; omega
      · refine lv_iload_n E.1 E.2.1 d_Mo_byteOf_41 rfl (lv_at hl 2 rfl) ?_
        refine lv_if_lt (tgt := 61) E.1 E.2.1 d_Mo_byteOf_42 (by decide) (fun h1 => ?_) (fun h1 => ?_)
        · refine lv_iconst (v := -1) E.1 E.2.1 d_Mo_byteOf_61 (by decide) ?_
          exact hret _ () _ _ _ _ B (by first | exact c_at_b (Int32.not_lt.mp h2) | exact c_at_a h1) d_Mo_byteOf_62
        · refine lv_iload_n E.1 E.2.1 d_Mo_byteOf_45 rfl (lv_at hl 2 rfl) ?_
          refine lv_iload_n E.1 E.2.1 d_Mo_byteOf_46 rfl (lv_at hl 1 rfl) ?_
          refine lv_iconst (v := nI 2) E.1 E.2.1 d_Mo_byteOf_47 (by decide) ?_
          refine x_ge (tgt := 56) E d_Mo_byteOf_48 (by decide) (by omega) (by omega) (fun c5 => ?_) (fun c5 => ?_)
          · exfalso; omega
          · refine lv_bipush (v := nI 16) E.1 E.2.1 d_Mo_byteOf_51 (by decide) ?_
            refine lv_goto (tgt := 58) E.1 E.2.1 d_Mo_byteOf_53 (by decide) ?_
            refine lv_icmp_lt (tgt := 63) E.1 E.2.1 d_Mo_byteOf_58 (by decide) (fun h2 => ?_) (fun h2 => ?_)
            · obtain ⟨j, hj, rfl⟩ : ∃ j : Nat, j < 16 ∧ x = nI j := x_ix h1 (Int32.not_le.mpr h2) (by omega)
              refine lv_iload_n E.1 E.2.1 d_Mo_byteOf_63 rfl (lv_at hl 1 rfl) ?_
              refine lv_iconst (v := nI 2) E.1 E.2.1 d_Mo_byteOf_64 (by decide) ?_
              refine x_le (tgt := 75) E d_Mo_byteOf_65 (by decide) (by omega) (by omega) (fun c7 => ?_) (fun c7 => ?_)
              · refine lv_iload_n E.1 E.2.1 d_Mo_byteOf_75 rfl (lv_at hl 1 rfl) ?_
                refine x_ifn (tgt := 88) E d_Mo_byteOf_76 (by decide) (by omega) (fun c8 => ?_) (fun c8 => ?_)
                · exfalso; omega
                · refine lv_aload_n E.1 E.2.1 d_Mo_byteOf_79 rfl (lv_at hl 0 rfl) ?_
                  refine x_get E B 0 rfl k_Mo 1 (by decide) wd_394 rfl d_Mo_byteOf_80 ?_
                  refine lv_iload_n E.1 E.2.1 d_Mo_byteOf_83 rfl (lv_at hl 2 rfl) ?_
                  refine x_aldN E B 1 rfl (i := j) (by omega) (by decide) d_Mo_byteOf_84 ?_
                  refine lv_goto (tgt := 108) E.1 E.2.1 d_Mo_byteOf_85 (by decide) ?_
                  exact hret _ () _ _ _ _ B (c_at_y hj (by decide)) d_Mo_byteOf_108
              · exfalso; omega
            · refine lv_iconst (v := -1) E.1 E.2.1 d_Mo_byteOf_61 (by decide) ?_
              exact hret _ () _ _ _ _ B (by first | exact c_at_b (Int32.not_lt.mp h2) | exact c_at_a h1) d_Mo_byteOf_62
  · exfalso; omega
set_option maxHeartbeats 4000000 in
set_option maxRecDepth 100000 in
theorem q_Mo_byteOf_1 (G : xG) (l : Launch) (h0 cd kq cq rs lq pq oq os bq rq ln wq hq dq nq aq xq yq sq tq rd : Nat) (ck lt tc wr : Int32) (x : Int32) (f : Nat → Nat)  : xMi G l y_Mo_byteOf c_Mo_byteOf 3 .int ({ frames := 1, cells := 0, slots := 0, locals := 21 }) [.ref h0, .int (nI 1), .int x] [] [(h0, .inr (6, [.int (nI cd), .ref kq, .ref cq, .int (nI rs), .int ck, .int lt, .ref lq, .ref pq, .ref oq, .int (nI os), .ref bq, .int tc, .int wr, .ref rq, .int (nI ln), .ref wq, .ref hq, .ref dq, .ref nq, .ref aq, .ref xq, .ref yq, .ref sq, .ref tq, .int (nI rd)])), (cq, x_N G 16 f)] Unit (fun r _ => r = c_at f 16 x) (fun u => [(h0, .inr (6, [.int (nI 0), .ref kq, .ref cq, .int (nI rs), .int ck, .int lt, .ref lq, .ref pq, .ref oq, .int (nI os), .ref bq, .int tc, .int wr, .ref rq, .int (nI ln), .ref wq, .ref hq, .ref dq, .ref nq, .ref aq, .ref xq, .ref yq, .ref sq, .ref tq, .int (nI rd)])), (cq, x_N G 16 f)]) 0 0 := by
  refine xMi.by r_Mo (by decide +kernel) (Nat.le_of_ble_eq_true rfl) rfl ?_
  intro p e s m args below meth c A ls Q E B hro hl hret
  have hl : lv_has ls 3 [(0, .ref h0), (1, .int (nI 1)), (2, .int x)] := hl
  refine lv_aload_n E.1 E.2.1 d_Mo_byteOf_0 rfl (lv_at hl 0 rfl) ?_
  refine lv_iconst (v := nI 0) E.1 E.2.1 d_Mo_byteOf_1 (by decide) ?_
  refine x_put E B 0 rfl k_Mo 0 (by decide) wd_393 rfl rfl rfl (Nat.le_of_ble_eq_true rfl) d_Mo_byteOf_2 (fun H locs B => ?_)
  have B : xB G A s _ _ ([(h0, .inr (6, [.int (nI 0), .ref kq, .ref cq, .int (nI rs), .int ck, .int lt, .ref lq, .ref pq, .ref oq, .int (nI os), .ref bq, .int tc, .int wr, .ref rq, .int (nI ln), .ref wq, .ref hq, .ref dq, .ref nq, .ref aq, .ref xq, .ref yq, .ref sq, .ref tq, .int (nI rd)])), (cq, x_N G 16 f)]) := B
  refine lv_iload_n E.1 E.2.1 d_Mo_byteOf_5 rfl (lv_at hl 1 rfl) ?_
  refine lv_iconst (v := nI 2) E.1 E.2.1 d_Mo_byteOf_6 (by decide) ?_
  refine x_ne (tgt := 31) E d_Mo_byteOf_7 (by decide) (by omega) (by omega) (fun c1 => ?_) (fun c1 => ?_)
  · refine lv_iload_n E.1 E.2.1 d_Mo_byteOf_31 rfl (lv_at hl 1 rfl) ?_
    refine lv_if_lt (tgt := 61) E.1 E.2.1 d_Mo_byteOf_32 (by decide) (fun hq0 => ?_) (fun hq0 => ?_)
    · exfalso; exact absurd hq0 (by decide)
    · refine lv_iload_n E.1 E.2.1 d_Mo_byteOf_35 rfl (lv_at hl 1 rfl) ?_
      refine lv_bipush (v := nI 34) E.1 E.2.1 d_Mo_byteOf_36 (by decide) ?_
      refine x_gt (tgt := 61) E d_Mo_byteOf_38 (by decide) (by omega) (by omega) (fun c3 => ?_) (fun c3 => ?_)
      · exfalso; omega
      · refine lv_iload_n E.1 E.2.1 d_Mo_byteOf_41 rfl (lv_at hl 2 rfl) ?_
        refine lv_if_lt (tgt := 61) E.1 E.2.1 d_Mo_byteOf_42 (by decide) (fun h1 => ?_) (fun h1 => ?_)
        · refine lv_iconst (v := -1) E.1 E.2.1 d_Mo_byteOf_61 (by decide) ?_
          exact hret _ () _ _ _ _ B (by first | exact c_at_b (Int32.not_lt.mp h2) | exact c_at_a h1) d_Mo_byteOf_62
        · refine lv_iload_n E.1 E.2.1 d_Mo_byteOf_45 rfl (lv_at hl 2 rfl) ?_
          refine lv_iload_n E.1 E.2.1 d_Mo_byteOf_46 rfl (lv_at hl 1 rfl) ?_
          refine lv_iconst (v := nI 2) E.1 E.2.1 d_Mo_byteOf_47 (by decide) ?_
          refine x_ge (tgt := 56) E d_Mo_byteOf_48 (by decide) (by omega) (by omega) (fun c5 => ?_) (fun c5 => ?_)
          · exfalso; omega
          · refine lv_bipush (v := nI 16) E.1 E.2.1 d_Mo_byteOf_51 (by decide) ?_
            refine lv_goto (tgt := 58) E.1 E.2.1 d_Mo_byteOf_53 (by decide) ?_
            refine lv_icmp_lt (tgt := 63) E.1 E.2.1 d_Mo_byteOf_58 (by decide) (fun h2 => ?_) (fun h2 => ?_)
            · obtain ⟨j, hj, rfl⟩ : ∃ j : Nat, j < 16 ∧ x = nI j := x_ix h1 (Int32.not_le.mpr h2) (by omega)
              refine lv_iload_n E.1 E.2.1 d_Mo_byteOf_63 rfl (lv_at hl 1 rfl) ?_
              refine lv_iconst (v := nI 2) E.1 E.2.1 d_Mo_byteOf_64 (by decide) ?_
              refine x_le (tgt := 75) E d_Mo_byteOf_65 (by decide) (by omega) (by omega) (fun c7 => ?_) (fun c7 => ?_)
              · refine lv_iload_n E.1 E.2.1 d_Mo_byteOf_75 rfl (lv_at hl 1 rfl) ?_
                refine x_ifn (tgt := 88) E d_Mo_byteOf_76 (by decide) (by omega) (fun c8 => ?_) (fun c8 => ?_)
                · refine lv_iload_n E.1 E.2.1 d_Mo_byteOf_88 rfl (lv_at hl 1 rfl) ?_
                  refine lv_iconst (v := nI 1) E.1 E.2.1 d_Mo_byteOf_89 (by decide) ?_
                  refine x_ne (tgt := 102) E d_Mo_byteOf_90 (by decide) (by omega) (by omega) (fun c9 => ?_) (fun c9 => ?_)
                  · exfalso; omega
                  · refine lv_aload_n E.1 E.2.1 d_Mo_byteOf_93 rfl (lv_at hl 0 rfl) ?_
                    refine x_get E B 0 rfl k_Mo 2 (by decide) wd_395 rfl d_Mo_byteOf_94 ?_
                    refine lv_iload_n E.1 E.2.1 d_Mo_byteOf_97 rfl (lv_at hl 2 rfl) ?_
                    refine x_aldN E B 1 rfl (i := j) (by omega) (by decide) d_Mo_byteOf_98 ?_
                    refine lv_goto (tgt := 108) E.1 E.2.1 d_Mo_byteOf_99 (by decide) ?_
                    exact hret _ () _ _ _ _ B (c_at_y hj (by decide)) d_Mo_byteOf_108
                · exfalso; omega
              · exfalso; omega
            · refine lv_iconst (v := -1) E.1 E.2.1 d_Mo_byteOf_61 (by decide) ?_
              exact hret _ () _ _ _ _ B (by first | exact c_at_b (Int32.not_lt.mp h2) | exact c_at_a h1) d_Mo_byteOf_62
  · exfalso; omega
set_option maxHeartbeats 4000000 in
set_option maxRecDepth 100000 in
theorem q_Mo_byteOf_2 (G : xG) (l : Launch) (h0 cd kq cq rs lq pq oq os bq rq ln wq hq dq nq aq xq yq sq tq rd : Nat) (ck lt tc wr : Int32) (x : Int32) (f : Nat → Nat)  : xMi G l y_Mo_byteOf c_Mo_byteOf 3 .int ({ frames := 1, cells := 0, slots := 0, locals := 21 }) [.ref h0, .int (nI 2), .int x] [] [(h0, .inr (6, [.int (nI cd), .ref kq, .ref cq, .int (nI rs), .int ck, .int lt, .ref lq, .ref pq, .ref oq, .int (nI os), .ref bq, .int tc, .int wr, .ref rq, .int (nI ln), .ref wq, .ref hq, .ref dq, .ref nq, .ref aq, .ref xq, .ref yq, .ref sq, .ref tq, .int (nI rd)])), (bq, x_N G 129 f)] Unit (fun r _ => r = c_at f 129 x) (fun u => [(h0, .inr (6, [.int (nI 0), .ref kq, .ref cq, .int (nI rs), .int ck, .int lt, .ref lq, .ref pq, .ref oq, .int (nI os), .ref bq, .int tc, .int wr, .ref rq, .int (nI ln), .ref wq, .ref hq, .ref dq, .ref nq, .ref aq, .ref xq, .ref yq, .ref sq, .ref tq, .int (nI rd)])), (bq, x_N G 129 f)]) 0 0 := by
  refine xMi.by r_Mo (by decide +kernel) (Nat.le_of_ble_eq_true rfl) rfl ?_
  intro p e s m args below meth c A ls Q E B hro hl hret
  have hl : lv_has ls 3 [(0, .ref h0), (1, .int (nI 2)), (2, .int x)] := hl
  refine lv_aload_n E.1 E.2.1 d_Mo_byteOf_0 rfl (lv_at hl 0 rfl) ?_
  refine lv_iconst (v := nI 0) E.1 E.2.1 d_Mo_byteOf_1 (by decide) ?_
  refine x_put E B 0 rfl k_Mo 0 (by decide) wd_393 rfl rfl rfl (Nat.le_of_ble_eq_true rfl) d_Mo_byteOf_2 (fun H locs B => ?_)
  have B : xB G A s _ _ ([(h0, .inr (6, [.int (nI 0), .ref kq, .ref cq, .int (nI rs), .int ck, .int lt, .ref lq, .ref pq, .ref oq, .int (nI os), .ref bq, .int tc, .int wr, .ref rq, .int (nI ln), .ref wq, .ref hq, .ref dq, .ref nq, .ref aq, .ref xq, .ref yq, .ref sq, .ref tq, .int (nI rd)])), (bq, x_N G 129 f)]) := B
  refine lv_iload_n E.1 E.2.1 d_Mo_byteOf_5 rfl (lv_at hl 1 rfl) ?_
  refine lv_iconst (v := nI 2) E.1 E.2.1 d_Mo_byteOf_6 (by decide) ?_
  refine x_ne (tgt := 31) E d_Mo_byteOf_7 (by decide) (by omega) (by omega) (fun c1 => ?_) (fun c1 => ?_)
  · exfalso; omega
  · refine lv_iload_n E.1 E.2.1 d_Mo_byteOf_10 rfl (lv_at hl 2 rfl) ?_
    refine lv_sipush (v := nI 129) E.1 E.2.1 d_Mo_byteOf_11 (by decide) ?_
    refine x_cf (x_rS (rest := []) E (q_Mo_in l x 129 ) x_pf (gg_S wd_481 wd_482 wd_40 wd_483) p_Mo_in rfl rfl ⟨Nat.le_of_ble_eq_true rfl, Nat.le_of_ble_eq_true rfl⟩ rfl hl.1 rfl (Nat.le_of_ble_eq_true rfl) d_Mo_byteOf_14 ⟨Nat.le_of_ble_eq_true rfl, Nat.le_of_ble_eq_true rfl⟩) ?_
    refine x_if0 (tgt := 29) E d_Mo_byteOf_17 (by decide) (by have := c_in_le x 129; omega) (fun hz => ?_) (fun hz => ?_)
    · refine lv_iconst (v := -1) E.1 E.2.1 d_Mo_byteOf_29 (by decide) ?_
      exact hret _ () _ _ _ _ B (by first | exact c_at_y hj (by decide) | exact c_at_0 hz) d_Mo_byteOf_30
    · have hzx := c_in_le x 129
      obtain ⟨j, hj, rfl⟩ := c_in_1 (x := x) (n := 129) (by omega) (by omega)
      refine lv_aload_n E.1 E.2.1 d_Mo_byteOf_20 rfl (lv_at hl 0 rfl) ?_
      refine x_get E B 0 rfl k_Mo 10 (by decide) wd_403 rfl d_Mo_byteOf_21 ?_
      refine lv_iload_n E.1 E.2.1 d_Mo_byteOf_24 rfl (lv_at hl 2 rfl) ?_
      refine x_aldN E B 1 rfl (i := j) (by omega) (by decide) d_Mo_byteOf_25 ?_
      refine lv_goto (tgt := 30) E.1 E.2.1 d_Mo_byteOf_26 (by decide) ?_
      exact hret _ () _ _ _ _ B (by first | exact c_at_y hj (by decide) | exact c_at_0 hz) d_Mo_byteOf_30
set_option maxHeartbeats 4000000 in
set_option maxRecDepth 100000 in
theorem q_Mo_byteOf_y (G : xG) (l : Launch) (h0 cd kq cq rs lq pq oq os bq rq ln wq hq dq nq aq xq yq sq tq rd : Nat) (ck lt tc wr : Int32) (j i : Nat) (len pp f dd : Nat → Nat) (w0 Hf : Nat → Int32) (hj : j < 32) (hi : i < 32) (hle : len j ≤ 1600) (hf : ∀ k, k < len j → pp (1600 * j + k) < 256) : xMi G l y_Mo_byteOf c_Mo_byteOf 3 .int ({ frames := 5, cells := 0, slots := 0, locals := 121 }) [.ref h0, .int (nI (3 + j)), .int (nI i)] [] [(h0, .inr (6, [.int (nI cd), .ref kq, .ref cq, .int (nI rs), .int ck, .int lt, .ref lq, .ref pq, .ref oq, .int (nI os), .ref bq, .int tc, .int wr, .ref rq, .int (nI ln), .ref wq, .ref hq, .ref dq, .ref nq, .ref aq, .ref xq, .ref yq, .ref sq, .ref tq, .int (nI rd)])), (lq, x_N G 32 len), (pq, x_N G 51200 pp), (rq, x_N G 2000 f), (wq, x_I G 64 w0), (hq, x_I G 8 Hf), (dq, x_N G 32 dd)] ((Nat → Int32) × (Nat → Int32) × (Nat → Nat)) (fun r _ => r = nI (h_tw (r_PP pp j) (len j) i)) (fun u => [(h0, .inr (6, [.int (nI 0), .ref kq, .ref cq, .int (nI rs), .int ck, .int lt, .ref lq, .ref pq, .ref oq, .int (nI os), .ref bq, .int tc, .int wr, .ref rq, .int (nI 32), .ref wq, .ref hq, .ref dq, .ref nq, .ref aq, .ref xq, .ref yq, .ref sq, .ref tq, .int (nI rd)])), (lq, x_N G 32 len), (pq, x_N G 51200 pp), (rq, x_N G 2000 u.2.2), (wq, x_I G 64 u.1), (hq, x_I G 8 u.2.1), (dq, x_N G 32 (h_tw (r_PP pp j) (len j)))]) 0 0 := by
  refine xMi.by r_Mo (by decide +kernel) (Nat.le_of_ble_eq_true rfl) rfl ?_
  intro p e s m args below meth c A ls Q E B hro hl hret
  have hl : lv_has ls 3 [(0, .ref h0), (1, .int (nI (3 + j))), (2, .int (nI i))] := hl
  refine lv_aload_n E.1 E.2.1 d_Mo_byteOf_0 rfl (lv_at hl 0 rfl) ?_
  refine lv_iconst (v := nI 0) E.1 E.2.1 d_Mo_byteOf_1 (by decide) ?_
  refine x_put E B 0 rfl k_Mo 0 (by decide) wd_393 rfl rfl rfl (Nat.le_of_ble_eq_true rfl) d_Mo_byteOf_2 (fun H locs B => ?_)
  have B : xB G A s _ _ ([(h0, .inr (6, [.int (nI 0), .ref kq, .ref cq, .int (nI rs), .int ck, .int lt, .ref lq, .ref pq, .ref oq, .int (nI os), .ref bq, .int tc, .int wr, .ref rq, .int (nI ln), .ref wq, .ref hq, .ref dq, .ref nq, .ref aq, .ref xq, .ref yq, .ref sq, .ref tq, .int (nI rd)])), (lq, x_N G 32 len), (pq, x_N G 51200 pp), (rq, x_N G 2000 f), (wq, x_I G 64 w0), (hq, x_I G 8 Hf), (dq, x_N G 32 dd)]) := B
  refine lv_iload_n E.1 E.2.1 d_Mo_byteOf_5 rfl (lv_at hl 1 rfl) ?_
  refine lv_iconst (v := nI 2) E.1 E.2.1 d_Mo_byteOf_6 (by decide) ?_
  refine x_ne (tgt := 31) E d_Mo_byteOf_7 (by decide) (by omega) (by omega) (fun c1 => ?_) (fun c1 => ?_)
  · refine lv_iload_n E.1 E.2.1 d_Mo_byteOf_31 rfl (lv_at hl 1 rfl) ?_
    refine lv_if_lt (tgt := 61) E.1 E.2.1 d_Mo_byteOf_32 (by decide) (fun hq0 => ?_) (fun hq0 => ?_)
    · exfalso; exact nI_pos (by omega) hq0
    · refine lv_iload_n E.1 E.2.1 d_Mo_byteOf_35 rfl (lv_at hl 1 rfl) ?_
      refine lv_bipush (v := nI 34) E.1 E.2.1 d_Mo_byteOf_36 (by decide) ?_
      refine x_gt (tgt := 61) E d_Mo_byteOf_38 (by decide) (by omega) (by omega) (fun c3 => ?_) (fun c3 => ?_)
      · exfalso; omega
      · refine lv_iload_n E.1 E.2.1 d_Mo_byteOf_41 rfl (lv_at hl 2 rfl) ?_
        refine lv_if_lt (tgt := 61) E.1 E.2.1 d_Mo_byteOf_42 (by decide) (fun hq1 => ?_) (fun hq1 => ?_)
        · exfalso; exact nI_pos (by omega) hq1
        · refine lv_iload_n E.1 E.2.1 d_Mo_byteOf_45 rfl (lv_at hl 2 rfl) ?_
          refine lv_iload_n E.1 E.2.1 d_Mo_byteOf_46 rfl (lv_at hl 1 rfl) ?_
          refine lv_iconst (v := nI 2) E.1 E.2.1 d_Mo_byteOf_47 (by decide) ?_
          refine x_ge (tgt := 56) E d_Mo_byteOf_48 (by decide) (by omega) (by omega) (fun c5 => ?_) (fun c5 => ?_)
          · refine lv_bipush (v := nI 32) E.1 E.2.1 d_Mo_byteOf_56 (by decide) ?_
            refine x_lt (tgt := 63) E d_Mo_byteOf_58 (by decide) (by omega) (by omega) (fun c6 => ?_) (fun c6 => ?_)
            · refine lv_iload_n E.1 E.2.1 d_Mo_byteOf_63 rfl (lv_at hl 1 rfl) ?_
              refine lv_iconst (v := nI 2) E.1 E.2.1 d_Mo_byteOf_64 (by decide) ?_
              refine x_le (tgt := 75) E d_Mo_byteOf_65 (by decide) (by omega) (by omega) (fun c7 => ?_) (fun c7 => ?_)
              · exfalso; omega
              · refine lv_aload_n E.1 E.2.1 d_Mo_byteOf_68 rfl (lv_at hl 0 rfl) ?_
                refine lv_iload_n E.1 E.2.1 d_Mo_byteOf_69 rfl (lv_at hl 1 rfl) ?_
                refine lv_iconst (v := nI 3) E.1 E.2.1 d_Mo_byteOf_70 (by decide) ?_
                refine x_isub E d_Mo_byteOf_71 (by omega) ?_
                refine x_top (show nI ((3 + j) - 3) = nI j from congrArg nI (by omega)) ?_
                refine x_cv (ws' := (fun u => [(h0, .inr (6, [.int (nI 0), .ref kq, .ref cq, .int (nI rs), .int ck, .int lt, .ref lq, .ref pq, .ref oq, .int (nI os), .ref bq, .int tc, .int wr, .ref rq, .int (nI 32), .ref wq, .ref hq, .ref dq, .ref nq, .ref aq, .ref xq, .ref yq, .ref sq, .ref tq, .int (nI rd)])), (lq, x_N G 32 len), (pq, x_N G 51200 pp), (rq, x_N G 2000 u.2.2), (wq, x_I G 64 u.1), (hq, x_I G 8 u.2.1), (dq, x_N G 32 (h_tw (fun x_ => pp (1600 * j + x_)) (len j)))])) (wr := []) B (x_rV (rest := []) E B (q_Mo_ofPool G l h0 0 kq cq rs lq pq oq os bq rq ln wq hq dq nq aq xq yq sq tq rd ck lt tc wr j len pp f dd w0 Hf (by omega) (hle) (hf) _) (x_pre B [0, 1, 2, 3, 4, 5, 6] rfl (by decide) x_ro0) 0 rfl k_Mo (gg_V wd_497 wd_499 wd_19 wd_40 wd_500) ⟨rfl, p_Mo_ofPool⟩ rfl rfl ⟨Nat.le_of_ble_eq_true rfl, Nat.le_of_ble_eq_true rfl⟩ rfl hl.1 rfl (Nat.le_of_ble_eq_true rfl) d_Mo_byteOf_72 ⟨Nat.le_of_ble_eq_true rfl, Nat.le_of_ble_eq_true rfl⟩) [0, 1, 2, 3, 4, 5, 6] [] [0, 1, 2, 3, 4, 5, 6] rfl rfl (by decide) (by decide) (by decide) (fun _ => rfl) (fun u72 H locs hw72 B => ?_)
                have B : xB G A s _ _ ([(h0, .inr (6, [.int (nI 0), .ref kq, .ref cq, .int (nI rs), .int ck, .int lt, .ref lq, .ref pq, .ref oq, .int (nI os), .ref bq, .int tc, .int wr, .ref rq, .int (nI 32), .ref wq, .ref hq, .ref dq, .ref nq, .ref aq, .ref xq, .ref yq, .ref sq, .ref tq, .int (nI rd)])), (lq, x_N G 32 len), (pq, x_N G 51200 pp), (rq, x_N G 2000 u72.2.2), (wq, x_I G 64 u72.1), (hq, x_I G 8 u72.2.1), (dq, x_N G 32 (h_tw (fun x_ => pp (1600 * j + x_)) (len j)))]) := B
                have B := B.fn 6 rfl (nA (h_tw (r_PP pp j) (len j))) (fun _ _ => rfl)
                have B : xB G A s _ _ ([(h0, .inr (6, [.int (nI 0), .ref kq, .ref cq, .int (nI rs), .int ck, .int lt, .ref lq, .ref pq, .ref oq, .int (nI os), .ref bq, .int tc, .int wr, .ref rq, .int (nI 32), .ref wq, .ref hq, .ref dq, .ref nq, .ref aq, .ref xq, .ref yq, .ref sq, .ref tq, .int (nI rd)])), (lq, x_N G 32 len), (pq, x_N G 51200 pp), (rq, x_N G 2000 u72.2.2), (wq, x_I G 64 u72.1), (hq, x_I G 8 u72.2.1), (dq, x_N G 32 (h_tw (r_PP pp j) (len j)))]) := B
                refine lv_iload_n E.1 E.2.1 d_Mo_byteOf_75 rfl (lv_at hl 1 rfl) ?_
                refine x_ifn (tgt := 88) E d_Mo_byteOf_76 (by decide) (by omega) (fun c8 => ?_) (fun c8 => ?_)
                · refine lv_iload_n E.1 E.2.1 d_Mo_byteOf_88 rfl (lv_at hl 1 rfl) ?_
                  refine lv_iconst (v := nI 1) E.1 E.2.1 d_Mo_byteOf_89 (by decide) ?_
                  refine x_ne (tgt := 102) E d_Mo_byteOf_90 (by decide) (by omega) (by omega) (fun c9 => ?_) (fun c9 => ?_)
                  · refine lv_aload_n E.1 E.2.1 d_Mo_byteOf_102 rfl (lv_at hl 0 rfl) ?_
                    refine x_get E B 0 rfl k_Mo 17 (by decide) wd_410 rfl d_Mo_byteOf_103 ?_
                    refine lv_iload_n E.1 E.2.1 d_Mo_byteOf_106 rfl (lv_at hl 2 rfl) ?_
                    refine x_aldN E B 6 rfl (i := i) (by omega) (by decide) d_Mo_byteOf_107 ?_
                    exact hret _ u72 _ _ _ _ B (rfl) d_Mo_byteOf_108
                  · exfalso; omega
                · exfalso; omega
            · exfalso; omega
          · exfalso; omega
  · exfalso; omega
set_option maxHeartbeats 4000000 in
set_option maxRecDepth 100000 in
theorem q_Mo_byteOf_n (G : xG) (l : Launch) (h0 cd kq cq rs lq pq oq os bq rq ln wq hq dq nq aq xq yq sq tq rd : Nat) (ck lt tc wr : Int32) (x y : Int32) (h2_ : ¬ x = nI 2) (hv : ¬ (¬ x < 0 ∧ ¬ nI 34 < x ∧ ¬ y < 0 ∧ y < (if x < nI 2 then nI 16 else nI 32))) : xMi G l y_Mo_byteOf c_Mo_byteOf 3 .int ({ frames := 0, cells := 0, slots := 0, locals := 0 }) [.ref h0, .int x, .int y] [] [(h0, .inr (6, [.int (nI cd), .ref kq, .ref cq, .int (nI rs), .int ck, .int lt, .ref lq, .ref pq, .ref oq, .int (nI os), .ref bq, .int tc, .int wr, .ref rq, .int (nI ln), .ref wq, .ref hq, .ref dq, .ref nq, .ref aq, .ref xq, .ref yq, .ref sq, .ref tq, .int (nI rd)]))] Unit (fun r _ => r = (-1)) (fun u => [(h0, .inr (6, [.int (nI 0), .ref kq, .ref cq, .int (nI rs), .int ck, .int lt, .ref lq, .ref pq, .ref oq, .int (nI os), .ref bq, .int tc, .int wr, .ref rq, .int (nI ln), .ref wq, .ref hq, .ref dq, .ref nq, .ref aq, .ref xq, .ref yq, .ref sq, .ref tq, .int (nI rd)]))]) 0 0 := by
  refine xMi.by r_Mo (by decide +kernel) (Nat.le_of_ble_eq_true rfl) rfl ?_
  intro p e s m args below meth c A ls Q E B hro hl hret
  have hl : lv_has ls 3 [(0, .ref h0), (1, .int x), (2, .int y)] := hl
  refine lv_aload_n E.1 E.2.1 d_Mo_byteOf_0 rfl (lv_at hl 0 rfl) ?_
  refine lv_iconst (v := nI 0) E.1 E.2.1 d_Mo_byteOf_1 (by decide) ?_
  refine x_put E B 0 rfl k_Mo 0 (by decide) wd_393 rfl rfl rfl (Nat.le_of_ble_eq_true rfl) d_Mo_byteOf_2 (fun H locs B => ?_)
  have B : xB G A s _ _ ([(h0, .inr (6, [.int (nI 0), .ref kq, .ref cq, .int (nI rs), .int ck, .int lt, .ref lq, .ref pq, .ref oq, .int (nI os), .ref bq, .int tc, .int wr, .ref rq, .int (nI ln), .ref wq, .ref hq, .ref dq, .ref nq, .ref aq, .ref xq, .ref yq, .ref sq, .ref tq, .int (nI rd)]))]) := B
  refine lv_iload_n E.1 E.2.1 d_Mo_byteOf_5 rfl (lv_at hl 1 rfl) ?_
  refine lv_iconst (v := nI 2) E.1 E.2.1 d_Mo_byteOf_6 (by decide) ?_
  refine lv_icmp_ne (tgt := 31) E.1 E.2.1 d_Mo_byteOf_7 (by decide) (fun h0_ => ?_) (fun h0_ => ?_)
  · refine lv_iload_n E.1 E.2.1 d_Mo_byteOf_31 rfl (lv_at hl 1 rfl) ?_
    refine lv_if_lt (tgt := 61) E.1 E.2.1 d_Mo_byteOf_32 (by decide) (fun h1 => ?_) (fun h1 => ?_)
    · refine lv_iconst (v := -1) E.1 E.2.1 d_Mo_byteOf_61 (by decide) ?_
      exact hret _ () _ _ _ _ B (rfl) d_Mo_byteOf_62
    · refine lv_iload_n E.1 E.2.1 d_Mo_byteOf_35 rfl (lv_at hl 1 rfl) ?_
      refine lv_bipush (v := nI 34) E.1 E.2.1 d_Mo_byteOf_36 (by decide) ?_
      refine lv_icmp_gt (tgt := 61) E.1 E.2.1 d_Mo_byteOf_38 (by decide) (fun h2 => ?_) (fun h2 => ?_)
      · refine lv_iconst (v := -1) E.1 E.2.1 d_Mo_byteOf_61 (by decide) ?_
        exact hret _ () _ _ _ _ B (rfl) d_Mo_byteOf_62
      · refine lv_iload_n E.1 E.2.1 d_Mo_byteOf_41 rfl (lv_at hl 2 rfl) ?_
        refine lv_if_lt (tgt := 61) E.1 E.2.1 d_Mo_byteOf_42 (by decide) (fun h3 => ?_) (fun h3 => ?_)
        · refine lv_iconst (v := -1) E.1 E.2.1 d_Mo_byteOf_61 (by decide) ?_
          exact hret _ () _ _ _ _ B (rfl) d_Mo_byteOf_62
        · refine lv_iload_n E.1 E.2.1 d_Mo_byteOf_45 rfl (lv_at hl 2 rfl) ?_
          refine lv_iload_n E.1 E.2.1 d_Mo_byteOf_46 rfl (lv_at hl 1 rfl) ?_
          refine lv_iconst (v := nI 2) E.1 E.2.1 d_Mo_byteOf_47 (by decide) ?_
          refine lv_icmp_ge (tgt := 56) E.1 E.2.1 d_Mo_byteOf_48 (by decide) (fun h4 => ?_) (fun h4 => ?_)
          · refine lv_bipush (v := nI 32) E.1 E.2.1 d_Mo_byteOf_56 (by decide) ?_
            refine lv_icmp_lt (tgt := 63) E.1 E.2.1 d_Mo_byteOf_58 (by decide) (fun h5 => ?_) (fun h5 => ?_)
            · exfalso; first | exact hv ⟨h1, h2, h3, by rw [if_neg (Int32.not_lt.mpr h4)]; exact h5⟩ | exact hv ⟨h1, h2, h3, by rw [if_pos (Int32.not_le.mp h4)]; exact h5⟩
            · refine lv_iconst (v := -1) E.1 E.2.1 d_Mo_byteOf_61 (by decide) ?_
              exact hret _ () _ _ _ _ B (rfl) d_Mo_byteOf_62
          · refine lv_bipush (v := nI 16) E.1 E.2.1 d_Mo_byteOf_51 (by decide) ?_
            refine lv_goto (tgt := 58) E.1 E.2.1 d_Mo_byteOf_53 (by decide) ?_
            refine lv_icmp_lt (tgt := 63) E.1 E.2.1 d_Mo_byteOf_58 (by decide) (fun h5 => ?_) (fun h5 => ?_)
            · exfalso; first | exact hv ⟨h1, h2, h3, by rw [if_neg (Int32.not_lt.mpr h4)]; exact h5⟩ | exact hv ⟨h1, h2, h3, by rw [if_pos (Int32.not_le.mp h4)]; exact h5⟩
            · refine lv_iconst (v := -1) E.1 E.2.1 d_Mo_byteOf_61 (by decide) ?_
              exact hret _ () _ _ _ _ B (rfl) d_Mo_byteOf_62
  · exfalso; exact h2_ h0_
set_option maxHeartbeats 4000000 in
set_option maxRecDepth 100000 in
theorem q_Mo_new (G : xG) (l : Launch) (h0 : Nat)  : xMv G l y_Mo_new c_Mo_new 1 ({ frames := 1, cells := 16, slots := 55513, locals := 20 }) [.ref h0] [] [(h0, .inr (6, [.int (nI 0), .null, .null, .int (nI 0), .int (nI 0), .int (nI 0), .null, .null, .null, .int (nI 0), .null, .int (nI 0), .int (nI 0), .null, .int (nI 0), .null, .null, .null, .null, .null, .null, .null, .null, .null, .int (nI 0)]))] (Nat × Nat × Nat × Nat × Nat × Nat × Nat × Nat × Nat × Nat × Nat × Nat × Nat × Nat × Nat × Nat) (fun _ => True) (fun u => [(h0, .inr (6, [.int (nI 0), .ref u.1, .ref u.2.1, .int (nI 0), .int (nI 0), .int (-1), .ref u.2.2.1, .ref u.2.2.2.1, .ref u.2.2.2.2.1, .int (nI 0), .ref u.2.2.2.2.2.1, .int (nI 0), .int (nI 0), .ref u.2.2.2.2.2.2.1, .int (nI 0), .ref u.2.2.2.2.2.2.2.1, .ref u.2.2.2.2.2.2.2.2.1, .ref u.2.2.2.2.2.2.2.2.2.1, .ref u.2.2.2.2.2.2.2.2.2.2.1, .ref u.2.2.2.2.2.2.2.2.2.2.2.1, .ref u.2.2.2.2.2.2.2.2.2.2.2.2.1, .ref u.2.2.2.2.2.2.2.2.2.2.2.2.2.1, .ref u.2.2.2.2.2.2.2.2.2.2.2.2.2.2.1, .ref u.2.2.2.2.2.2.2.2.2.2.2.2.2.2.2, .int (nI 0)])), (u.1, x_N G 16 (fun _ => 0)), (u.2.1, x_N G 16 (fun _ => 0)), (u.2.2.1, x_N G 32 (fun _ => 0)), (u.2.2.2.1, x_N G 51200 (fun _ => 0)), (u.2.2.2.2.1, x_N G 256 (fun _ => 0)), (u.2.2.2.2.2.1, x_N G 129 (fun _ => 0)), (u.2.2.2.2.2.2.1, x_N G 2000 (fun _ => 0)), (u.2.2.2.2.2.2.2.1, x_N G 64 (fun _ => 0)), (u.2.2.2.2.2.2.2.2.1, x_N G 8 (fun _ => 0)), (u.2.2.2.2.2.2.2.2.2.1, x_N G 32 (fun _ => 0)), (u.2.2.2.2.2.2.2.2.2.2.1, x_N G 1024 (fun _ => 0)), (u.2.2.2.2.2.2.2.2.2.2.2.1, x_N G 272 (fun _ => 0)), (u.2.2.2.2.2.2.2.2.2.2.2.2.1, x_N G 16 (fun _ => 0)), (u.2.2.2.2.2.2.2.2.2.2.2.2.2.1, x_N G 16 (fun _ => 0)), (u.2.2.2.2.2.2.2.2.2.2.2.2.2.2.1, x_N G 176 (fun _ => 0)), (u.2.2.2.2.2.2.2.2.2.2.2.2.2.2.2, x_N G 256 (fun _ => 0))]) 16 55513 := by
  refine xMv.by r_Mo (by decide +kernel) (Nat.le_of_ble_eq_true rfl) rfl ?_
  intro p e s m args below meth c A ls Q E hin B hro hl hret
  have hl : lv_has ls 1 [(0, .ref h0)] := hl
  refine lv_aload_n E.1 E.2.1 d_Mo_new_0 rfl (lv_at hl 0 rfl) ?_
  refine x_oi E wd_391 wd_49 wd_50 hl.1 d_Mo_new_1 (Nat.le_of_ble_eq_true rfl) (Nat.le_of_ble_eq_true rfl) ?_
  refine lv_aload_n E.1 E.2.1 d_Mo_new_4 rfl (lv_at hl 0 rfl) ?_
  refine lv_bipush (v := nI 16) E.1 E.2.1 d_Mo_new_5 (by decide) ?_
  refine x_newa E B wd_74 (n := 16) (by decide) (Nat.le_of_ble_eq_true rfl) (Nat.le_of_ble_eq_true rfl) d_Mo_new_7 (fun kq H B => ?_)
  have B : xB G A s _ _ ([(h0, .inr (6, [.int (nI 0), .null, .null, .int (nI 0), .int (nI 0), .int (nI 0), .null, .null, .null, .int (nI 0), .null, .int (nI 0), .int (nI 0), .null, .int (nI 0), .null, .null, .null, .null, .null, .null, .null, .null, .null, .int (nI 0)])), (kq, x_N G 16 (fun _ => 0))]) := B
  refine x_putF E hin B 0 rfl k_Mo 1 (by decide) wd_394 rfl rfl rfl rfl (Nat.le_of_ble_eq_true rfl) d_Mo_new_9 (fun H locs B => ?_)
  have B : xB G A s _ _ ([(h0, .inr (6, [.int (nI 0), .ref kq, .null, .int (nI 0), .int (nI 0), .int (nI 0), .null, .null, .null, .int (nI 0), .null, .int (nI 0), .int (nI 0), .null, .int (nI 0), .null, .null, .null, .null, .null, .null, .null, .null, .null, .int (nI 0)])), (kq, x_N G 16 (fun _ => 0))]) := B
  refine lv_aload_n E.1 E.2.1 d_Mo_new_12 rfl (lv_at hl 0 rfl) ?_
  refine lv_bipush (v := nI 16) E.1 E.2.1 d_Mo_new_13 (by decide) ?_
  refine x_newa E B wd_74 (n := 16) (by decide) (Nat.le_of_ble_eq_true rfl) (Nat.le_of_ble_eq_true rfl) d_Mo_new_15 (fun cq H B => ?_)
  have B : xB G A s _ _ ([(h0, .inr (6, [.int (nI 0), .ref kq, .null, .int (nI 0), .int (nI 0), .int (nI 0), .null, .null, .null, .int (nI 0), .null, .int (nI 0), .int (nI 0), .null, .int (nI 0), .null, .null, .null, .null, .null, .null, .null, .null, .null, .int (nI 0)])), (kq, x_N G 16 (fun _ => 0)), (cq, x_N G 16 (fun _ => 0))]) := B
  refine x_putF E hin B 0 rfl k_Mo 2 (by decide) wd_395 rfl rfl rfl rfl (Nat.le_of_ble_eq_true rfl) d_Mo_new_17 (fun H locs B => ?_)
  have B : xB G A s _ _ ([(h0, .inr (6, [.int (nI 0), .ref kq, .ref cq, .int (nI 0), .int (nI 0), .int (nI 0), .null, .null, .null, .int (nI 0), .null, .int (nI 0), .int (nI 0), .null, .int (nI 0), .null, .null, .null, .null, .null, .null, .null, .null, .null, .int (nI 0)])), (kq, x_N G 16 (fun _ => 0)), (cq, x_N G 16 (fun _ => 0))]) := B
  refine lv_aload_n E.1 E.2.1 d_Mo_new_20 rfl (lv_at hl 0 rfl) ?_
  refine lv_iconst (v := -1) E.1 E.2.1 d_Mo_new_21 (by decide) ?_
  refine x_put E B 0 rfl k_Mo 5 (by decide) wd_398 rfl rfl rfl (Nat.le_of_ble_eq_true rfl) d_Mo_new_22 (fun H locs B => ?_)
  have B : xB G A s _ _ ([(h0, .inr (6, [.int (nI 0), .ref kq, .ref cq, .int (nI 0), .int (nI 0), .int (-1), .null, .null, .null, .int (nI 0), .null, .int (nI 0), .int (nI 0), .null, .int (nI 0), .null, .null, .null, .null, .null, .null, .null, .null, .null, .int (nI 0)])), (kq, x_N G 16 (fun _ => 0)), (cq, x_N G 16 (fun _ => 0))]) := B
  refine lv_aload_n E.1 E.2.1 d_Mo_new_25 rfl (lv_at hl 0 rfl) ?_
  refine lv_bipush (v := nI 32) E.1 E.2.1 d_Mo_new_26 (by decide) ?_
  refine x_newa E B wd_74 (n := 32) (by decide) (Nat.le_of_ble_eq_true rfl) (Nat.le_of_ble_eq_true rfl) d_Mo_new_28 (fun lq H B => ?_)
  have B : xB G A s _ _ ([(h0, .inr (6, [.int (nI 0), .ref kq, .ref cq, .int (nI 0), .int (nI 0), .int (-1), .null, .null, .null, .int (nI 0), .null, .int (nI 0), .int (nI 0), .null, .int (nI 0), .null, .null, .null, .null, .null, .null, .null, .null, .null, .int (nI 0)])), (kq, x_N G 16 (fun _ => 0)), (cq, x_N G 16 (fun _ => 0)), (lq, x_N G 32 (fun _ => 0))]) := B
  refine x_putF E hin B 0 rfl k_Mo 6 (by decide) wd_399 rfl rfl rfl rfl (Nat.le_of_ble_eq_true rfl) d_Mo_new_30 (fun H locs B => ?_)
  have B : xB G A s _ _ ([(h0, .inr (6, [.int (nI 0), .ref kq, .ref cq, .int (nI 0), .int (nI 0), .int (-1), .ref lq, .null, .null, .int (nI 0), .null, .int (nI 0), .int (nI 0), .null, .int (nI 0), .null, .null, .null, .null, .null, .null, .null, .null, .null, .int (nI 0)])), (kq, x_N G 16 (fun _ => 0)), (cq, x_N G 16 (fun _ => 0)), (lq, x_N G 32 (fun _ => 0))]) := B
  refine lv_aload_n E.1 E.2.1 d_Mo_new_33 rfl (lv_at hl 0 rfl) ?_
  refine lv_ldc E.1 E.2.1 E.2.2.2.1 (E.2.2.2.2 _ wd_392) d_Mo_new_34 ?_
  refine x_top (v' := nI 51200) (by decide) ?_
  refine x_newa E B wd_74 (n := 51200) (by decide) (Nat.le_of_ble_eq_true rfl) (Nat.le_of_ble_eq_true rfl) d_Mo_new_36 (fun pq H B => ?_)
  have B : xB G A s _ _ ([(h0, .inr (6, [.int (nI 0), .ref kq, .ref cq, .int (nI 0), .int (nI 0), .int (-1), .ref lq, .null, .null, .int (nI 0), .null, .int (nI 0), .int (nI 0), .null, .int (nI 0), .null, .null, .null, .null, .null, .null, .null, .null, .null, .int (nI 0)])), (kq, x_N G 16 (fun _ => 0)), (cq, x_N G 16 (fun _ => 0)), (lq, x_N G 32 (fun _ => 0)), (pq, x_N G 51200 (fun _ => 0))]) := B
  refine x_putF E hin B 0 rfl k_Mo 7 (by decide) wd_400 rfl rfl rfl rfl (Nat.le_of_ble_eq_true rfl) d_Mo_new_38 (fun H locs B => ?_)
  have B : xB G A s _ _ ([(h0, .inr (6, [.int (nI 0), .ref kq, .ref cq, .int (nI 0), .int (nI 0), .int (-1), .ref lq, .ref pq, .null, .int (nI 0), .null, .int (nI 0), .int (nI 0), .null, .int (nI 0), .null, .null, .null, .null, .null, .null, .null, .null, .null, .int (nI 0)])), (kq, x_N G 16 (fun _ => 0)), (cq, x_N G 16 (fun _ => 0)), (lq, x_N G 32 (fun _ => 0)), (pq, x_N G 51200 (fun _ => 0))]) := B
  refine lv_aload_n E.1 E.2.1 d_Mo_new_41 rfl (lv_at hl 0 rfl) ?_
  refine lv_sipush (v := nI 256) E.1 E.2.1 d_Mo_new_42 (by decide) ?_
  refine x_newa E B wd_74 (n := 256) (by decide) (Nat.le_of_ble_eq_true rfl) (Nat.le_of_ble_eq_true rfl) d_Mo_new_45 (fun oq H B => ?_)
  have B : xB G A s _ _ ([(h0, .inr (6, [.int (nI 0), .ref kq, .ref cq, .int (nI 0), .int (nI 0), .int (-1), .ref lq, .ref pq, .null, .int (nI 0), .null, .int (nI 0), .int (nI 0), .null, .int (nI 0), .null, .null, .null, .null, .null, .null, .null, .null, .null, .int (nI 0)])), (kq, x_N G 16 (fun _ => 0)), (cq, x_N G 16 (fun _ => 0)), (lq, x_N G 32 (fun _ => 0)), (pq, x_N G 51200 (fun _ => 0)), (oq, x_N G 256 (fun _ => 0))]) := B
  refine x_putF E hin B 0 rfl k_Mo 8 (by decide) wd_401 rfl rfl rfl rfl (Nat.le_of_ble_eq_true rfl) d_Mo_new_47 (fun H locs B => ?_)
  have B : xB G A s _ _ ([(h0, .inr (6, [.int (nI 0), .ref kq, .ref cq, .int (nI 0), .int (nI 0), .int (-1), .ref lq, .ref pq, .ref oq, .int (nI 0), .null, .int (nI 0), .int (nI 0), .null, .int (nI 0), .null, .null, .null, .null, .null, .null, .null, .null, .null, .int (nI 0)])), (kq, x_N G 16 (fun _ => 0)), (cq, x_N G 16 (fun _ => 0)), (lq, x_N G 32 (fun _ => 0)), (pq, x_N G 51200 (fun _ => 0)), (oq, x_N G 256 (fun _ => 0))]) := B
  refine lv_aload_n E.1 E.2.1 d_Mo_new_50 rfl (lv_at hl 0 rfl) ?_
  refine lv_sipush (v := nI 129) E.1 E.2.1 d_Mo_new_51 (by decide) ?_
  refine x_newa E B wd_74 (n := 129) (by decide) (Nat.le_of_ble_eq_true rfl) (Nat.le_of_ble_eq_true rfl) d_Mo_new_54 (fun bq H B => ?_)
  have B : xB G A s _ _ ([(h0, .inr (6, [.int (nI 0), .ref kq, .ref cq, .int (nI 0), .int (nI 0), .int (-1), .ref lq, .ref pq, .ref oq, .int (nI 0), .null, .int (nI 0), .int (nI 0), .null, .int (nI 0), .null, .null, .null, .null, .null, .null, .null, .null, .null, .int (nI 0)])), (kq, x_N G 16 (fun _ => 0)), (cq, x_N G 16 (fun _ => 0)), (lq, x_N G 32 (fun _ => 0)), (pq, x_N G 51200 (fun _ => 0)), (oq, x_N G 256 (fun _ => 0)), (bq, x_N G 129 (fun _ => 0))]) := B
  refine x_putF E hin B 0 rfl k_Mo 10 (by decide) wd_403 rfl rfl rfl rfl (Nat.le_of_ble_eq_true rfl) d_Mo_new_56 (fun H locs B => ?_)
  have B : xB G A s _ _ ([(h0, .inr (6, [.int (nI 0), .ref kq, .ref cq, .int (nI 0), .int (nI 0), .int (-1), .ref lq, .ref pq, .ref oq, .int (nI 0), .ref bq, .int (nI 0), .int (nI 0), .null, .int (nI 0), .null, .null, .null, .null, .null, .null, .null, .null, .null, .int (nI 0)])), (kq, x_N G 16 (fun _ => 0)), (cq, x_N G 16 (fun _ => 0)), (lq, x_N G 32 (fun _ => 0)), (pq, x_N G 51200 (fun _ => 0)), (oq, x_N G 256 (fun _ => 0)), (bq, x_N G 129 (fun _ => 0))]) := B
  refine lv_aload_n E.1 E.2.1 d_Mo_new_59 rfl (lv_at hl 0 rfl) ?_
  refine lv_sipush (v := nI 2000) E.1 E.2.1 d_Mo_new_60 (by decide) ?_
  refine x_newa E B wd_74 (n := 2000) (by decide) (Nat.le_of_ble_eq_true rfl) (Nat.le_of_ble_eq_true rfl) d_Mo_new_63 (fun rq H B => ?_)
  have B : xB G A s _ _ ([(h0, .inr (6, [.int (nI 0), .ref kq, .ref cq, .int (nI 0), .int (nI 0), .int (-1), .ref lq, .ref pq, .ref oq, .int (nI 0), .ref bq, .int (nI 0), .int (nI 0), .null, .int (nI 0), .null, .null, .null, .null, .null, .null, .null, .null, .null, .int (nI 0)])), (kq, x_N G 16 (fun _ => 0)), (cq, x_N G 16 (fun _ => 0)), (lq, x_N G 32 (fun _ => 0)), (pq, x_N G 51200 (fun _ => 0)), (oq, x_N G 256 (fun _ => 0)), (bq, x_N G 129 (fun _ => 0)), (rq, x_N G 2000 (fun _ => 0))]) := B
  refine x_putF E hin B 0 rfl k_Mo 13 (by decide) wd_406 rfl rfl rfl rfl (Nat.le_of_ble_eq_true rfl) d_Mo_new_65 (fun H locs B => ?_)
  have B : xB G A s _ _ ([(h0, .inr (6, [.int (nI 0), .ref kq, .ref cq, .int (nI 0), .int (nI 0), .int (-1), .ref lq, .ref pq, .ref oq, .int (nI 0), .ref bq, .int (nI 0), .int (nI 0), .ref rq, .int (nI 0), .null, .null, .null, .null, .null, .null, .null, .null, .null, .int (nI 0)])), (kq, x_N G 16 (fun _ => 0)), (cq, x_N G 16 (fun _ => 0)), (lq, x_N G 32 (fun _ => 0)), (pq, x_N G 51200 (fun _ => 0)), (oq, x_N G 256 (fun _ => 0)), (bq, x_N G 129 (fun _ => 0)), (rq, x_N G 2000 (fun _ => 0))]) := B
  refine lv_aload_n E.1 E.2.1 d_Mo_new_68 rfl (lv_at hl 0 rfl) ?_
  refine lv_bipush (v := nI 64) E.1 E.2.1 d_Mo_new_69 (by decide) ?_
  refine x_newa E B wd_74 (n := 64) (by decide) (Nat.le_of_ble_eq_true rfl) (Nat.le_of_ble_eq_true rfl) d_Mo_new_71 (fun wq H B => ?_)
  have B : xB G A s _ _ ([(h0, .inr (6, [.int (nI 0), .ref kq, .ref cq, .int (nI 0), .int (nI 0), .int (-1), .ref lq, .ref pq, .ref oq, .int (nI 0), .ref bq, .int (nI 0), .int (nI 0), .ref rq, .int (nI 0), .null, .null, .null, .null, .null, .null, .null, .null, .null, .int (nI 0)])), (kq, x_N G 16 (fun _ => 0)), (cq, x_N G 16 (fun _ => 0)), (lq, x_N G 32 (fun _ => 0)), (pq, x_N G 51200 (fun _ => 0)), (oq, x_N G 256 (fun _ => 0)), (bq, x_N G 129 (fun _ => 0)), (rq, x_N G 2000 (fun _ => 0)), (wq, x_N G 64 (fun _ => 0))]) := B
  refine x_putF E hin B 0 rfl k_Mo 15 (by decide) wd_408 rfl rfl rfl rfl (Nat.le_of_ble_eq_true rfl) d_Mo_new_73 (fun H locs B => ?_)
  have B : xB G A s _ _ ([(h0, .inr (6, [.int (nI 0), .ref kq, .ref cq, .int (nI 0), .int (nI 0), .int (-1), .ref lq, .ref pq, .ref oq, .int (nI 0), .ref bq, .int (nI 0), .int (nI 0), .ref rq, .int (nI 0), .ref wq, .null, .null, .null, .null, .null, .null, .null, .null, .int (nI 0)])), (kq, x_N G 16 (fun _ => 0)), (cq, x_N G 16 (fun _ => 0)), (lq, x_N G 32 (fun _ => 0)), (pq, x_N G 51200 (fun _ => 0)), (oq, x_N G 256 (fun _ => 0)), (bq, x_N G 129 (fun _ => 0)), (rq, x_N G 2000 (fun _ => 0)), (wq, x_N G 64 (fun _ => 0))]) := B
  refine lv_aload_n E.1 E.2.1 d_Mo_new_76 rfl (lv_at hl 0 rfl) ?_
  refine lv_bipush (v := nI 8) E.1 E.2.1 d_Mo_new_77 (by decide) ?_
  refine x_newa E B wd_74 (n := 8) (by decide) (Nat.le_of_ble_eq_true rfl) (Nat.le_of_ble_eq_true rfl) d_Mo_new_79 (fun hq H B => ?_)
  have B : xB G A s _ _ ([(h0, .inr (6, [.int (nI 0), .ref kq, .ref cq, .int (nI 0), .int (nI 0), .int (-1), .ref lq, .ref pq, .ref oq, .int (nI 0), .ref bq, .int (nI 0), .int (nI 0), .ref rq, .int (nI 0), .ref wq, .null, .null, .null, .null, .null, .null, .null, .null, .int (nI 0)])), (kq, x_N G 16 (fun _ => 0)), (cq, x_N G 16 (fun _ => 0)), (lq, x_N G 32 (fun _ => 0)), (pq, x_N G 51200 (fun _ => 0)), (oq, x_N G 256 (fun _ => 0)), (bq, x_N G 129 (fun _ => 0)), (rq, x_N G 2000 (fun _ => 0)), (wq, x_N G 64 (fun _ => 0)), (hq, x_N G 8 (fun _ => 0))]) := B
  refine x_putF E hin B 0 rfl k_Mo 16 (by decide) wd_409 rfl rfl rfl rfl (Nat.le_of_ble_eq_true rfl) d_Mo_new_81 (fun H locs B => ?_)
  have B : xB G A s _ _ ([(h0, .inr (6, [.int (nI 0), .ref kq, .ref cq, .int (nI 0), .int (nI 0), .int (-1), .ref lq, .ref pq, .ref oq, .int (nI 0), .ref bq, .int (nI 0), .int (nI 0), .ref rq, .int (nI 0), .ref wq, .ref hq, .null, .null, .null, .null, .null, .null, .null, .int (nI 0)])), (kq, x_N G 16 (fun _ => 0)), (cq, x_N G 16 (fun _ => 0)), (lq, x_N G 32 (fun _ => 0)), (pq, x_N G 51200 (fun _ => 0)), (oq, x_N G 256 (fun _ => 0)), (bq, x_N G 129 (fun _ => 0)), (rq, x_N G 2000 (fun _ => 0)), (wq, x_N G 64 (fun _ => 0)), (hq, x_N G 8 (fun _ => 0))]) := B
  refine lv_aload_n E.1 E.2.1 d_Mo_new_84 rfl (lv_at hl 0 rfl) ?_
  refine lv_bipush (v := nI 32) E.1 E.2.1 d_Mo_new_85 (by decide) ?_
  refine x_newa E B wd_74 (n := 32) (by decide) (Nat.le_of_ble_eq_true rfl) (Nat.le_of_ble_eq_true rfl) d_Mo_new_87 (fun dq H B => ?_)
  have B : xB G A s _ _ ([(h0, .inr (6, [.int (nI 0), .ref kq, .ref cq, .int (nI 0), .int (nI 0), .int (-1), .ref lq, .ref pq, .ref oq, .int (nI 0), .ref bq, .int (nI 0), .int (nI 0), .ref rq, .int (nI 0), .ref wq, .ref hq, .null, .null, .null, .null, .null, .null, .null, .int (nI 0)])), (kq, x_N G 16 (fun _ => 0)), (cq, x_N G 16 (fun _ => 0)), (lq, x_N G 32 (fun _ => 0)), (pq, x_N G 51200 (fun _ => 0)), (oq, x_N G 256 (fun _ => 0)), (bq, x_N G 129 (fun _ => 0)), (rq, x_N G 2000 (fun _ => 0)), (wq, x_N G 64 (fun _ => 0)), (hq, x_N G 8 (fun _ => 0)), (dq, x_N G 32 (fun _ => 0))]) := B
  refine x_putF E hin B 0 rfl k_Mo 17 (by decide) wd_410 rfl rfl rfl rfl (Nat.le_of_ble_eq_true rfl) d_Mo_new_89 (fun H locs B => ?_)
  have B : xB G A s _ _ ([(h0, .inr (6, [.int (nI 0), .ref kq, .ref cq, .int (nI 0), .int (nI 0), .int (-1), .ref lq, .ref pq, .ref oq, .int (nI 0), .ref bq, .int (nI 0), .int (nI 0), .ref rq, .int (nI 0), .ref wq, .ref hq, .ref dq, .null, .null, .null, .null, .null, .null, .int (nI 0)])), (kq, x_N G 16 (fun _ => 0)), (cq, x_N G 16 (fun _ => 0)), (lq, x_N G 32 (fun _ => 0)), (pq, x_N G 51200 (fun _ => 0)), (oq, x_N G 256 (fun _ => 0)), (bq, x_N G 129 (fun _ => 0)), (rq, x_N G 2000 (fun _ => 0)), (wq, x_N G 64 (fun _ => 0)), (hq, x_N G 8 (fun _ => 0)), (dq, x_N G 32 (fun _ => 0))]) := B
  refine lv_aload_n E.1 E.2.1 d_Mo_new_92 rfl (lv_at hl 0 rfl) ?_
  refine lv_sipush (v := nI 1024) E.1 E.2.1 d_Mo_new_93 (by decide) ?_
  refine x_newa E B wd_74 (n := 1024) (by decide) (Nat.le_of_ble_eq_true rfl) (Nat.le_of_ble_eq_true rfl) d_Mo_new_96 (fun nq H B => ?_)
  have B : xB G A s _ _ ([(h0, .inr (6, [.int (nI 0), .ref kq, .ref cq, .int (nI 0), .int (nI 0), .int (-1), .ref lq, .ref pq, .ref oq, .int (nI 0), .ref bq, .int (nI 0), .int (nI 0), .ref rq, .int (nI 0), .ref wq, .ref hq, .ref dq, .null, .null, .null, .null, .null, .null, .int (nI 0)])), (kq, x_N G 16 (fun _ => 0)), (cq, x_N G 16 (fun _ => 0)), (lq, x_N G 32 (fun _ => 0)), (pq, x_N G 51200 (fun _ => 0)), (oq, x_N G 256 (fun _ => 0)), (bq, x_N G 129 (fun _ => 0)), (rq, x_N G 2000 (fun _ => 0)), (wq, x_N G 64 (fun _ => 0)), (hq, x_N G 8 (fun _ => 0)), (dq, x_N G 32 (fun _ => 0)), (nq, x_N G 1024 (fun _ => 0))]) := B
  refine x_putF E hin B 0 rfl k_Mo 18 (by decide) wd_411 rfl rfl rfl rfl (Nat.le_of_ble_eq_true rfl) d_Mo_new_98 (fun H locs B => ?_)
  have B : xB G A s _ _ ([(h0, .inr (6, [.int (nI 0), .ref kq, .ref cq, .int (nI 0), .int (nI 0), .int (-1), .ref lq, .ref pq, .ref oq, .int (nI 0), .ref bq, .int (nI 0), .int (nI 0), .ref rq, .int (nI 0), .ref wq, .ref hq, .ref dq, .ref nq, .null, .null, .null, .null, .null, .int (nI 0)])), (kq, x_N G 16 (fun _ => 0)), (cq, x_N G 16 (fun _ => 0)), (lq, x_N G 32 (fun _ => 0)), (pq, x_N G 51200 (fun _ => 0)), (oq, x_N G 256 (fun _ => 0)), (bq, x_N G 129 (fun _ => 0)), (rq, x_N G 2000 (fun _ => 0)), (wq, x_N G 64 (fun _ => 0)), (hq, x_N G 8 (fun _ => 0)), (dq, x_N G 32 (fun _ => 0)), (nq, x_N G 1024 (fun _ => 0))]) := B
  refine lv_aload_n E.1 E.2.1 d_Mo_new_101 rfl (lv_at hl 0 rfl) ?_
  refine lv_sipush (v := nI 272) E.1 E.2.1 d_Mo_new_102 (by decide) ?_
  refine x_newa E B wd_74 (n := 272) (by decide) (Nat.le_of_ble_eq_true rfl) (Nat.le_of_ble_eq_true rfl) d_Mo_new_105 (fun aq H B => ?_)
  have B : xB G A s _ _ ([(h0, .inr (6, [.int (nI 0), .ref kq, .ref cq, .int (nI 0), .int (nI 0), .int (-1), .ref lq, .ref pq, .ref oq, .int (nI 0), .ref bq, .int (nI 0), .int (nI 0), .ref rq, .int (nI 0), .ref wq, .ref hq, .ref dq, .ref nq, .null, .null, .null, .null, .null, .int (nI 0)])), (kq, x_N G 16 (fun _ => 0)), (cq, x_N G 16 (fun _ => 0)), (lq, x_N G 32 (fun _ => 0)), (pq, x_N G 51200 (fun _ => 0)), (oq, x_N G 256 (fun _ => 0)), (bq, x_N G 129 (fun _ => 0)), (rq, x_N G 2000 (fun _ => 0)), (wq, x_N G 64 (fun _ => 0)), (hq, x_N G 8 (fun _ => 0)), (dq, x_N G 32 (fun _ => 0)), (nq, x_N G 1024 (fun _ => 0)), (aq, x_N G 272 (fun _ => 0))]) := B
  refine x_putF E hin B 0 rfl k_Mo 19 (by decide) wd_412 rfl rfl rfl rfl (Nat.le_of_ble_eq_true rfl) d_Mo_new_107 (fun H locs B => ?_)
  have B : xB G A s _ _ ([(h0, .inr (6, [.int (nI 0), .ref kq, .ref cq, .int (nI 0), .int (nI 0), .int (-1), .ref lq, .ref pq, .ref oq, .int (nI 0), .ref bq, .int (nI 0), .int (nI 0), .ref rq, .int (nI 0), .ref wq, .ref hq, .ref dq, .ref nq, .ref aq, .null, .null, .null, .null, .int (nI 0)])), (kq, x_N G 16 (fun _ => 0)), (cq, x_N G 16 (fun _ => 0)), (lq, x_N G 32 (fun _ => 0)), (pq, x_N G 51200 (fun _ => 0)), (oq, x_N G 256 (fun _ => 0)), (bq, x_N G 129 (fun _ => 0)), (rq, x_N G 2000 (fun _ => 0)), (wq, x_N G 64 (fun _ => 0)), (hq, x_N G 8 (fun _ => 0)), (dq, x_N G 32 (fun _ => 0)), (nq, x_N G 1024 (fun _ => 0)), (aq, x_N G 272 (fun _ => 0))]) := B
  refine lv_aload_n E.1 E.2.1 d_Mo_new_110 rfl (lv_at hl 0 rfl) ?_
  refine lv_bipush (v := nI 16) E.1 E.2.1 d_Mo_new_111 (by decide) ?_
  refine x_newa E B wd_74 (n := 16) (by decide) (Nat.le_of_ble_eq_true rfl) (Nat.le_of_ble_eq_true rfl) d_Mo_new_113 (fun xq H B => ?_)
  have B : xB G A s _ _ ([(h0, .inr (6, [.int (nI 0), .ref kq, .ref cq, .int (nI 0), .int (nI 0), .int (-1), .ref lq, .ref pq, .ref oq, .int (nI 0), .ref bq, .int (nI 0), .int (nI 0), .ref rq, .int (nI 0), .ref wq, .ref hq, .ref dq, .ref nq, .ref aq, .null, .null, .null, .null, .int (nI 0)])), (kq, x_N G 16 (fun _ => 0)), (cq, x_N G 16 (fun _ => 0)), (lq, x_N G 32 (fun _ => 0)), (pq, x_N G 51200 (fun _ => 0)), (oq, x_N G 256 (fun _ => 0)), (bq, x_N G 129 (fun _ => 0)), (rq, x_N G 2000 (fun _ => 0)), (wq, x_N G 64 (fun _ => 0)), (hq, x_N G 8 (fun _ => 0)), (dq, x_N G 32 (fun _ => 0)), (nq, x_N G 1024 (fun _ => 0)), (aq, x_N G 272 (fun _ => 0)), (xq, x_N G 16 (fun _ => 0))]) := B
  refine x_putF E hin B 0 rfl k_Mo 20 (by decide) wd_413 rfl rfl rfl rfl (Nat.le_of_ble_eq_true rfl) d_Mo_new_115 (fun H locs B => ?_)
  have B : xB G A s _ _ ([(h0, .inr (6, [.int (nI 0), .ref kq, .ref cq, .int (nI 0), .int (nI 0), .int (-1), .ref lq, .ref pq, .ref oq, .int (nI 0), .ref bq, .int (nI 0), .int (nI 0), .ref rq, .int (nI 0), .ref wq, .ref hq, .ref dq, .ref nq, .ref aq, .ref xq, .null, .null, .null, .int (nI 0)])), (kq, x_N G 16 (fun _ => 0)), (cq, x_N G 16 (fun _ => 0)), (lq, x_N G 32 (fun _ => 0)), (pq, x_N G 51200 (fun _ => 0)), (oq, x_N G 256 (fun _ => 0)), (bq, x_N G 129 (fun _ => 0)), (rq, x_N G 2000 (fun _ => 0)), (wq, x_N G 64 (fun _ => 0)), (hq, x_N G 8 (fun _ => 0)), (dq, x_N G 32 (fun _ => 0)), (nq, x_N G 1024 (fun _ => 0)), (aq, x_N G 272 (fun _ => 0)), (xq, x_N G 16 (fun _ => 0))]) := B
  refine lv_aload_n E.1 E.2.1 d_Mo_new_118 rfl (lv_at hl 0 rfl) ?_
  refine lv_bipush (v := nI 16) E.1 E.2.1 d_Mo_new_119 (by decide) ?_
  refine x_newa E B wd_74 (n := 16) (by decide) (Nat.le_of_ble_eq_true rfl) (Nat.le_of_ble_eq_true rfl) d_Mo_new_121 (fun yq H B => ?_)
  have B : xB G A s _ _ ([(h0, .inr (6, [.int (nI 0), .ref kq, .ref cq, .int (nI 0), .int (nI 0), .int (-1), .ref lq, .ref pq, .ref oq, .int (nI 0), .ref bq, .int (nI 0), .int (nI 0), .ref rq, .int (nI 0), .ref wq, .ref hq, .ref dq, .ref nq, .ref aq, .ref xq, .null, .null, .null, .int (nI 0)])), (kq, x_N G 16 (fun _ => 0)), (cq, x_N G 16 (fun _ => 0)), (lq, x_N G 32 (fun _ => 0)), (pq, x_N G 51200 (fun _ => 0)), (oq, x_N G 256 (fun _ => 0)), (bq, x_N G 129 (fun _ => 0)), (rq, x_N G 2000 (fun _ => 0)), (wq, x_N G 64 (fun _ => 0)), (hq, x_N G 8 (fun _ => 0)), (dq, x_N G 32 (fun _ => 0)), (nq, x_N G 1024 (fun _ => 0)), (aq, x_N G 272 (fun _ => 0)), (xq, x_N G 16 (fun _ => 0)), (yq, x_N G 16 (fun _ => 0))]) := B
  refine x_putF E hin B 0 rfl k_Mo 21 (by decide) wd_414 rfl rfl rfl rfl (Nat.le_of_ble_eq_true rfl) d_Mo_new_123 (fun H locs B => ?_)
  have B : xB G A s _ _ ([(h0, .inr (6, [.int (nI 0), .ref kq, .ref cq, .int (nI 0), .int (nI 0), .int (-1), .ref lq, .ref pq, .ref oq, .int (nI 0), .ref bq, .int (nI 0), .int (nI 0), .ref rq, .int (nI 0), .ref wq, .ref hq, .ref dq, .ref nq, .ref aq, .ref xq, .ref yq, .null, .null, .int (nI 0)])), (kq, x_N G 16 (fun _ => 0)), (cq, x_N G 16 (fun _ => 0)), (lq, x_N G 32 (fun _ => 0)), (pq, x_N G 51200 (fun _ => 0)), (oq, x_N G 256 (fun _ => 0)), (bq, x_N G 129 (fun _ => 0)), (rq, x_N G 2000 (fun _ => 0)), (wq, x_N G 64 (fun _ => 0)), (hq, x_N G 8 (fun _ => 0)), (dq, x_N G 32 (fun _ => 0)), (nq, x_N G 1024 (fun _ => 0)), (aq, x_N G 272 (fun _ => 0)), (xq, x_N G 16 (fun _ => 0)), (yq, x_N G 16 (fun _ => 0))]) := B
  refine lv_aload_n E.1 E.2.1 d_Mo_new_126 rfl (lv_at hl 0 rfl) ?_
  refine lv_sipush (v := nI 176) E.1 E.2.1 d_Mo_new_127 (by decide) ?_
  refine x_newa E B wd_74 (n := 176) (by decide) (Nat.le_of_ble_eq_true rfl) (Nat.le_of_ble_eq_true rfl) d_Mo_new_130 (fun sq H B => ?_)
  have B : xB G A s _ _ ([(h0, .inr (6, [.int (nI 0), .ref kq, .ref cq, .int (nI 0), .int (nI 0), .int (-1), .ref lq, .ref pq, .ref oq, .int (nI 0), .ref bq, .int (nI 0), .int (nI 0), .ref rq, .int (nI 0), .ref wq, .ref hq, .ref dq, .ref nq, .ref aq, .ref xq, .ref yq, .null, .null, .int (nI 0)])), (kq, x_N G 16 (fun _ => 0)), (cq, x_N G 16 (fun _ => 0)), (lq, x_N G 32 (fun _ => 0)), (pq, x_N G 51200 (fun _ => 0)), (oq, x_N G 256 (fun _ => 0)), (bq, x_N G 129 (fun _ => 0)), (rq, x_N G 2000 (fun _ => 0)), (wq, x_N G 64 (fun _ => 0)), (hq, x_N G 8 (fun _ => 0)), (dq, x_N G 32 (fun _ => 0)), (nq, x_N G 1024 (fun _ => 0)), (aq, x_N G 272 (fun _ => 0)), (xq, x_N G 16 (fun _ => 0)), (yq, x_N G 16 (fun _ => 0)), (sq, x_N G 176 (fun _ => 0))]) := B
  refine x_putF E hin B 0 rfl k_Mo 22 (by decide) wd_415 rfl rfl rfl rfl (Nat.le_of_ble_eq_true rfl) d_Mo_new_132 (fun H locs B => ?_)
  have B : xB G A s _ _ ([(h0, .inr (6, [.int (nI 0), .ref kq, .ref cq, .int (nI 0), .int (nI 0), .int (-1), .ref lq, .ref pq, .ref oq, .int (nI 0), .ref bq, .int (nI 0), .int (nI 0), .ref rq, .int (nI 0), .ref wq, .ref hq, .ref dq, .ref nq, .ref aq, .ref xq, .ref yq, .ref sq, .null, .int (nI 0)])), (kq, x_N G 16 (fun _ => 0)), (cq, x_N G 16 (fun _ => 0)), (lq, x_N G 32 (fun _ => 0)), (pq, x_N G 51200 (fun _ => 0)), (oq, x_N G 256 (fun _ => 0)), (bq, x_N G 129 (fun _ => 0)), (rq, x_N G 2000 (fun _ => 0)), (wq, x_N G 64 (fun _ => 0)), (hq, x_N G 8 (fun _ => 0)), (dq, x_N G 32 (fun _ => 0)), (nq, x_N G 1024 (fun _ => 0)), (aq, x_N G 272 (fun _ => 0)), (xq, x_N G 16 (fun _ => 0)), (yq, x_N G 16 (fun _ => 0)), (sq, x_N G 176 (fun _ => 0))]) := B
  refine lv_aload_n E.1 E.2.1 d_Mo_new_135 rfl (lv_at hl 0 rfl) ?_
  refine lv_sipush (v := nI 256) E.1 E.2.1 d_Mo_new_136 (by decide) ?_
  refine x_newa E B wd_74 (n := 256) (by decide) (Nat.le_of_ble_eq_true rfl) (Nat.le_of_ble_eq_true rfl) d_Mo_new_139 (fun tq H B => ?_)
  have B : xB G A s _ _ ([(h0, .inr (6, [.int (nI 0), .ref kq, .ref cq, .int (nI 0), .int (nI 0), .int (-1), .ref lq, .ref pq, .ref oq, .int (nI 0), .ref bq, .int (nI 0), .int (nI 0), .ref rq, .int (nI 0), .ref wq, .ref hq, .ref dq, .ref nq, .ref aq, .ref xq, .ref yq, .ref sq, .null, .int (nI 0)])), (kq, x_N G 16 (fun _ => 0)), (cq, x_N G 16 (fun _ => 0)), (lq, x_N G 32 (fun _ => 0)), (pq, x_N G 51200 (fun _ => 0)), (oq, x_N G 256 (fun _ => 0)), (bq, x_N G 129 (fun _ => 0)), (rq, x_N G 2000 (fun _ => 0)), (wq, x_N G 64 (fun _ => 0)), (hq, x_N G 8 (fun _ => 0)), (dq, x_N G 32 (fun _ => 0)), (nq, x_N G 1024 (fun _ => 0)), (aq, x_N G 272 (fun _ => 0)), (xq, x_N G 16 (fun _ => 0)), (yq, x_N G 16 (fun _ => 0)), (sq, x_N G 176 (fun _ => 0)), (tq, x_N G 256 (fun _ => 0))]) := B
  refine x_putF E hin B 0 rfl k_Mo 23 (by decide) wd_416 rfl rfl rfl rfl (Nat.le_of_ble_eq_true rfl) d_Mo_new_141 (fun H locs B => ?_)
  have B : xB G A s _ _ ([(h0, .inr (6, [.int (nI 0), .ref kq, .ref cq, .int (nI 0), .int (nI 0), .int (-1), .ref lq, .ref pq, .ref oq, .int (nI 0), .ref bq, .int (nI 0), .int (nI 0), .ref rq, .int (nI 0), .ref wq, .ref hq, .ref dq, .ref nq, .ref aq, .ref xq, .ref yq, .ref sq, .ref tq, .int (nI 0)])), (kq, x_N G 16 (fun _ => 0)), (cq, x_N G 16 (fun _ => 0)), (lq, x_N G 32 (fun _ => 0)), (pq, x_N G 51200 (fun _ => 0)), (oq, x_N G 256 (fun _ => 0)), (bq, x_N G 129 (fun _ => 0)), (rq, x_N G 2000 (fun _ => 0)), (wq, x_N G 64 (fun _ => 0)), (hq, x_N G 8 (fun _ => 0)), (dq, x_N G 32 (fun _ => 0)), (nq, x_N G 1024 (fun _ => 0)), (aq, x_N G 272 (fun _ => 0)), (xq, x_N G 16 (fun _ => 0)), (yq, x_N G 16 (fun _ => 0)), (sq, x_N G 176 (fun _ => 0)), (tq, x_N G 256 (fun _ => 0))]) := B
  exact hret (kq, cq, lq, pq, oq, bq, rq, wq, hq, dq, nq, aq, xq, yq, sq, tq) _ _ _ _ B trivial d_Mo_new_144
