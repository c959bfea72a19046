set_option maxHeartbeats 4000000 in
set_option maxRecDepth 100000 in
theorem q_Mo_digests (G : xG) (l : Launch) (h0 cd kq cq rs lq pq oq os bq rq ln wq hq dq nq aq xq yq sq tq rd : Nat) (ck lt tc wr : Int32) (f dd : Nat → Nat) (w0 Hf : Nat → Int32) (hc : ln ≤ 2000) (hf : ∀ j, j < ln → f j < 256) : xMv G l y_Mo_digests c_Mo_digests 3 ({ frames := 2, cells := 0, slots := 0, locals := 56 }) [.ref h0] [] [(h0, .inr (6, [.int (nI cd), .ref kq, .ref cq, .int (nI rs), .int ck, .int lt, .ref lq, .ref pq, .ref oq, .int (nI os), .ref bq, .int tc, .int wr, .ref rq, .int (nI ln), .ref wq, .ref hq, .ref dq, .ref nq, .ref aq, .ref xq, .ref yq, .ref sq, .ref tq, .int (nI rd)])), (rq, x_N G 2000 f), (wq, x_I G 64 w0), (hq, x_I G 8 Hf), (dq, x_N G 32 dd)] ((Nat → Int32) × (Nat → Int32)) (fun _ => True) (fun u => [(h0, .inr (6, [.int (nI cd), .ref kq, .ref cq, .int (nI rs), .int ck, .int lt, .ref lq, .ref pq, .ref oq, .int (nI os), .ref bq, .int tc, .int wr, .ref rq, .int (nI ln), .ref wq, .ref hq, .ref dq, .ref nq, .ref aq, .ref xq, .ref yq, .ref sq, .ref tq, .int (nI rd)])), (rq, x_N G 2000 f), (wq, x_I G 64 u.1), (hq, x_I G 8 u.2), (dq, x_N G 32 (h_dg f ln))]) 0 0 := by
  refine xMv.by r_Mo (by decide +kernel) (Nat.le_of_ble_eq_true rfl) rfl ?_
  intro p e s m args below meth c A ls Q E hin B hro hl hret
  have hl : lv_has ls 3 [(0, .ref h0)] := hl
  have ht : h_tot ln = ((ln + 8) / 64 + 1) * 64 := rfl
  refine lv_iconst (v := nI 0) E.1 E.2.1 d_Mo_digests_0 (by decide) ?_
  refine lv_istore_n (lv' := [(1, .int (nI 0)), (0, .ref h0)]) E.1 E.2.1 d_Mo_digests_1 rfl hl (by decide) rfl (fun ls hl => ?_)
  have hL2 : ∀ (kf : Nat) (i : Nat), 8 - i < kf → (i ≤ 8) → ∀ (H : Heap) (locs : List Loc) (ls : Array Slot), xB G A s H locs ([(h0, .inr (6, [.int (nI cd), .ref kq, .ref cq, .int (nI rs), .int ck, .int lt, .ref lq, .ref pq, .ref oq, .int (nI os), .ref bq, .int tc, .int wr, .ref rq, .int (nI ln), .ref wq, .ref hq, .ref dq, .ref nq, .ref aq, .ref xq, .ref yq, .ref sq, .ref tq, .int (nI rd)])), (rq, x_N G 2000 f), (wq, x_I G 64 w0), (hq, x_I G 8 (mx i k_H Hf)), (dq, x_N G 32 dd)]) → lv_has ls 3 [(1, .int (nI i)), (0, .ref h0)] → W p l e ({ frames := 2, cells := 0, slots := 0, locals := 56 }) s m args below meth c H locs 0 0 Q (F0 m 2 ls []) := by
    intro k2
    induction k2 with
    | zero =>
      intro i hk
      exact absurd hk (Nat.not_lt_zero _)
    | succ k2 ih2 =>
      intro i hk2 hi H locs ls B hl
      refine lv_iload_n E.1 E.2.1 d_Mo_digests_2 rfl (lv_at hl 0 rfl) ?_
      refine lv_bipush (v := nI 8) E.1 E.2.1 d_Mo_digests_3 (by decide) ?_
      refine x_ge (tgt := 24) E d_Mo_digests_5 (by decide) (by omega) (by omega) (fun c1 => ?_) (fun c1 => ?_)
      · obtain rfl : i = 8 := by omega
        have B := B.fn 3 rfl k_H (mx_ei)
        have B : xB G A s _ _ ([(h0, .inr (6, [.int (nI cd), .ref kq, .ref cq, .int (nI rs), .int ck, .int lt, .ref lq, .ref pq, .ref oq, .int (nI os), .ref bq, .int tc, .int wr, .ref rq, .int (nI ln), .ref wq, .ref hq, .ref dq, .ref nq, .ref aq, .ref xq, .ref yq, .ref sq, .ref tq, .int (nI rd)])), (rq, x_N G 2000 f), (wq, x_I G 64 w0), (hq, x_I G 8 k_H), (dq, x_N G 32 dd)]) := B
        refine lv_aload_n E.1 E.2.1 d_Mo_digests_24 rfl (lv_at hl 1 rfl) ?_
        refine x_get E B 0 rfl k_Mo 14 (by decide) wd_407 rfl d_Mo_digests_25 ?_
        refine lv_bipush (v := nI 9) E.1 E.2.1 d_Mo_digests_28 (by decide) ?_
        refine x_iadd E d_Mo_digests_30 ?_
        refine lv_bipush (v := nI 63) E.1 E.2.1 d_Mo_digests_31 (by decide) ?_
        refine x_iadd E d_Mo_digests_33 ?_
        refine lv_bipush (v := nI 64) E.1 E.2.1 d_Mo_digests_34 (by decide) ?_
        refine x_idiv E d_Mo_digests_36 (by omega) (by decide) (by decide) ?_
        refine lv_bipush (v := nI 64) E.1 E.2.1 d_Mo_digests_37 (by decide) ?_
        refine x_imul E d_Mo_digests_39 ?_
        refine x_top (show nI ((((ln + 9) + 63) / 64) * 64) = nI (h_tot ln) from congrArg nI (by exact h_all ln)) ?_
        refine lv_istore_n (lv' := [(1, .int (nI (h_tot ln))), (0, .ref h0)]) E.1 E.2.1 d_Mo_digests_40 rfl hl (by decide) rfl (fun ls hl => ?_)
        refine lv_iconst (v := nI 0) E.1 E.2.1 d_Mo_digests_41 (by decide) ?_
        refine lv_istore_n (lv' := [(2, .int (nI 0)), (1, .int (nI (h_tot ln))), (0, .ref h0)]) E.1 E.2.1 d_Mo_digests_42 rfl hl (by decide) rfl (fun ls hl => ?_)
        have hL43 : ∀ (kf : Nat) (b : Nat), ((ln + 8) / 64 + 1) - b < kf → (b ≤ ((ln + 8) / 64 + 1)) → ∀ (H : Heap) (locs : List Loc) (ls : Array Slot), xB G A s H locs ([(h0, .inr (6, [.int (nI cd), .ref kq, .ref cq, .int (nI rs), .int ck, .int lt, .ref lq, .ref pq, .ref oq, .int (nI os), .ref bq, .int tc, .int wr, .ref rq, .int (nI ln), .ref wq, .ref hq, .ref dq, .ref nq, .ref aq, .ref xq, .ref yq, .ref sq, .ref tq, .int (nI rd)])), (rq, x_N G 2000 f), (wq, x_I G 64 (h_ww w0 (h_P f ln) b)), (hq, x_I G 8 (h_hs (h_P f ln) b)), (dq, x_N G 32 dd)]) → lv_has ls 3 [(2, .int (nI (64 * b))), (1, .int (nI (h_tot ln))), (0, .ref h0)] → W p l e ({ frames := 2, cells := 0, slots := 0, locals := 56 }) s m args below meth c H locs 0 0 Q (F0 m 43 ls []) := by
          intro k43
          induction k43 with
          | zero =>
            intro b hk
            exact absurd hk (Nat.not_lt_zero _)
          | succ k43 ih43 =>
            intro b hk43 hb H locs ls B hl
            refine lv_iload_n E.1 E.2.1 d_Mo_digests_43 rfl (lv_at hl 0 rfl) ?_
            refine lv_iload_n E.1 E.2.1 d_Mo_digests_44 rfl (lv_at hl 1 rfl) ?_
            refine x_ge (tgt := 60) E d_Mo_digests_45 (by decide) (by omega) (by omega) (fun c2 => ?_) (fun c2 => ?_)
            · obtain rfl : b = ((ln + 8) / 64 + 1) := by omega
              refine lv_iconst (v := nI 0) E.1 E.2.1 d_Mo_digests_60 (by decide) ?_
              refine lv_istore_n (lv' := [(2, .int (nI 0)), (1, .int (nI (h_tot ln))), (0, .ref h0)]) E.1 E.2.1 d_Mo_digests_61 rfl hl (by decide) rfl (fun ls hl => ?_)
              have hL62 : ∀ (kf : Nat) (i : Nat), 32 - i < kf → (i ≤ 32) → ∀ (H : Heap) (locs : List Loc) (ls : Array Slot), xB G A s H locs ([(h0, .inr (6, [.int (nI cd), .ref kq, .ref cq, .int (nI rs), .int ck, .int lt, .ref lq, .ref pq, .ref oq, .int (nI os), .ref bq, .int tc, .int wr, .ref rq, .int (nI ln), .ref wq, .ref hq, .ref dq, .ref nq, .ref aq, .ref xq, .ref yq, .ref sq, .ref tq, .int (nI rd)])), (rq, x_N G 2000 f), (wq, x_I G 64 (h_ww w0 (h_P f ln) ((ln + 8) / 64 + 1))), (hq, x_I G 8 (h_hs (h_P f ln) ((ln + 8) / 64 + 1))), (dq, x_N G 32 (mx i (h_dg f ln) dd))]) → lv_has ls 3 [(2, .int (nI i)), (0, .ref h0)] → W p l e ({ frames := 2, cells := 0, slots := 0, locals := 56 }) s m args below meth c H locs 0 0 Q (F0 m 62 ls []) := by
                intro k62
                induction k62 with
                | zero =>
                  intro i hk
                  exact absurd hk (Nat.not_lt_zero _)
                | succ k62 ih62 =>
                  intro i hk62 hi H locs ls B hl
                  refine lv_iload_n E.1 E.2.1 d_Mo_digests_62 rfl (lv_at hl 0 rfl) ?_
                  refine lv_bipush (v := nI 32) E.1 E.2.1 d_Mo_digests_63 (by decide) ?_
                  refine x_ge (tgt := 102) E d_Mo_digests_65 (by decide) (by omega) (by omega) (fun c3 => ?_) (fun c3 => ?_)
                  · obtain rfl : i = 32 := by omega
                    have B := B.fn 4 rfl (nA (h_dg f ln)) (mx_e)
                    have B : xB G A s _ _ ([(h0, .inr (6, [.int (nI cd), .ref kq, .ref cq, .int (nI rs), .int ck, .int lt, .ref lq, .ref pq, .ref oq, .int (nI os), .ref bq, .int tc, .int wr, .ref rq, .int (nI ln), .ref wq, .ref hq, .ref dq, .ref nq, .ref aq, .ref xq, .ref yq, .ref sq, .ref tq, .int (nI rd)])), (rq, x_N G 2000 f), (wq, x_I G 64 (h_ww w0 (h_P f ln) ((ln + 8) / 64 + 1))), (hq, x_I G 8 (h_hs (h_P f ln) ((ln + 8) / 64 + 1))), (dq, x_N G 32 (h_dg f ln))]) := B
                    exact hret (_, _) _ _ _ _ B trivial d_Mo_digests_102
                  · refine lv_aload_n E.1 E.2.1 d_Mo_digests_68 rfl (lv_at hl 1 rfl) ?_
                    refine x_get E B 0 rfl k_Mo 17 (by decide) wd_410 rfl d_Mo_digests_69 ?_
                    refine lv_iload_n E.1 E.2.1 d_Mo_digests_72 rfl (lv_at hl 0 rfl) ?_
                    refine lv_aload_n E.1 E.2.1 d_Mo_digests_73 rfl (lv_at hl 1 rfl) ?_
                    refine x_get E B 0 rfl k_Mo 16 (by decide) wd_409 rfl d_Mo_digests_74 ?_
                    refine lv_iload_n E.1 E.2.1 d_Mo_digests_77 rfl (lv_at hl 0 rfl) ?_
                    refine lv_iconst (v := nI 4) E.1 E.2.1 d_Mo_digests_78 (by decide) ?_
                    refine x_idiv E d_Mo_digests_79 (by omega) (by decide) (by decide) ?_
                    refine x_ald E B 3 rfl (i := i / 4) (by omega) (by decide) d_Mo_digests_80 ?_
                    refine lv_bipush (v := nI 24) E.1 E.2.1 d_Mo_digests_81 (by decide) ?_
                    refine lv_bipush (v := nI 8) E.1 E.2.1 d_Mo_digests_83 (by decide) ?_
                    refine lv_iload_n E.1 E.2.1 d_Mo_digests_85 rfl (lv_at hl 0 rfl) ?_
                    refine lv_iconst (v := nI 4) E.1 E.2.1 d_Mo_digests_86 (by decide) ?_
                    refine x_irem E d_Mo_digests_87 (by omega) (by decide) (by decide) ?_
                    refine x_imul E d_Mo_digests_88 ?_
                    refine x_isub E d_Mo_digests_89 (by omega) ?_
                    refine lv_iushr (v := b_us ((h_hs (h_P f ln) ((ln + 8) / 64 + 1)) (i / 4)) (nI (24 - (8 * (i % 4))))) E.1 E.2.1 d_Mo_digests_90 rfl ?_
                    refine lv_sipush (v := nI 255) E.1 E.2.1 d_Mo_digests_91 (by decide) ?_
                    refine lv_iand E.1 E.2.1 d_Mo_digests_94 ?_
                    refine x_top (v' := nI (h_dg f ln i)) (h_byE _ (by omega)) ?_
                    refine x_astN E B 4 rfl (i := i) (v := h_dg f ln i) (by omega) (by decide) d_Mo_digests_95 (fun H locs B => ?_)
                    have B : xB G A s _ _ ([(h0, .inr (6, [.int (nI cd), .ref kq, .ref cq, .int (nI rs), .int ck, .int lt, .ref lq, .ref pq, .ref oq, .int (nI os), .ref bq, .int tc, .int wr, .ref rq, .int (nI ln), .ref wq, .ref hq, .ref dq, .ref nq, .ref aq, .ref xq, .ref yq, .ref sq, .ref tq, .int (nI rd)])), (rq, x_N G 2000 f), (wq, x_I G 64 (h_ww w0 (h_P f ln) ((ln + 8) / 64 + 1))), (hq, x_I G 8 (h_hs (h_P f ln) ((ln + 8) / 64 + 1))), (dq, x_N G 32 (va_up (mx i (h_dg f ln) dd) i (h_dg f ln i)))]) := B
                    have B := B.fn 4 rfl (nA (mx (i + 1) (h_dg f ln) dd)) (mx_fn rfl)
                    have B : xB G A s _ _ ([(h0, .inr (6, [.int (nI cd), .ref kq, .ref cq, .int (nI rs), .int ck, .int lt, .ref lq, .ref pq, .ref oq, .int (nI os), .ref bq, .int tc, .int wr, .ref rq, .int (nI ln), .ref wq, .ref hq, .ref dq, .ref nq, .ref aq, .ref xq, .ref yq, .ref sq, .ref tq, .int (nI rd)])), (rq, x_N G 2000 f), (wq, x_I G 64 (h_ww w0 (h_P f ln) ((ln + 8) / 64 + 1))), (hq, x_I G 8 (h_hs (h_P f ln) ((ln + 8) / 64 + 1))), (dq, x_N G 32 (mx (i + 1) (h_dg f ln) dd))]) := B
                    refine x_inc E 1 (lv' := [(2, .int (nI (i + 1))), (0, .ref h0)]) d_Mo_digests_96 hl (k := 0) rfl rfl (by decide) rfl (fun ls hl => ?_)
                    refine lv_goto (tgt := 62) E.1 E.2.1 d_Mo_digests_99 (by decide) ?_
                    exact ih62  (i + 1) (by omega) (by omega) _ _ _ B (lv_sub hl [0, 1] rfl)
              have B := B.fn 4 rfl (nA (mx 0 (h_dg f ln) dd)) (mx_z _ _)
              have B : xB G A s _ _ ([(h0, .inr (6, [.int (nI cd), .ref kq, .ref cq, .int (nI rs), .int ck, .int lt, .ref lq, .ref pq, .ref oq, .int (nI os), .ref bq, .int tc, .int wr, .ref rq, .int (nI ln), .ref wq, .ref hq, .ref dq, .ref nq, .ref aq, .ref xq, .ref yq, .ref sq, .ref tq, .int (nI rd)])), (rq, x_N G 2000 f), (wq, x_I G 64 (h_ww w0 (h_P f ln) ((ln + 8) / 64 + 1))), (hq, x_I G 8 (h_hs (h_P f ln) ((ln + 8) / 64 + 1))), (dq, x_N G 32 (mx 0 (h_dg f ln) dd))]) := B
              exact hL62 (33) 0 (by omega) (by omega) _ _ _ B (lv_sub hl [0, 2] rfl)
            · refine lv_aload_n E.1 E.2.1 d_Mo_digests_48 rfl (lv_at hl 2 rfl) ?_
              refine lv_iload_n E.1 E.2.1 d_Mo_digests_49 rfl (lv_at hl 0 rfl) ?_
              refine lv_iload_n E.1 E.2.1 d_Mo_digests_50 rfl (lv_at hl 1 rfl) ?_
              refine x_cv (ws' := (fun u => [(h0, .inr (6, [.int (nI cd), .ref kq, .ref cq, .int (nI rs), .int ck, .int lt, .ref lq, .ref pq, .ref oq, .int (nI os), .ref bq, .int tc, .int wr, .ref rq, .int (nI ln), .ref wq, .ref hq, .ref dq, .ref nq, .ref aq, .ref xq, .ref yq, .ref sq, .ref tq, .int (nI rd)])), (rq, x_N G 2000 f), (wq, x_I G 64 (h_w (h_P f ln) (64 * b))), (hq, x_I G 8 (h_cp (h_hs (h_P f ln) b) (h_w (h_P f ln) (64 * b)))), (dq, x_N G 32 dd)])) (wr := [(dq, x_N G 32 dd)]) B (x_rV (rest := []) E B (q_Mo_round G l h0 cd kq cq rs lq pq oq os bq rq ln wq hq dq nq aq xq yq sq tq rd ck lt tc wr (64 * b) f (h_ww w0 (h_P f ln) b) (h_hs (h_P f ln) b) (hc) (by omega) (hf) _) (x_pre B [0, 1, 2, 3] rfl (by decide) x_ro0) 0 rfl k_Mo (gg_V wd_520 wd_522 wd_22 wd_40 wd_523) ⟨rfl, p_Mo_round⟩ rfl rfl ⟨Nat.le_of_ble_eq_true rfl, Nat.le_of_ble_eq_true rfl⟩ rfl hl.1 rfl (Nat.le_of_ble_eq_true rfl) d_Mo_digests_51 ⟨Nat.le_of_ble_eq_true rfl, Nat.le_of_ble_eq_true rfl⟩) [0, 1, 2, 3] [4] [1, 2, 3, 4, 0] rfl rfl (by decide) (by decide) (by decide) (fun _ => rfl) (fun u51 H locs hw51 B => ?_)
              have B : xB G A s _ _ ([(h0, .inr (6, [.int (nI cd), .ref kq, .ref cq, .int (nI rs), .int ck, .int lt, .ref lq, .ref pq, .ref oq, .int (nI os), .ref bq, .int tc, .int wr, .ref rq, .int (nI ln), .ref wq, .ref hq, .ref dq, .ref nq, .ref aq, .ref xq, .ref yq, .ref sq, .ref tq, .int (nI rd)])), (rq, x_N G 2000 f), (wq, x_I G 64 (h_w (h_P f ln) (64 * b))), (hq, x_I G 8 (h_cp (h_hs (h_P f ln) b) (h_w (h_P f ln) (64 * b)))), (dq, x_N G 32 dd)]) := B
              refine x_inc E 64 (lv' := [(2, .int (nI ((64 * b) + 64))), (1, .int (nI (h_tot ln))), (0, .ref h0)]) d_Mo_digests_54 hl (k := 0) rfl rfl (by decide) rfl (fun ls hl => ?_)
              refine lv_goto (tgt := 43) E.1 E.2.1 d_Mo_digests_57 (by decide) ?_
              exact ih43  (b + 1) (by omega) (by omega) _ _ _ B (lv_sub hl [0, 1, 2] rfl)
        exact hL43 (((ln + 8) / 64 + 1) + 1) 0 (by omega) (by omega) _ _ _ B (lv_sub hl [0, 1, 2] rfl)
      · refine lv_aload_n E.1 E.2.1 d_Mo_digests_8 rfl (lv_at hl 1 rfl) ?_
        refine x_get E B 0 rfl k_Mo 16 (by decide) wd_409 rfl d_Mo_digests_9 ?_
        refine lv_iload_n E.1 E.2.1 d_Mo_digests_12 rfl (lv_at hl 0 rfl) ?_
        refine lv_iload_n E.1 E.2.1 d_Mo_digests_13 rfl (lv_at hl 0 rfl) ?_
        refine x_cf (x_rS (rest := [.int (nI i), .ref hq]) E (q_Mo_start l i (by omega)) x_pf (gg_S wd_509 wd_510 wd_40 wd_511) p_Mo_start rfl rfl ⟨Nat.le_of_ble_eq_true rfl, Nat.le_of_ble_eq_true rfl⟩ rfl hl.1 rfl (Nat.le_of_ble_eq_true rfl) d_Mo_digests_14 ⟨Nat.le_of_ble_eq_true rfl, Nat.le_of_ble_eq_true rfl⟩) ?_
        refine x_ast E B 3 rfl (i := i) (x := (k_H i)) (by omega) (by decide) d_Mo_digests_17 (fun H locs B => ?_)
        have B : xB G A s _ _ ([(h0, .inr (6, [.int (nI cd), .ref kq, .ref cq, .int (nI rs), .int ck, .int lt, .ref lq, .ref pq, .ref oq, .int (nI os), .ref bq, .int tc, .int wr, .ref rq, .int (nI ln), .ref wq, .ref hq, .ref dq, .ref nq, .ref aq, .ref xq, .ref yq, .ref sq, .ref tq, .int (nI rd)])), (rq, x_N G 2000 f), (wq, x_I G 64 w0), (hq, x_I G 8 (upd (mx i k_H Hf) i (k_H i))), (dq, x_N G 32 dd)]) := B
        have B := B.fn 3 rfl (mx (i + 1) k_H Hf) (mx_fi rfl)
        have B : xB G A s _ _ ([(h0, .inr (6, [.int (nI cd), .ref kq, .ref cq, .int (nI rs), .int ck, .int lt, .ref lq, .ref pq, .ref oq, .int (nI os), .ref bq, .int tc, .int wr, .ref rq, .int (nI ln), .ref wq, .ref hq, .ref dq, .ref nq, .ref aq, .ref xq, .ref yq, .ref sq, .ref tq, .int (nI rd)])), (rq, x_N G 2000 f), (wq, x_I G 64 w0), (hq, x_I G 8 (mx (i + 1) k_H Hf)), (dq, x_N G 32 dd)]) := B
        refine x_inc E 1 (lv' := [(1, .int (nI (i + 1))), (0, .ref h0)]) d_Mo_digests_18 hl (k := 0) rfl rfl (by decide) rfl (fun ls hl => ?_)
        refine lv_goto (tgt := 2) E.1 E.2.1 d_Mo_digests_21 (by decide) ?_
        exact ih2  (i + 1) (by omega) (by omega) _ _ _ B (lv_sub hl [0, 1] rfl)
  have B := B.fn 3 rfl (mx 0 k_H Hf) (mx_zi _ _)
  have B : xB G A s _ _ ([(h0, .inr (6, [.int (nI cd), .ref kq, .ref cq, .int (nI rs), .int ck, .int lt, .ref lq, .ref pq, .ref oq, .int (nI os), .ref bq, .int tc, .int wr, .ref rq, .int (nI ln), .ref wq, .ref hq, .ref dq, .ref nq, .ref aq, .ref xq, .ref yq, .ref sq, .ref tq, .int (nI rd)])), (rq, x_N G 2000 f), (wq, x_I G 64 w0), (hq, x_I G 8 (mx 0 k_H Hf)), (dq, x_N G 32 dd)]) := B
  exact hL2 (9) 0 (by omega) (by omega) _ _ _ B (lv_sub hl [0, 1] rfl)
set_option maxHeartbeats 4000000 in
set_option maxRecDepth 100000 in
theorem q_Mo_twice (G : xG) (l : Launch) (h0 cd kq cq rs lq pq oq os bq rq ln wq hq dq nq aq xq yq sq tq rd : Nat) (ck lt tc wr : Int32) (f dd : Nat → Nat) (w0 Hf : Nat → Int32) (hc : ln ≤ 2000) (hf : ∀ j, j < ln → f j < 256) : xMv G l y_Mo_twice c_Mo_twice 2 ({ frames := 3, cells := 0, slots := 0, locals := 78 }) [.ref h0] [] [(h0, .inr (6, [.int (nI cd), .ref kq, .ref cq, .int (nI rs), .int ck, .int lt, .ref lq, .ref pq, .ref oq, .int (nI os), .ref bq, .int tc, .int wr, .ref rq, .int (nI ln), .ref wq, .ref hq, .ref dq, .ref nq, .ref aq, .ref xq, .ref yq, .ref sq, .ref tq, .int (nI rd)])), (rq, x_N G 2000 f), (wq, x_I G 64 w0), (hq, x_I G 8 Hf), (dq, x_N G 32 dd)] ((Nat → Int32) × (Nat → Int32)) (fun _ => True) (fun u => [(h0, .inr (6, [.int (nI cd), .ref kq, .ref cq, .int (nI rs), .int ck, .int lt, .ref lq, .ref pq, .ref oq, .int (nI os), .ref bq, .int tc, .int wr, .ref rq, .int (nI 32), .ref wq, .ref hq, .ref dq, .ref nq, .ref aq, .ref xq, .ref yq, .ref sq, .ref tq, .int (nI rd)])), (rq, x_N G 2000 (mx 32 (h_dg f ln) f)), (wq, x_I G 64 u.1), (hq, x_I G 8 u.2), (dq, x_N G 32 (h_tw f ln))]) 0 0 := by
  refine xMv.by r_Mo (by decide +kernel) (Nat.le_of_ble_eq_true rfl) rfl ?_
  intro p e s m args below meth c A ls Q E hin B hro hl hret
  have hl : lv_has ls 2 [(0, .ref h0)] := hl
  refine lv_aload_n E.1 E.2.1 d_Mo_twice_0 rfl (lv_at hl 0 rfl) ?_
  refine x_cv (ws' := (fun u => [(h0, .inr (6, [.int (nI cd), .ref kq, .ref cq, .int (nI rs), .int ck, .int lt, .ref lq, .ref pq, .ref oq, .int (nI os), .ref bq, .int tc, .int wr, .ref rq, .int (nI ln), .ref wq, .ref hq, .ref dq, .ref nq, .ref aq, .ref xq, .ref yq, .ref sq, .ref tq, .int (nI rd)])), (rq, x_N G 2000 f), (wq, x_I G 64 u.1), (hq, x_I G 8 u.2), (dq, x_N G 32 (h_dg f ln))])) (wr := []) B (x_rV (rest := []) E B (q_Mo_digests G l h0 cd kq cq rs lq pq oq os bq rq ln wq hq dq nq aq xq yq sq tq rd ck lt tc wr f dd w0 Hf (hc) (hf) _) (x_pre B [0, 1, 2, 3, 4] rfl (by decide) x_ro0) 0 rfl k_Mo (gg_V wd_505 wd_507 wd_21 wd_40 wd_508) ⟨rfl, p_Mo_digests⟩ rfl rfl ⟨Nat.le_of_ble_eq_true rfl, Nat.le_of_ble_eq_true rfl⟩ rfl hl.1 rfl (Nat.le_of_ble_eq_true rfl) d_Mo_twice_1 ⟨Nat.le_of_ble_eq_true rfl, Nat.le_of_ble_eq_true rfl⟩) [0, 1, 2, 3, 4] [] [0, 1, 2, 3, 4] rfl rfl (by decide) (by decide) (by decide) (fun _ => rfl) (fun u1 H locs hw1 B => ?_)
  have B : xB G A s _ _ ([(h0, .inr (6, [.int (nI cd), .ref kq, .ref cq, .int (nI rs), .int ck, .int lt, .ref lq, .ref pq, .ref oq, .int (nI os), .ref bq, .int tc, .int wr, .ref rq, .int (nI ln), .ref wq, .ref hq, .ref dq, .ref nq, .ref aq, .ref xq, .ref yq, .ref sq, .ref tq, .int (nI rd)])), (rq, x_N G 2000 f), (wq, x_I G 64 u1.1), (hq, x_I G 8 u1.2), (dq, x_N G 32 (h_dg f ln))]) := B
  refine lv_aload_n E.1 E.2.1 d_Mo_twice_4 rfl (lv_at hl 0 rfl) ?_
  refine lv_bipush (v := nI 32) E.1 E.2.1 d_Mo_twice_5 (by decide) ?_
  refine x_put E B 0 rfl k_Mo 14 (by decide) wd_407 rfl rfl rfl (Nat.le_of_ble_eq_true rfl) d_Mo_twice_7 (fun H locs B => ?_)
  have B : xB G A s _ _ ([(h0, .inr (6, [.int (nI cd), .ref kq, .ref cq, .int (nI rs), .int ck, .int lt, .ref lq, .ref pq, .ref oq, .int (nI os), .ref bq, .int tc, .int wr, .ref rq, .int (nI 32), .ref wq, .ref hq, .ref dq, .ref nq, .ref aq, .ref xq, .ref yq, .ref sq, .ref tq, .int (nI rd)])), (rq, x_N G 2000 f), (wq, x_I G 64 u1.1), (hq, x_I G 8 u1.2), (dq, x_N G 32 (h_dg f ln))]) := B
  refine lv_iconst (v := nI 0) E.1 E.2.1 d_Mo_twice_10 (by decide) ?_
  refine lv_istore_n (lv' := [(1, .int (nI 0)), (0, .ref h0)]) E.1 E.2.1 d_Mo_twice_11 rfl hl (by decide) rfl (fun ls hl => ?_)
  have hL12 : ∀ (kf : Nat) (i : Nat), 32 - i < kf → (i ≤ 32) → ∀ (H : Heap) (locs : List Loc) (ls : Array Slot), xB G A s H locs ([(h0, .inr (6, [.int (nI cd), .ref kq, .ref cq, .int (nI rs), .int ck, .int lt, .ref lq, .ref pq, .ref oq, .int (nI os), .ref bq, .int tc, .int wr, .ref rq, .int (nI 32), .ref wq, .ref hq, .ref dq, .ref nq, .ref aq, .ref xq, .ref yq, .ref sq, .ref tq, .int (nI rd)])), (rq, x_N G 2000 (mx i (h_dg f ln) f)), (wq, x_I G 64 u1.1), (hq, x_I G 8 u1.2), (dq, x_N G 32 (h_dg f ln))]) → lv_has ls 2 [(1, .int (nI i)), (0, .ref h0)] → W p l e ({ frames := 3, cells := 0, slots := 0, locals := 78 }) s m args below meth c H locs 0 0 Q (F0 m 12 ls []) := by
    intro k12
    induction k12 with
    | zero =>
      intro i hk
      exact absurd hk (Nat.not_lt_zero _)
    | succ k12 ih12 =>
      intro i hk12 hi H locs ls B hl
      refine lv_iload_n E.1 E.2.1 d_Mo_twice_12 rfl (lv_at hl 0 rfl) ?_
      refine lv_bipush (v := nI 32) E.1 E.2.1 d_Mo_twice_13 (by decide) ?_
      refine x_ge (tgt := 36) E d_Mo_twice_15 (by decide) (by omega) (by omega) (fun c1 => ?_) (fun c1 => ?_)
      · obtain rfl : i = 32 := by omega
        refine lv_aload_n E.1 E.2.1 d_Mo_twice_36 rfl (lv_at hl 1 rfl) ?_
        refine x_cv (ws' := (fun u => [(h0, .inr (6, [.int (nI cd), .ref kq, .ref cq, .int (nI rs), .int ck, .int lt, .ref lq, .ref pq, .ref oq, .int (nI os), .ref bq, .int tc, .int wr, .ref rq, .int (nI 32), .ref wq, .ref hq, .ref dq, .ref nq, .ref aq, .ref xq, .ref yq, .ref sq, .ref tq, .int (nI rd)])), (rq, x_N G 2000 (mx 32 (h_dg f ln) f)), (wq, x_I G 64 u.1), (hq, x_I G 8 u.2), (dq, x_N G 32 (h_dg (mx 32 (h_dg f ln) f) 32))])) (wr := []) B (x_rV (rest := []) E B (q_Mo_digests G l h0 cd kq cq rs lq pq oq os bq rq 32 wq hq dq nq aq xq yq sq tq rd ck lt tc wr (mx 32 (h_dg f ln) f) (h_dg f ln) u1.1 u1.2 (by omega) (fun j hj => by rw [mx_lt hj]; exact h_dg_lt _ _ _) _) (x_pre B [0, 1, 2, 3, 4] rfl (by decide) x_ro0) 0 rfl k_Mo (gg_V wd_505 wd_507 wd_21 wd_40 wd_508) ⟨rfl, p_Mo_digests⟩ rfl rfl ⟨Nat.le_of_ble_eq_true rfl, Nat.le_of_ble_eq_true rfl⟩ rfl hl.1 rfl (Nat.le_of_ble_eq_true rfl) d_Mo_twice_37 ⟨Nat.le_of_ble_eq_true rfl, Nat.le_of_ble_eq_true rfl⟩) [0, 1, 2, 3, 4] [] [0, 1, 2, 3, 4] rfl rfl (by decide) (by decide) (by decide) (fun _ => rfl) (fun u37 H locs hw37 B => ?_)
        have B : xB G A s _ _ ([(h0, .inr (6, [.int (nI cd), .ref kq, .ref cq, .int (nI rs), .int ck, .int lt, .ref lq, .ref pq, .ref oq, .int (nI os), .ref bq, .int tc, .int wr, .ref rq, .int (nI 32), .ref wq, .ref hq, .ref dq, .ref nq, .ref aq, .ref xq, .ref yq, .ref sq, .ref tq, .int (nI rd)])), (rq, x_N G 2000 (mx 32 (h_dg f ln) f)), (wq, x_I G 64 u37.1), (hq, x_I G 8 u37.2), (dq, x_N G 32 (h_dg (mx 32 (h_dg f ln) f) 32))]) := B
        have B := B.fn 4 rfl (nA (h_tw f ln)) (h_twM)
        have B : xB G A s _ _ ([(h0, .inr (6, [.int (nI cd), .ref kq, .ref cq, .int (nI rs), .int ck, .int lt, .ref lq, .ref pq, .ref oq, .int (nI os), .ref bq, .int tc, .int wr, .ref rq, .int (nI 32), .ref wq, .ref hq, .ref dq, .ref nq, .ref aq, .ref xq, .ref yq, .ref sq, .ref tq, .int (nI rd)])), (rq, x_N G 2000 (mx 32 (h_dg f ln) f)), (wq, x_I G 64 u37.1), (hq, x_I G 8 u37.2), (dq, x_N G 32 (h_tw f ln))]) := B
        exact hret u37 _ _ _ _ B trivial d_Mo_twice_40
      · refine lv_aload_n E.1 E.2.1 d_Mo_twice_18 rfl (lv_at hl 1 rfl) ?_
        refine x_get E B 0 rfl k_Mo 13 (by decide) wd_406 rfl d_Mo_twice_19 ?_
        refine lv_iload_n E.1 E.2.1 d_Mo_twice_22 rfl (lv_at hl 0 rfl) ?_
        refine lv_aload_n E.1 E.2.1 d_Mo_twice_23 rfl (lv_at hl 1 rfl) ?_
        refine x_get E B 0 rfl k_Mo 17 (by decide) wd_410 rfl d_Mo_twice_24 ?_
        refine lv_iload_n E.1 E.2.1 d_Mo_twice_27 rfl (lv_at hl 0 rfl) ?_
        refine x_aldN E B 4 rfl (i := i) (by omega) (by decide) d_Mo_twice_28 ?_
        refine x_astN E B 1 rfl (i := i) (v := (h_dg f ln) i) (by omega) (by decide) d_Mo_twice_29 (fun H locs B => ?_)
        have B : xB G A s _ _ ([(h0, .inr (6, [.int (nI cd), .ref kq, .ref cq, .int (nI rs), .int ck, .int lt, .ref lq, .ref pq, .ref oq, .int (nI os), .ref bq, .int tc, .int wr, .ref rq, .int (nI 32), .ref wq, .ref hq, .ref dq, .ref nq, .ref aq, .ref xq, .ref yq, .ref sq, .ref tq, .int (nI rd)])), (rq, x_N G 2000 (va_up (mx i (h_dg f ln) f) i ((h_dg f ln) i))), (wq, x_I G 64 u1.1), (hq, x_I G 8 u1.2), (dq, x_N G 32 (h_dg f ln))]) := B
        have B := B.fn 1 rfl (nA (mx (i + 1) (h_dg f ln) f)) (mx_fn rfl)
        have B : xB G A s _ _ ([(h0, .inr (6, [.int (nI cd), .ref kq, .ref cq, .int (nI rs), .int ck, .int lt, .ref lq, .ref pq, .ref oq, .int (nI os), .ref bq, .int tc, .int wr, .ref rq, .int (nI 32), .ref wq, .ref hq, .ref dq, .ref nq, .ref aq, .ref xq, .ref yq, .ref sq, .ref tq, .int (nI rd)])), (rq, x_N G 2000 (mx (i + 1) (h_dg f ln) f)), (wq, x_I G 64 u1.1), (hq, x_I G 8 u1.2), (dq, x_N G 32 (h_dg f ln))]) := B
        refine x_inc E 1 (lv' := [(1, .int (nI (i + 1))), (0, .ref h0)]) d_Mo_twice_30 hl (k := 0) rfl rfl (by decide) rfl (fun ls hl => ?_)
        refine lv_goto (tgt := 12) E.1 E.2.1 d_Mo_twice_33 (by decide) ?_
        exact ih12  (i + 1) (by omega) (by omega) _ _ _ B (lv_sub hl [0, 1] rfl)
  have B := B.fn 1 rfl (nA (mx 0 (h_dg f ln) f)) (mx_z _ _)
  have B : xB G A s _ _ ([(h0, .inr (6, [.int (nI cd), .ref kq, .ref cq, .int (nI rs), .int ck, .int lt, .ref lq, .ref pq, .ref oq, .int (nI os), .ref bq, .int tc, .int wr, .ref rq, .int (nI 32), .ref wq, .ref hq, .ref dq, .ref nq, .ref aq, .ref xq, .ref yq, .ref sq, .ref tq, .int (nI rd)])), (rq, x_N G 2000 (mx 0 (h_dg f ln) f)), (wq, x_I G 64 u1.1), (hq, x_I G 8 u1.2), (dq, x_N G 32 (h_dg f ln))]) := B
  exact hL12 (33) 0 (by omega) (by omega) _ _ _ B (lv_sub hl [0, 1] rfl)
set_option maxHeartbeats 4000000 in
set_option maxRecDepth 100000 in
theorem q_Mo_ofPool (G : xG) (l : Launch) (h0 cd kq cq rs lq pq oq os bq rq ln wq hq dq nq aq xq yq sq tq rd : Nat) (ck lt tc wr : Int32) (p_ : Nat) (len pp f dd : Nat → Nat) (w0 Hf : Nat → Int32) (hp : p_ < 32) (hle : len p_ ≤ 1600) (hf : ∀ j, j < len p_ → pp (1600 * p_ + j) < 256) : xMv G l y_Mo_ofPool c_Mo_ofPool 3 ({ frames := 4, cells := 0, slots := 0, locals := 99 }) [.ref h0, .int (nI p_)] [] [(h0, .inr (6, [.int (nI cd), .ref kq, .ref cq, .int (nI rs), .int ck, .int lt, .ref lq, .ref pq, .ref oq, .int (nI os), .ref bq, .int tc, .int wr, .ref rq, .int (nI ln), .ref wq, .ref hq, .ref dq, .ref nq, .ref aq, .ref xq, .ref yq, .ref sq, .ref tq, .int (nI rd)])), (lq, x_N G 32 len), (pq, x_N G 51200 pp), (rq, x_N G 2000 f), (wq, x_I G 64 w0), (hq, x_I G 8 Hf), (dq, x_N G 32 dd)] ((Nat → Int32) × (Nat → Int32) × (Nat → Nat)) (fun _ => True) (fun u => [(h0, .inr (6, [.int (nI cd), .ref kq, .ref cq, .int (nI rs), .int ck, .int lt, .ref lq, .ref pq, .ref oq, .int (nI os), .ref bq, .int tc, .int wr, .ref rq, .int (nI 32), .ref wq, .ref hq, .ref dq, .ref nq, .ref aq, .ref xq, .ref yq, .ref sq, .ref tq, .int (nI rd)])), (lq, x_N G 32 len), (pq, x_N G 51200 pp), (rq, x_N G 2000 u.2.2), (wq, x_I G 64 u.1), (hq, x_I G 8 u.2.1), (dq, x_N G 32 (h_tw (fun x_ => pp (1600 * p_ + x_)) (len p_)))]) 0 0 := by
  refine xMv.by r_Mo (by decide +kernel) (Nat.le_of_ble_eq_true rfl) rfl ?_
  intro p e s m args below meth c A ls Q E hin B hro hl hret
  have hl : lv_has ls 3 [(0, .ref h0), (1, .int (nI p_))] := hl
  refine lv_aload_n E.1 E.2.1 d_Mo_ofPool_0 rfl (lv_at hl 0 rfl) ?_
  refine lv_aload_n E.1 E.2.1 d_Mo_ofPool_1 rfl (lv_at hl 0 rfl) ?_
  refine x_get E B 0 rfl k_Mo 6 (by decide) wd_399 rfl d_Mo_ofPool_2 ?_
  refine lv_iload_n E.1 E.2.1 d_Mo_ofPool_5 rfl (lv_at hl 1 rfl) ?_
  refine x_aldN E B 1 rfl (i := p_) (by omega) (by decide) d_Mo_ofPool_6 ?_
  refine x_put E B 0 rfl k_Mo 14 (by decide) wd_407 rfl rfl rfl (Nat.le_of_ble_eq_true rfl) d_Mo_ofPool_7 (fun H locs B => ?_)
  have B : xB G A s _ _ ([(h0, .inr (6, [.int (nI cd), .ref kq, .ref cq, .int (nI rs), .int ck, .int lt, .ref lq, .ref pq, .ref oq, .int (nI os), .ref bq, .int tc, .int wr, .ref rq, .int (nI (len p_)), .ref wq, .ref hq, .ref dq, .ref nq, .ref aq, .ref xq, .ref yq, .ref sq, .ref tq, .int (nI rd)])), (lq, x_N G 32 len), (pq, x_N G 51200 pp), (rq, x_N G 2000 f), (wq, x_I G 64 w0), (hq, x_I G 8 Hf), (dq, x_N G 32 dd)]) := B
  refine lv_iconst (v := nI 0) E.1 E.2.1 d_Mo_ofPool_10 (by decide) ?_
  refine lv_istore_n (lv' := [(2, .int (nI 0)), (0, .ref h0), (1, .int (nI p_))]) E.1 E.2.1 d_Mo_ofPool_11 rfl hl (by decide) rfl (fun ls hl => ?_)
  have hL12 : ∀ (kf : Nat) (i : Nat), len p_ - i < kf → (i ≤ len p_) → ∀ (H : Heap) (locs : List Loc) (ls : Array Slot), xB G A s H locs ([(h0, .inr (6, [.int (nI cd), .ref kq, .ref cq, .int (nI rs), .int ck, .int lt, .ref lq, .ref pq, .ref oq, .int (nI os), .ref bq, .int tc, .int wr, .ref rq, .int (nI (len p_)), .ref wq, .ref hq, .ref dq, .ref nq, .ref aq, .ref xq, .ref yq, .ref sq, .ref tq, .int (nI rd)])), (lq, x_N G 32 len), (pq, x_N G 51200 pp), (rq, x_N G 2000 (mx i (fun x_ => pp (1600 * p_ + x_)) f)), (wq, x_I G 64 w0), (hq, x_I G 8 Hf), (dq, x_N G 32 dd)]) → lv_has ls 3 [(2, .int (nI i)), (0, .ref h0), (1, .int (nI p_))] → W p l e ({ frames := 4, cells := 0, slots := 0, locals := 99 }) s m args below meth c H locs 0 0 Q (F0 m 12 ls []) := by
    intro k12
    induction k12 with
    | zero =>
      intro i hk
      exact absurd hk (Nat.not_lt_zero _)
    | succ k12 ih12 =>
      intro i hk12 hi H locs ls B hl
      refine lv_iload_n E.1 E.2.1 d_Mo_ofPool_12 rfl (lv_at hl 0 rfl) ?_
      refine lv_aload_n E.1 E.2.1 d_Mo_ofPool_13 rfl (lv_at hl 1 rfl) ?_
      refine x_get E B 0 rfl k_Mo 14 (by decide) wd_407 rfl d_Mo_ofPool_14 ?_
      refine x_ge (tgt := 44) E d_Mo_ofPool_17 (by decide) (by omega) (by omega) (fun c1 => ?_) (fun c1 => ?_)
      · obtain rfl : i = (len p_) := by omega
        refine lv_aload_n E.1 E.2.1 d_Mo_ofPool_44 rfl (lv_at hl 1 rfl) ?_
        refine x_cv (ws' := (fun u => [(h0, .inr (6, [.int (nI cd), .ref kq, .ref cq, .int (nI rs), .int ck, .int lt, .ref lq, .ref pq, .ref oq, .int (nI os), .ref bq, .int tc, .int wr, .ref rq, .int (nI 32), .ref wq, .ref hq, .ref dq, .ref nq, .ref aq, .ref xq, .ref yq, .ref sq, .ref tq, .int (nI rd)])), (lq, x_N G 32 len), (pq, x_N G 51200 pp), (rq, x_N G 2000 (mx 32 (h_dg (mx (len p_) (fun x_ => pp (1600 * p_ + x_)) f) (len p_)) (mx (len p_) (fun x_ => pp (1600 * p_ + x_)) f))), (wq, x_I G 64 u.1), (hq, x_I G 8 u.2), (dq, x_N G 32 (h_tw (mx (len p_) (fun x_ => pp (1600 * p_ + x_)) f) (len p_)))])) (wr := [(lq, x_N G 32 len), (pq, x_N G 51200 pp)]) B (x_rV (rest := []) E B (q_Mo_twice G l h0 cd kq cq rs lq pq oq os bq rq (len p_) wq hq dq nq aq xq yq sq tq rd ck lt tc wr (mx (len p_) (fun x_ => pp (1600 * p_ + x_)) f) dd w0 Hf (by omega) (fun j hj => by rw [mx_lt hj]; exact hf j hj) _) (x_pre B [0, 3, 4, 5, 6] rfl (by decide) x_ro0) 0 rfl k_Mo (gg_V wd_501 wd_503 wd_20 wd_40 wd_504) ⟨rfl, p_Mo_twice⟩ rfl rfl ⟨Nat.le_of_ble_eq_true rfl, Nat.le_of_ble_eq_true rfl⟩ rfl hl.1 rfl (Nat.le_of_ble_eq_true rfl) d_Mo_ofPool_45 ⟨Nat.le_of_ble_eq_true rfl, Nat.le_of_ble_eq_true rfl⟩) [0, 3, 4, 5, 6] [1, 2] [2, 0, 1, 3, 4, 5, 6] rfl rfl (by decide) (by decide) (by decide) (fun _ => rfl) (fun u45 H locs hw45 B => ?_)
        have B : xB G A s _ _ ([(h0, .inr (6, [.int (nI cd), .ref kq, .ref cq, .int (nI rs), .int ck, .int lt, .ref lq, .ref pq, .ref oq, .int (nI os), .ref bq, .int tc, .int wr, .ref rq, .int (nI 32), .ref wq, .ref hq, .ref dq, .ref nq, .ref aq, .ref xq, .ref yq, .ref sq, .ref tq, .int (nI rd)])), (lq, x_N G 32 len), (pq, x_N G 51200 pp), (rq, x_N G 2000 (mx 32 (h_dg (mx (len p_) (fun x_ => pp (1600 * p_ + x_)) f) (len p_)) (mx (len p_) (fun x_ => pp (1600 * p_ + x_)) f))), (wq, x_I G 64 u45.1), (hq, x_I G 8 u45.2), (dq, x_N G 32 (h_tw (mx (len p_) (fun x_ => pp (1600 * p_ + x_)) f) (len p_)))]) := B
        have B := B.fn 6 rfl (nA (h_tw (fun x_ => pp (1600 * p_ + x_)) (len p_))) (h_twC (fun j hj => mx_lt hj))
        have B : xB G A s _ _ ([(h0, .inr (6, [.int (nI cd), .ref kq, .ref cq, .int (nI rs), .int ck, .int lt, .ref lq, .ref pq, .ref oq, .int (nI os), .ref bq, .int tc, .int wr, .ref rq, .int (nI 32), .ref wq, .ref hq, .ref dq, .ref nq, .ref aq, .ref xq, .ref yq, .ref sq, .ref tq, .int (nI rd)])), (lq, x_N G 32 len), (pq, x_N G 51200 pp), (rq, x_N G 2000 (mx 32 (h_dg (mx (len p_) (fun x_ => pp (1600 * p_ + x_)) f) (len p_)) (mx (len p_) (fun x_ => pp (1600 * p_ + x_)) f))), (wq, x_I G 64 u45.1), (hq, x_I G 8 u45.2), (dq, x_N G 32 (h_tw (fun x_ => pp (1600 * p_ + x_)) (len p_)))]) := B
        exact hret (u45.1, u45.2, _) _ _ _ _ B trivial d_Mo_ofPool_48
      · refine lv_aload_n E.1 E.2.1 d_Mo_ofPool_20 rfl (lv_at hl 1 rfl) ?_
        refine x_get E B 0 rfl k_Mo 13 (by decide) wd_406 rfl d_Mo_ofPool_21 ?_
        refine lv_iload_n E.1 E.2.1 d_Mo_ofPool_24 rfl (lv_at hl 0 rfl) ?_
        refine lv_aload_n E.1 E.2.1 d_Mo_ofPool_25 rfl (lv_at hl 1 rfl) ?_
        refine x_get E B 0 rfl k_Mo 7 (by decide) wd_400 rfl d_Mo_ofPool_26 ?_
        refine lv_sipush (v := nI 1600) E.1 E.2.1 d_Mo_ofPool_29 (by decide) ?_
        refine lv_iload_n E.1 E.2.1 d_Mo_ofPool_32 rfl (lv_at hl 2 rfl) ?_
        refine x_imul E d_Mo_ofPool_33 ?_
        refine lv_iload_n E.1 E.2.1 d_Mo_ofPool_34 rfl (lv_at hl 0 rfl) ?_
        refine x_iadd E d_Mo_ofPool_35 ?_
        refine x_aldN E B 2 rfl (i := (1600 * p_) + i) (by omega) (by decide) d_Mo_ofPool_36 ?_
        refine x_astN E B 3 rfl (i := i) (v := pp ((1600 * p_) + i)) (by omega) (by decide) d_Mo_ofPool_37 (fun H locs B => ?_)
        have B : xB G A s _ _ ([(h0, .inr (6, [.int (nI cd), .ref kq, .ref cq, .int (nI rs), .int ck, .int lt, .ref lq, .ref pq, .ref oq, .int (nI os), .ref bq, .int tc, .int wr, .ref rq, .int (nI (len p_)), .ref wq, .ref hq, .ref dq, .ref nq, .ref aq, .ref xq, .ref yq, .ref sq, .ref tq, .int (nI rd)])), (lq, x_N G 32 len), (pq, x_N G 51200 pp), (rq, x_N G 2000 (va_up (mx i (fun x_ => pp (1600 * p_ + x_)) f) i (pp ((1600 * p_) + i)))), (wq, x_I G 64 w0), (hq, x_I G 8 Hf), (dq, x_N G 32 dd)]) := B
        have B := B.fn 3 rfl (nA (mx (i + 1) (fun x_ => pp (1600 * p_ + x_)) f)) (mx_fn rfl)
        have B : xB G A s _ _ ([(h0, .inr (6, [.int (nI cd), .ref kq, .ref cq, .int (nI rs), .int ck, .int lt, .ref lq, .ref pq, .ref oq, .int (nI os), .ref bq, .int tc, .int wr, .ref rq, .int (nI (len p_)), .ref wq, .ref hq, .ref dq, .ref nq, .ref aq, .ref xq, .ref yq, .ref sq, .ref tq, .int (nI rd)])), (lq, x_N G 32 len), (pq, x_N G 51200 pp), (rq, x_N G 2000 (mx (i + 1) (fun x_ => pp (1600 * p_ + x_)) f)), (wq, x_I G 64 w0), (hq, x_I G 8 Hf), (dq, x_N G 32 dd)]) := B
        refine x_inc E 1 (lv' := [(2, .int (nI (i + 1))), (0, .ref h0), (1, .int (nI p_))]) d_Mo_ofPool_38 hl (k := 0) rfl rfl (by decide) rfl (fun ls hl => ?_)
        refine lv_goto (tgt := 12) E.1 E.2.1 d_Mo_ofPool_41 (by decide) ?_
        exact ih12  (i + 1) (by omega) (by omega) _ _ _ B (lv_sub hl [0, 1, 2] rfl)
  have B := B.fn 3 rfl (nA (mx 0 (fun x_ => pp (1600 * p_ + x_)) f)) (mx_z _ _)
  have B : xB G A s _ _ ([(h0, .inr (6, [.int (nI cd), .ref kq, .ref cq, .int (nI rs), .int ck, .int lt, .ref lq, .ref pq, .ref oq, .int (nI os), .ref bq, .int tc, .int wr, .ref rq, .int (nI (len p_)), .ref wq, .ref hq, .ref dq, .ref nq, .ref aq, .ref xq, .ref yq, .ref sq, .ref tq, .int (nI rd)])), (lq, x_N G 32 len), (pq, x_N G 51200 pp), (rq, x_N G 2000 (mx 0 (fun x_ => pp (1600 * p_ + x_)) f)), (wq, x_I G 64 w0), (hq, x_I G 8 Hf), (dq, x_N G 32 dd)]) := B
  exact hL12 (len p_ + 1) 0 (by omega) (by omega) _ _ _ B (lv_sub hl [0, 1, 2] rfl)
