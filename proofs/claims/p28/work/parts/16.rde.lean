set_option maxHeartbeats 4000000 in
set_option maxRecDepth 100000 in
theorem c_X2_read (E : GE) (c : Nat → Nat) (u : (Nat → Int32) × Nat) (a1 : Nat → Nat) (w : (Nat → Int32) × Nat) (t : Nat) (a : Nat → Nat) (b : Nat → Nat) (v : TV) (hw : w.2 ≤ 200) : CT E m_X2_read [.ref (c 0), .ref (a1 0), .ref t] ([wRd E c u, wTx E a1 w, wTw E t a b (tR v) (tN v), wSv E a (tA v), wSv E b (tB v)].flatten) (some (.int ((rdAll (txAt w) w.2 200 0 u.1 (tClear v)).1))) ([wRd E c ((rdAll (txAt w) w.2 200 0 u.1 (tClear v)).2.2.1, (rdAll (txAt w) w.2 200 0 u.1 (tClear v)).2.1), wTx E a1 w, wTw E t a b (tR ((rdAll (txAt w) w.2 200 0 u.1 (tClear v)).2.2.2)) (tN ((rdAll (txAt w) w.2 200 0 u.1 (tClear v)).2.2.2)), wSv E a (tA ((rdAll (txAt w) w.2 200 0 u.1 (tClear v)).2.2.2)), wSv E b (tB ((rdAll (txAt w) w.2 200 0 u.1 (tClear v)).2.2.2))].flatten) := by
  refine CT.intro (by decide +kernel) (Nat.le_of_ble_eq_true rfl) (fun Γ X hx => ?_)
  refine GG.lv [0, 1, 2] (lv' := [(0, .ref (c 0)), (1, .ref (a1 0)), (2, .ref t)]) rfl ?_
  refine g_aload_n X 2 dX2_read_0 rfl ?_
  refine g_callV (st2 := []) (S' := [wRd E c u, wTx E a1 w, wTw E t a b (tR (tClear v)) (tN (tClear v)), wSv E a (tA (tClear v)), wSv E b (tB (tClear v))]) (q0 := 0) X (c_X6_clear E t a b v) cs_X2_15 rfl [2, 3, 4] [0, 1] 5 rfl rfl (by decide) [wRd E c u, wTx E a1 w] rfl rfl rfl rfl (by simp only [List.map_cons, List.map_nil, fsRd, fsSv, fsTw, fsTx]) rfl rfl rfl rfl (Nat.le_of_ble_eq_true rfl) dX2_read_1 rfl ?_
  refine g_aload_n X 0 dX2_read_4 rfl ?_
  refine g_iconst (v := (nI 0)) X dX2_read_5 rfl ?_
  refine g_putf (ws' := [wRd E c (u.1, 0), wTx E a1 w, wTw E t a b (tR (tClear v)) (tN (tClear v)), wSv E a (tA (tClear v)), wSv E b (tB (tClear v))].flatten) X ps_X2_20 0 rfl rfl rfl (Nat.le_of_ble_eq_true rfl) rfl dX2_read_6 ?_
  refine g_iconst (v := (nI 0)) X dX2_read_9 rfl ?_
  refine g_istore_n (lv' := [(3, .int (nI 0)), (0, .ref (c 0)), (1, .ref (a1 0)), (2, .ref t)]) X dX2_read_10 (by decide) rfl ?_
  have L_11 : ∀ (n_11 : Nat) (it : Nat) (p : Nat) (f : Nat → Int32) (T : TV) (hi : it ≤ 200) (hp2 : p ≤ 10 * it) (hT : okT T) (he : rdAll (txAt w) w.2 200 0 u.1 (tClear v) = rdAll (txAt w) w.2 (200 - it) p f T) (hm_11 : 200 - it < n_11) (x_3 : Int32) (ex_3 : x_3 = (nI it)), GG E m_X2_read Γ 0 0 ([wRd E c (f, p), wTx E a1 w, wTw E t a b (tR T) (tN T), wSv E a (tA T), wSv E b (tB T)].flatten) [(0, .ref (c 0)), (1, .ref (a1 0)), (2, .ref t), (3, .int x_3)] 11 [] := by
    intro n_11
    induction n_11 with
    | zero => intro it p f T hi hp2 hT he hm_11; exact absurd hm_11 (Nat.not_lt_zero _)
    | succ n_11 ih_11 =>
      intro it p f T hi hp2 hT he hm_11 x_3 ex_3
      subst ex_3
      refine g_iload_n X 3 dX2_read_11 rfl ?_
      refine g_sipush (v := (nI 200)) X dX2_read_12 rfl ?_
      refine g_icmp_ge (tgt := 53) X dX2_read_15 (by decide) (fun c_15 => ?_) (fun c_15 => ?_)
      · have f_c_15 : 200 ≤ it := n_le (by omega) (by omega) c_15
        have fn_c_15 := Nat.not_lt.mpr f_c_15
        refine g_bipush (v := (-4)) X dX2_read_53 rfl ?_
        exact g_iretv (r := (-4)) X hx rfl (by first | (rw [he, show 200 - it = 0 by omega]; rfl) | (rw [he, show 200 - it = (200 - (it + 1)) + 1 by omega, rdAll]; simp [c_15, f_c_15, fn_c_15])) (by first | (rw [he, show 200 - it = 0 by omega]; rfl) | (rw [he, show 200 - it = (200 - (it + 1)) + 1 by omega, rdAll]; simp [c_15, f_c_15, fn_c_15])) dX2_read_55
      · have f_c_15 : it < 200 := n_nle (by omega) (by omega) c_15
        have fn_c_15 := Nat.not_le.mpr f_c_15
        refine g_aload_n X 0 dX2_read_18 rfl ?_
        refine g_getf (v := .int (nI p)) X fs_X2_20 0 rfl rfl dX2_read_19 ?_
        refine g_aload_n X 1 dX2_read_22 rfl ?_
        refine g_callVr (st2 := [.int (nI w.2), .int (nI p)]) (q0 := 0) X (c_X5_length E a1 w) cs_X2_24 rfl [1] [0, 2, 3, 4] 5 rfl (by decide) rfl rfl rfl rfl rfl (Nat.le_of_ble_eq_true rfl) dX2_read_23 rfl ?_
        refine g_icmp_ge (tgt := 53) X dX2_read_26 (by decide) (fun c_26 => ?_) (fun c_26 => ?_)
        · have f_c_26 : w.2 ≤ p := n_le (by omega) (by omega) c_26
          have fn_c_26 := Nat.not_lt.mpr f_c_26
          refine g_bipush (v := (-4)) X dX2_read_53 rfl ?_
          exact g_iretv (r := (-4)) X hx rfl (by first | (rw [he, show 200 - it = 0 by omega]; rfl) | (rw [he, show 200 - it = (200 - (it + 1)) + 1 by omega, rdAll]; simp [c_15, f_c_15, fn_c_15, c_26, f_c_26, fn_c_26])) (by first | (rw [he, show 200 - it = 0 by omega]; rfl) | (rw [he, show 200 - it = (200 - (it + 1)) + 1 by omega, rdAll]; simp [c_15, f_c_15, fn_c_15, c_26, f_c_26, fn_c_26])) dX2_read_55
        · have f_c_26 : p < w.2 := n_nle (by omega) (by omega) c_26
          have fn_c_26 := Nat.not_le.mpr f_c_26
          refine g_aload_n X 0 dX2_read_29 rfl ?_
          refine g_getf (v := .int (nI p)) X fs_X2_20 0 rfl rfl dX2_read_30 ?_
          refine g_istore (lv' := [(4, .int (nI p)), (0, .ref (c 0)), (1, .ref (a1 0)), (2, .ref t), (3, .int (nI it))]) X dX2_read_33 (by decide) rfl ?_
          refine g_aload_n X 1 dX2_read_35 rfl ?_
          refine g_aload_n X 2 dX2_read_36 rfl ?_
          refine g_aload_n X 3 dX2_read_37 rfl ?_
          refine g_callV (st2 := [.int (b2i ((rdItem (txAt w) p f T).1))]) (S' := [wRd E c ((rdItem (txAt w) p f T).2.2.1, (rdItem (txAt w) p f T).2.1), wTx E a1 w, wTw E t a b (tR ((rdItem (txAt w) p f T).2.2.2)) (tN ((rdItem (txAt w) p f T).2.2.2)), wSv E a (tA ((rdItem (txAt w) p f T).2.2.2)), wSv E b (tB ((rdItem (txAt w) p f T).2.2.2))]) (q0 := 0) X (c_X2_readItem E c (f, p) a1 w t a b T (by first | assumption | omega) (by first | assumption | omega) (by first | assumption | omega)) cs_X2_30 rfl [0, 1, 2, 3, 4] [] 5 rfl rfl (by decide) [] rfl rfl rfl rfl (by simp only [List.map_cons, List.map_nil, fsRd, fsSv, fsTw, fsTx]) rfl rfl rfl rfl (Nat.le_of_ble_eq_true rfl) dX2_read_38 rfl ?_
          refine g_bif_ne (tgt := 47) X dX2_read_41 (by decide) (fun c_41 => ?_) (fun c_41 => ?_)
          · refine g_iincN (lv' := [(3, .int (nI (it + 1))), (4, .int (nI p)), (0, .ref (c 0)), (1, .ref (a1 0)), (2, .ref t)]) X 4 dX2_read_47 rfl (by decide) rfl ?_
            refine g_goto (tgt := 11) X dX2_read_50 (by decide) ?_
            refine GG.lv [2, 3, 4, 0] rfl ?_
            exact ih_11 (it + 1) ((rdItem (txAt w) p f T).2.1) ((rdItem (txAt w) p f T).2.2.1) ((rdItem (txAt w) p f T).2.2.2) (by omega) (by have := rdItem_le (txAt w) p f T; omega) (okT_item hT _ _ _) (by rw [he, show 200 - it = (200 - (it + 1)) + 1 by omega, rdAll]; simp [c_15, f_c_15, fn_c_15, c_26, f_c_26, fn_c_26, c_41]) (by omega) (nI (it + 1)) (by rfl)
          · refine g_iload X 0 dX2_read_44 rfl ?_
            exact g_iretv (r := (nI p)) X hx rfl (by rw [he, show 200 - it = (200 - (it + 1)) + 1 by omega, rdAll]; simp [c_15, f_c_15, fn_c_15, c_26, f_c_26, fn_c_26, c_41]) (by rw [he, show 200 - it = (200 - (it + 1)) + 1 by omega, rdAll]; simp [c_15, f_c_15, fn_c_15, c_26, f_c_26, fn_c_26, c_41]) dX2_read_46
  refine GG.lv [1, 2, 3, 0] rfl ?_
  exact L_11 (201) 0 0 u.1 (tClear v) (by omega) (by omega) (okT_clear v) (rfl) (by omega) (nI 0) (by rfl)
