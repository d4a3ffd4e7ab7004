set_option maxHeartbeats 4000000 in
set_option maxRecDepth 100000 in
theorem c_X1_height (E : GE) (c : Nat → Nat) (pt : Nat → Nat) (N : Nat) (o : (Nat → Nat) × Nat) : CT E m_X1_height [.ref (c 0)] ([wPo E c pt N o].flatten) (some (.int (nI o.2))) ([wPo E c pt N o].flatten) := by
  refine CT.intro (by decide +kernel) (Nat.le_of_ble_eq_true rfl) (fun Γ X hx => ?_)
  refine GG.lv [0] (lv' := [(0, .ref (c 0))]) rfl ?_
  refine g_aload_n X 0 dX1_height_0 rfl ?_
  refine g_getf (v := .int (nI o.2)) X fs_X1_22 0 rfl rfl dX1_height_1 ?_
  exact g_iretv (r := (nI o.2)) X hx rfl (by rfl) (by rfl) dX1_height_4
set_option maxHeartbeats 4000000 in
set_option maxRecDepth 100000 in
theorem c_X1_clear (E : GE) (c : Nat → Nat) (pt : Nat → Nat) (N : Nat) (o : (Nat → Nat) × Nat) : CT E m_X1_clear [.ref (c 0)] ([wPo E c pt N o].flatten) none ([wPo E c pt N (o.1, 0)].flatten) := by
  refine CT.intro (by decide +kernel) (Nat.le_of_ble_eq_true rfl) (fun Γ X hx => ?_)
  refine GG.lv [0] (lv' := [(0, .ref (c 0))]) rfl ?_
  refine g_aload_n X 0 dX1_clear_0 rfl ?_
  refine g_iconst (v := (nI 0)) X dX1_clear_1 rfl ?_
  refine g_putf (ws' := [wPo E c pt N (o.1, 0)].flatten) X ps_X1_22 0 rfl rfl rfl (Nat.le_of_ble_eq_true rfl) rfl dX1_clear_2 ?_
  exact g_vret X hx rfl rfl (by rfl) dX1_clear_5
set_option maxHeartbeats 4000000 in
set_option maxRecDepth 100000 in
theorem c_X1_dropOldest (E : GE) (c : Nat → Nat) (pt : Nat → Nat) (N : Nat) (o : (Nat → Nat) × Nat) (pa : Nat → Nat → Nat) (pb : Nat → Nat → Nat) (tv : Nat → TV) (hN : 0 < N) (hN8 : N ≤ 8) (hr : ∀ k, k < N → o.1 k < N) : CT E m_X1_dropOldest [.ref (c 0)] ([wPo E c pt N o, wPt E pt pa pb N tv].flatten) none ([wPo E c pt N (rotN o.1 N, N - 1), wPt E pt pa pb N tv].flatten) := by
  refine CT.intro (by decide +kernel) (Nat.le_of_ble_eq_true rfl) (fun Γ X hx => ?_)
  refine GG.lv [0] (lv' := [(0, .ref (c 0))]) rfl ?_
  refine g_aload_n X 0 dX1_dropOldest_0 rfl ?_
  refine g_getf (v := .ref (c 1)) X fs_X1_15 0 rfl rfl dX1_dropOldest_1 ?_
  refine g_iconst (v := (nI 0)) X dX1_dropOldest_4 rfl ?_
  refine g_plld X 0 rfl 0 (ix_nI (by omega) (by omega)) dX1_dropOldest_5 ?_
  refine g_astore_n (lv' := [(1, .ref (pt (o.1 0))), (0, .ref (c 0))]) X dX1_dropOldest_6 (by decide) rfl ?_
  refine g_iconst (v := (nI 1)) X dX1_dropOldest_7 rfl ?_
  refine g_istore_n (lv' := [(2, .int (nI 1)), (1, .ref (pt (o.1 0))), (0, .ref (c 0))]) X dX1_dropOldest_8 (by decide) rfl ?_
  have L_9 : ∀ (n_9 : Nat) (i : Nat) (hi : i ≤ N) (hi1 : 1 ≤ i) (hm_9 : N - i < n_9) (x_2 : Int32) (ex_2 : x_2 = (nI i)) (u_0 : Nat → Nat) (eu_0 : u_0 = shN o.1 i), GG E m_X1_dropOldest Γ 0 0 ([wPo E c pt N (u_0, o.2), wPt E pt pa pb N tv].flatten) [(0, .ref (c 0)), (1, .ref (pt (o.1 0))), (2, .int x_2)] 9 [] := by
    intro n_9
    induction n_9 with
    | zero => intro i hi hi1 hm_9; exact absurd hm_9 (Nat.not_lt_zero _)
    | succ n_9 ih_9 =>
      intro i hi hi1 hm_9 x_2 ex_2 u_0 eu_0
      subst ex_2
      subst eu_0
      have hrs := shN_lt hr hi
      refine g_iload_n X 2 dX1_dropOldest_9 rfl ?_
      refine g_aload_n X 0 dX1_dropOldest_10 rfl ?_
      refine g_getf (v := .ref (c 1)) X fs_X1_15 0 rfl rfl dX1_dropOldest_11 ?_
      refine g_alen (v := nI N) X 1 3 rfl rfl rfl dX1_dropOldest_14 ?_
      refine g_icmp_ge (tgt := 38) X dX1_dropOldest_15 (by decide) (fun c_15 => ?_) (fun c_15 => ?_)
      · have f_c_15 : N ≤ i := n_le (by omega) (by omega) c_15
        have fn_c_15 := Nat.not_lt.mpr f_c_15
        refine g_aload_n X 0 dX1_dropOldest_38 rfl ?_
        refine g_getf (v := .ref (c 1)) X fs_X1_15 0 rfl rfl dX1_dropOldest_39 ?_
        refine g_aload_n X 0 dX1_dropOldest_42 rfl ?_
        refine g_getf (v := .ref (c 1)) X fs_X1_15 0 rfl rfl dX1_dropOldest_43 ?_
        refine g_alen (v := nI N) X 1 3 rfl rfl rfl dX1_dropOldest_46 ?_
        refine g_iconst (v := (nI 1)) X dX1_dropOldest_47 rfl ?_
        refine g_isubN X (by omega) dX1_dropOldest_48 ?_
        refine g_aload_n X 1 dX1_dropOldest_49 rfl ?_
        refine g_plst (S' := [wPo E c pt N (upN (shN o.1 i) (N - 1) (o.1 0), o.2), wPt E pt pa pb N tv]) X 0 1 rfl rfl (by first | exact hr 0 hN | exact hrs _ (by omega)) (N - 1) (ix_nI (by omega) (by omega)) rfl dX1_dropOldest_50 ?_
        refine g_aload_n X 0 dX1_dropOldest_51 rfl ?_
        refine g_aload_n X 0 dX1_dropOldest_52 rfl ?_
        refine g_getf (v := .ref (c 1)) X fs_X1_15 0 rfl rfl dX1_dropOldest_53 ?_
        refine g_alen (v := nI N) X 1 3 rfl rfl rfl dX1_dropOldest_56 ?_
        refine g_iconst (v := (nI 1)) X dX1_dropOldest_57 rfl ?_
        refine g_isubN X (by omega) dX1_dropOldest_58 ?_
        refine g_putf (ws' := [wPo E c pt N (upN (shN o.1 i) (N - 1) (o.1 0), N - 1), wPt E pt pa pb N tv].flatten) X ps_X1_22 0 rfl rfl rfl (Nat.le_of_ble_eq_true rfl) rfl dX1_dropOldest_59 ?_
        exact g_vret X hx rfl rfl (by unfold rotN; rw [show N = i by omega]) dX1_dropOldest_62
      · have f_c_15 : i < N := n_nle (by omega) (by omega) c_15
        have fn_c_15 := Nat.not_le.mpr f_c_15
        refine g_aload_n X 0 dX1_dropOldest_18 rfl ?_
        refine g_getf (v := .ref (c 1)) X fs_X1_15 0 rfl rfl dX1_dropOldest_19 ?_
        refine g_iload_n X 2 dX1_dropOldest_22 rfl ?_
        refine g_iconst (v := (nI 1)) X dX1_dropOldest_23 rfl ?_
        refine g_isubN X (by omega) dX1_dropOldest_24 ?_
        refine g_aload_n X 0 dX1_dropOldest_25 rfl ?_
        refine g_getf (v := .ref (c 1)) X fs_X1_15 0 rfl rfl dX1_dropOldest_26 ?_
        refine g_iload_n X 2 dX1_dropOldest_29 rfl ?_
        refine g_plld X 0 rfl i (ix_nI (by omega) (by omega)) dX1_dropOldest_30 ?_
        refine g_plst (S' := [wPo E c pt N (upN (shN o.1 i) (i - 1) ((shN o.1 i) i), o.2), wPt E pt pa pb N tv]) X 0 1 rfl rfl (by first | exact hr 0 hN | exact hrs _ (by omega)) (i - 1) (ix_nI (by omega) (by omega)) rfl dX1_dropOldest_31 ?_
        refine g_iincN (lv' := [(2, .int (nI (i + 1))), (0, .ref (c 0)), (1, .ref (pt (o.1 0)))]) X 2 dX1_dropOldest_32 rfl (by decide) rfl ?_
        refine g_goto (tgt := 9) X dX1_dropOldest_35 (by decide) ?_
        refine GG.lv [1, 2, 0] rfl ?_
        exact ih_9 (i + 1) (by omega) (by omega) (by omega) (nI (i + 1)) (by rfl) (upN (shN o.1 i) (i - 1) ((shN o.1 i) i)) (by exact shN_s _ hi1)
  refine GG.lv [2, 1, 0] rfl ?_
  exact L_9 (N + 1) 1 (by omega) (by omega) (by omega) (nI 1) (by rfl) o.1 (by exact (shN_1 _).symm)
set_option maxHeartbeats 4000000 in
set_option maxRecDepth 100000 in
theorem c_X1_push (E : GE) (c : Nat → Nat) (pt : Nat → Nat) (N : Nat) (o : (Nat → Nat) × Nat) (pa : Nat → Nat → Nat) (pb : Nat → Nat → Nat) (tv : Nat → TV) (t : Nat) (a : Nat → Nat) (b : Nat → Nat) (v : TV) (hN : 0 < N) (hN8 : N ≤ 8) (hr : ∀ k, k < N → o.1 k < N) (hh : o.2 ≤ N) : CT E m_X1_push [.ref (c 0), .ref t] ([wTw E t a b (tR v) (tN v), wSv E a (tA v), wSv E b (tB v), wPo E c pt N o, wPt E pt pa pb N tv].flatten) none ([wTw E t a b (tR v) (tN v), wSv E a (tA v), wSv E b (tB v), wPo E c pt N (plR o.1 o.2 N, plH o.2 N), wPt E pt pa pb N (upT tv (plK o.1 o.2 N) (tCopy v (tv (plK o.1 o.2 N))))].flatten) := by
  refine CT.intro (by decide +kernel) (Nat.le_of_ble_eq_true rfl) (fun Γ X hx => ?_)
  refine GG.lv [0, 1] (lv' := [(0, .ref (c 0)), (1, .ref t)]) rfl ?_
  refine g_aload_n X 0 dX1_push_0 rfl ?_
  refine g_getf (v := .int (nI o.2)) X fs_X1_22 15 rfl rfl dX1_push_1 ?_
  refine g_aload_n X 0 dX1_push_4 rfl ?_
  refine g_getf (v := .ref (c 1)) X fs_X1_15 15 rfl rfl dX1_push_5 ?_
  refine g_alen (v := nI N) X 16 3 rfl rfl rfl dX1_push_8 ?_
  refine g_icmp_lt (tgt := 16) X dX1_push_9 (by decide) (fun c_9 => ?_) (fun c_9 => ?_)
  · have f_c_9 : o.2 < N := n_lt (by omega) (by omega) c_9
    have fn_c_9 := Nat.not_le.mpr f_c_9
    refine g_aload_n X 0 dX1_push_16 rfl ?_
    refine g_getf (v := .ref (c 1)) X fs_X1_15 15 rfl rfl dX1_push_17 ?_
    refine g_aload_n X 0 dX1_push_20 rfl ?_
    refine g_getf (v := .int (nI o.2)) X fs_X1_22 15 rfl rfl dX1_push_21 ?_
    refine g_plld X 3 rfl o.2 (ix_nI (by omega) (by omega)) dX1_push_24 ?_
    refine g_aload_n X 1 dX1_push_25 rfl ?_
    refine g_plpush X (k := o.1 o.2) (hr _ f_c_9) (c_X6_copy E (pt (o.1 o.2)) (pa (o.1 o.2)) (pb (o.1 o.2)) t a b (tv (o.1 o.2)) v) cs_X1_29 rfl (Nat.le_of_ble_eq_true rfl) dX1_push_26 ?_
    refine g_aload_n X 0 dX1_push_29 rfl ?_
    refine g_dup X dX1_push_30 rfl ?_
    refine g_getf (v := .int (nI o.2)) X fs_X1_22 15 rfl rfl dX1_push_31 ?_
    refine g_iconst (v := (nI 1)) X dX1_push_34 rfl ?_
    refine g_iaddN X dX1_push_35 ?_
    refine g_putf (ws' := [wTw E t a b (tR v) (tN v), wSv E a (tA v), wSv E b (tB v), wPo E c pt N (o.1, o.2 + 1), wPt E pt pa pb N (upT tv (o.1 o.2) (tCopy v (tv (o.1 o.2))))].flatten) X ps_X1_22 15 rfl rfl rfl (Nat.le_of_ble_eq_true rfl) rfl dX1_push_36 ?_
    exact g_vret X hx rfl rfl (by simp only [plR, plH, plK, if_pos f_c_9]) dX1_push_39
  · have f_c_9 : N ≤ o.2 := n_nlt (by omega) (by omega) c_9
    have fn_c_9 := Nat.not_lt.mpr f_c_9
    refine g_aload_n X 0 dX1_push_12 rfl ?_
    refine g_callV (st2 := []) (S' := [wTw E t a b (tR v) (tN v), wSv E a (tA v), wSv E b (tB v), wPo E c pt N (rotN o.1 N, N - 1), wPt E pt pa pb N tv]) (q0 := 0) X (c_X1_dropOldest E c pt N o pa pb tv (by first | assumption | omega) (by first | assumption | omega) (by first | assumption | omega)) cs_X1_26 rfl [3, 4] [0, 1, 2] 5 rfl rfl (by decide) [wTw E t a b (tR v) (tN v), wSv E a (tA v), wSv E b (tB v)] rfl rfl rfl rfl (by simp only [List.map_cons, List.map_nil, fsPo, fsPt, fsSv, fsTw]) rfl rfl rfl rfl (Nat.le_of_ble_eq_true rfl) dX1_push_13 rfl ?_
    refine g_aload_n X 0 dX1_push_16 rfl ?_
    refine g_getf (v := .ref (c 1)) X fs_X1_15 15 rfl rfl dX1_push_17 ?_
    refine g_aload_n X 0 dX1_push_20 rfl ?_
    refine g_getf (v := .int (nI (N - 1))) X fs_X1_22 15 rfl rfl dX1_push_21 ?_
    refine g_plld X 3 rfl (N - 1) (ix_nI (by omega) (by omega)) dX1_push_24 ?_
    refine g_aload_n X 1 dX1_push_25 rfl ?_
    refine g_plpush X (k := rotN o.1 N (N - 1)) (rotN_lt hr hN _ (by omega)) (c_X6_copy E (pt (rotN o.1 N (N - 1))) (pa (rotN o.1 N (N - 1))) (pb (rotN o.1 N (N - 1))) t a b (tv (rotN o.1 N (N - 1))) v) cs_X1_29 rfl (Nat.le_of_ble_eq_true rfl) dX1_push_26 ?_
    refine g_aload_n X 0 dX1_push_29 rfl ?_
    refine g_dup X dX1_push_30 rfl ?_
    refine g_getf (v := .int (nI (N - 1))) X fs_X1_22 15 rfl rfl dX1_push_31 ?_
    refine g_iconst (v := (nI 1)) X dX1_push_34 rfl ?_
    refine g_iaddN X dX1_push_35 ?_
    refine g_putf (ws' := [wTw E t a b (tR v) (tN v), wSv E a (tA v), wSv E b (tB v), wPo E c pt N ((rotN o.1 N), (N - 1) + 1), wPt E pt pa pb N (upT tv (rotN o.1 N (N - 1)) (tCopy v (tv (rotN o.1 N (N - 1)))))].flatten) X ps_X1_22 15 rfl rfl rfl (Nat.le_of_ble_eq_true rfl) rfl dX1_push_36 ?_
    exact g_vret X hx rfl rfl (by simp only [plR, plH, plK, if_neg fn_c_9, show N - 1 + 1 = N from by omega]) dX1_push_39
set_option maxHeartbeats 4000000 in
set_option maxRecDepth 100000 in
theorem c_X1_pop (E : GE) (c : Nat → Nat) (pt : Nat → Nat) (N : Nat) (o : (Nat → Nat) × Nat) (pa : Nat → Nat → Nat) (pb : Nat → Nat → Nat) (tv : Nat → TV) (t : Nat) (a : Nat → Nat) (b : Nat → Nat) (v : TV) (hN : 0 < N) (hN8 : N ≤ 8) (hr : ∀ k, k < N → o.1 k < N) (hh : o.2 ≤ N) : CT E m_X1_pop [.ref (c 0), .ref t] ([wTw E t a b (tR v) (tN v), wSv E a (tA v), wSv E b (tB v), wPo E c pt N o, wPt E pt pa pb N tv].flatten) (some (.int (b2i (decide (0 < o.2))))) ([wTw E t a b (tR (if 0 < o.2 then tCopy (tv (o.1 (o.2 - 1))) v else v)) (tN (if 0 < o.2 then tCopy (tv (o.1 (o.2 - 1))) v else v)), wSv E a (tA (if 0 < o.2 then tCopy (tv (o.1 (o.2 - 1))) v else v)), wSv E b (tB (if 0 < o.2 then tCopy (tv (o.1 (o.2 - 1))) v else v)), wPo E c pt N (o.1, o.2 - 1), wPt E pt pa pb N tv].flatten) := by
  refine CT.intro (by decide +kernel) (Nat.le_of_ble_eq_true rfl) (fun Γ X hx => ?_)
  refine GG.lv [0, 1] (lv' := [(0, .ref (c 0)), (1, .ref t)]) rfl ?_
  refine g_aload_n X 0 dX1_pop_0 rfl ?_
  refine g_getf (v := .int (nI o.2)) X fs_X1_22 15 rfl rfl dX1_pop_1 ?_
  refine g_if_gt (tgt := 9) X dX1_pop_4 (by decide) (fun c_4 => ?_) (fun c_4 => ?_)
  · have f_c_4 : 0 < o.2 := n_lt (by omega) (by omega) c_4
    have fn_c_4 := Nat.not_le.mpr f_c_4
    refine g_aload_n X 0 dX1_pop_9 rfl ?_
    refine g_dup X dX1_pop_10 rfl ?_
    refine g_getf (v := .int (nI o.2)) X fs_X1_22 15 rfl rfl dX1_pop_11 ?_
    refine g_iconst (v := (nI 1)) X dX1_pop_14 rfl ?_
    refine g_isubN X (by omega) dX1_pop_15 ?_
    refine g_putf (ws' := [wTw E t a b (tR v) (tN v), wSv E a (tA v), wSv E b (tB v), wPo E c pt N (o.1, o.2 - 1), wPt E pt pa pb N tv].flatten) X ps_X1_22 15 rfl rfl rfl (Nat.le_of_ble_eq_true rfl) rfl dX1_pop_16 ?_
    refine g_aload_n X 1 dX1_pop_19 rfl ?_
    refine g_aload_n X 0 dX1_pop_20 rfl ?_
    refine g_getf (v := .ref (c 1)) X fs_X1_15 15 rfl rfl dX1_pop_21 ?_
    refine g_aload_n X 0 dX1_pop_24 rfl ?_
    refine g_getf (v := .int (nI (o.2 - 1))) X fs_X1_22 15 rfl rfl dX1_pop_25 ?_
    refine g_plld X 3 rfl (o.2 - 1) (ix_nI (by omega) (by omega)) dX1_pop_28 ?_
    refine g_plpop X (k := o.1 (o.2 - 1)) (hr _ (by omega)) (c_X6_copy E t a b (pt (o.1 (o.2 - 1))) (pa (o.1 (o.2 - 1))) (pb (o.1 (o.2 - 1))) v (tv (o.1 (o.2 - 1)))) cs_X1_29 rfl (Nat.le_of_ble_eq_true rfl) dX1_pop_29 ?_
    refine g_iconst (v := (nI 1)) X dX1_pop_32 rfl ?_
    exact g_zretv (r := (nI 1)) X hx rfl (by simp [b2i, c_4, f_c_4, fn_c_4]; try rfl) (by simp only [if_pos f_c_4]) dX1_pop_33
  · have f_c_4 : o.2 ≤ 0 := n_nlt (by omega) (by omega) c_4
    have fn_c_4 := Nat.not_lt.mpr f_c_4
    refine g_iconst (v := (nI 0)) X dX1_pop_7 rfl ?_
    exact g_zretv (r := (nI 0)) X hx rfl (by simp [b2i, c_4, f_c_4, fn_c_4]; try rfl) (by simp only [if_neg fn_c_4, show o.2 - 1 = o.2 by omega]) dX1_pop_8
