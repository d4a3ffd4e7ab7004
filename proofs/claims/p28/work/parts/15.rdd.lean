set_option maxHeartbeats 4000000 in
set_option maxRecDepth 100000 in
theorem c_X2_readItem (E : GE) (c : Nat → Nat) (u : (Nat → Int32) × Nat) (a1 : Nat → Nat) (w : (Nat → Int32) × Nat) (t : Nat) (a : Nat → Nat) (b : Nat → Nat) (v : TV) (hw : w.2 ≤ 200) (hp : u.2 ≤ 3000) (hv : okT v) : CT E m_X2_readItem [.ref (c 0), .ref (a1 0), .ref t] ([wRd E c u, wTx E a1 w, wTw E t a b (tR v) (tN v), wSv E a (tA v), wSv E b (tB v)].flatten) (some (.int (b2i ((rdItem (txAt w) u.2 u.1 v).1)))) ([wRd E c ((rdItem (txAt w) u.2 u.1 v).2.2.1, (rdItem (txAt w) u.2 u.1 v).2.1), wTx E a1 w, wTw E t a b (tR ((rdItem (txAt w) u.2 u.1 v).2.2.2)) (tN ((rdItem (txAt w) u.2 u.1 v).2.2.2)), wSv E a (tA ((rdItem (txAt w) u.2 u.1 v).2.2.2)), wSv E b (tB ((rdItem (txAt w) u.2 u.1 v).2.2.2))].flatten) := by
  refine CT.intro (by decide +kernel) (Nat.le_of_ble_eq_true rfl) (fun Γ X hx => ?_)
  refine GG.lv [0, 1, 2] (lv' := [(0, .ref (c 0)), (1, .ref (a1 0)), (2, .ref t)]) rfl ?_
  have hW3 := wantN_le (txAt w u.2)
  refine g_aload_n X 1 dX2_readItem_0 rfl ?_
  refine g_aload_n X 0 dX2_readItem_1 rfl ?_
  refine g_getf (v := .int (nI u.2)) X fs_X2_20 0 rfl rfl dX2_readItem_2 ?_
  refine g_callVr (st2 := [.int (txAt w u.2)]) (q0 := 0) X (c_X5_letterAt E a1 w u.2 (by first | assumption | omega) (by first | assumption | omega)) cs_X2_34 rfl [1] [0, 2, 3, 4] 5 rfl (by decide) rfl rfl rfl rfl rfl (Nat.le_of_ble_eq_true rfl) dX2_readItem_5 rfl ?_
  refine g_istore_n (lv' := [(3, .int (txAt w u.2)), (0, .ref (c 0)), (1, .ref (a1 0)), (2, .ref t)]) X dX2_readItem_8 (by decide) rfl ?_
  refine g_iload_n X 0 dX2_readItem_9 rfl ?_
  refine g_callSP (st2 := [.int (nI (wantN (txAt w u.2)))]) (ws' := [wRd E c u, wTx E a1 w, wTw E t a b (tR v) (tN v), wSv E a (tA v), wSv E b (tB v)].flatten) (wr := [wRd E c u, wTx E a1 w, wTw E t a b (tR v) (tN v), wSv E a (tA v), wSv E b (tB v)].flatten) X (c_X2_numbersOf E (txAt w u.2)) cs_X2_38 rfl (List.Perm.refl _) rfl (List.Perm.refl _) rfl rfl (Nat.le_of_ble_eq_true rfl) dX2_readItem_10 rfl ?_
  refine g_istore (lv' := [(4, .int (nI (wantN (txAt w u.2)))), (3, .int (txAt w u.2)), (0, .ref (c 0)), (1, .ref (a1 0)), (2, .ref t)]) X dX2_readItem_13 (by decide) rfl ?_
  refine g_aload_n X 2 dX2_readItem_15 rfl ?_
  refine g_dup X dX2_readItem_16 rfl ?_
  refine g_getf (v := .int (nI u.2)) X fs_X2_20 0 rfl rfl dX2_readItem_17 ?_
  refine g_iconst (v := (nI 1)) X dX2_readItem_20 rfl ?_
  refine g_iaddN X dX2_readItem_21 ?_
  refine g_putf (ws' := [wRd E c (u.1, u.2 + 1), wTx E a1 w, wTw E t a b (tR v) (tN v), wSv E a (tA v), wSv E b (tB v)].flatten) X ps_X2_20 0 rfl rfl rfl (Nat.le_of_ble_eq_true rfl) rfl dX2_readItem_22 ?_
  refine g_iconst (v := (nI 0)) X dX2_readItem_25 rfl ?_
  refine g_istore (lv' := [(5, .int (nI 0)), (4, .int (nI (wantN (txAt w u.2)))), (3, .int (txAt w u.2)), (0, .ref (c 0)), (1, .ref (a1 0)), (2, .ref t)]) X dX2_readItem_26 (by decide) rfl ?_
  have L_28 : ∀ (n_28 : Nat) (n : Nat) (p : Nat) (f : Nat → Int32) (hn : n ≤ wantN (txAt w u.2)) (hp2 : p ≤ u.2 + 1 + 3 * n) (he : rdLoop (txAt w) (wantN (txAt w u.2))  (wantN (txAt w u.2)) 0 (u.2 + 1) u.1 = rdLoop (txAt w) (wantN (txAt w u.2))  (wantN (txAt w u.2) - n) n p f) (hm_28 : wantN (txAt w u.2) - n < n_28) (x_5 : Int32) (ex_5 : x_5 = (nI n)), GG E m_X2_readItem Γ 0 0 ([wRd E c (f, p), wTx E a1 w, wTw E t a b (tR v) (tN v), wSv E a (tA v), wSv E b (tB v)].flatten) [(0, .ref (c 0)), (1, .ref (a1 0)), (2, .ref t), (3, .int (txAt w u.2)), (4, .int (nI (wantN (txAt w u.2)))), (5, .int x_5)] 28 [] := by
    intro n_28
    induction n_28 with
    | zero => intro n p f hn hp2 he hm_28; exact absurd hm_28 (Nat.not_lt_zero _)
    | succ n_28 ih_28 =>
      intro n p f hn hp2 he hm_28 x_5 ex_5
      subst ex_5
      have hq := rdNum_le (txAt w) p
      refine g_iload X 5 dX2_readItem_28 rfl ?_
      refine g_iload X 4 dX2_readItem_30 rfl ?_
      refine g_icmp_ge (tgt := 105) X dX2_readItem_32 (by decide) (fun c_32 => ?_) (fun c_32 => ?_)
      · have f_c_32 : wantN (txAt w u.2) ≤ n := n_le (by omega) (by omega) c_32
        have fn_c_32 := Nat.not_lt.mpr f_c_32
        refine g_aload_n X 0 dX2_readItem_105 rfl ?_
        refine g_iload_n X 3 dX2_readItem_106 rfl ?_
        refine g_aload_n X 2 dX2_readItem_107 rfl ?_
        refine g_callV (st2 := [.int (b2i ((rdTake (txAt w u.2) f v).1))]) (S' := [wRd E c (f, p), wTx E a1 w, wTw E t a b (tR ((rdTake (txAt w u.2) f v).2)) (tN ((rdTake (txAt w u.2) f v).2)), wSv E a (tA ((rdTake (txAt w u.2) f v).2)), wSv E b (tB ((rdTake (txAt w u.2) f v).2))]) (q0 := 0) X (c_X2_take E c (f, p) t a b v (txAt w u.2) (by first | assumption | omega)) cs_X2_45 rfl [0, 2, 3, 4] [1] 5 rfl rfl (by decide) [wTx E a1 w] rfl rfl rfl rfl (by simp only [List.map_cons, List.map_nil, fsRd, fsSv, fsTw, fsTx]) rfl rfl rfl rfl (Nat.le_of_ble_eq_true rfl) dX2_readItem_108 rfl ?_
        exact g_zretv (r := (b2i ((rdTake (txAt w u.2) f v).1))) X hx rfl (by rw [rdItem, he, show wantN (txAt w u.2) - n = 0 by omega, rdLoop]; rfl) (by rw [rdItem, he, show wantN (txAt w u.2) - n = 0 by omega, rdLoop]; rfl) dX2_readItem_111
      · have f_c_32 : n < wantN (txAt w u.2) := n_nle (by omega) (by omega) c_32
        have fn_c_32 := Nat.not_le.mpr f_c_32
        refine g_aload_n X 0 dX2_readItem_35 rfl ?_
        refine g_aload_n X 1 dX2_readItem_36 rfl ?_
        refine g_callV (st2 := [.int ((rdNum (txAt w) p).1)]) (S' := [wRd E c (f, (rdNum (txAt w) p).2), wTx E a1 w, wTw E t a b (tR v) (tN v), wSv E a (tA v), wSv E b (tB v)]) (q0 := 0) X (c_X2_readNumber E c (f, p) a1 w (by first | assumption | omega) (by first | assumption | omega)) cs_X2_41 rfl [0, 1] [2, 3, 4] 5 rfl rfl (by decide) [wTw E t a b (tR v) (tN v), wSv E a (tA v), wSv E b (tB v)] rfl rfl rfl rfl (by simp only [List.map_cons, List.map_nil, fsRd, fsSv, fsTw, fsTx]) rfl rfl rfl rfl (Nat.le_of_ble_eq_true rfl) dX2_readItem_37 rfl ?_
        refine g_istore (lv' := [(6, .int ((rdNum (txAt w) p).1)), (0, .ref (c 0)), (1, .ref (a1 0)), (2, .ref t), (3, .int (txAt w u.2)), (4, .int (nI (wantN (txAt w u.2)))), (5, .int (nI n))]) X dX2_readItem_40 (by decide) rfl ?_
        refine g_iload X 6 dX2_readItem_42 rfl ?_
        refine g_iload X 5 dX2_readItem_44 rfl ?_
        refine g_iconst (v := (nI 1)) X dX2_readItem_46 rfl ?_
        refine g_isubN X (by omega) dX2_readItem_47 ?_
        refine g_icmp_ne (tgt := 56) X dX2_readItem_48 (by decide) (fun c_48 => ?_) (fun c_48 => ?_)
        · have f_c_48 : ¬ n = (wantN (txAt w u.2)) - 1 := n_ne (by omega) (by omega) c_48
          refine g_bipush (v := (nI 44)) X dX2_readItem_56 rfl ?_
          refine g_istore (lv' := [(7, .int (nI 44)), (6, .int ((rdNum (txAt w) p).1)), (0, .ref (c 0)), (1, .ref (a1 0)), (2, .ref t), (3, .int (txAt w u.2)), (4, .int (nI (wantN (txAt w u.2)))), (5, .int (nI n))]) X dX2_readItem_58 (by decide) rfl ?_
          refine g_iload X 1 dX2_readItem_60 rfl ?_
          refine g_if_lt (tgt := 78) X dX2_readItem_62 (by decide) (fun c_62 => ?_) (fun c_62 => ?_)
          · refine g_iconst (v := (nI 0)) X dX2_readItem_78 rfl ?_
            exact g_zretv (r := (nI 0)) X hx rfl (by rw [rdItem, he, show wantN (txAt w u.2) - n = (wantN (txAt w u.2) - (n + 1)) + 1 by omega, rdLoop]; simp [mark, c_32, f_c_32, fn_c_32, c_48, f_c_48, c_62]; try rfl) (by rw [rdItem, he, show wantN (txAt w u.2) - n = (wantN (txAt w u.2) - (n + 1)) + 1 by omega, rdLoop]; simp [mark, c_32, f_c_32, fn_c_32, c_48, f_c_48, c_62]) dX2_readItem_79
          · refine g_aload_n X 3 dX2_readItem_65 rfl ?_
            refine g_aload_n X 2 dX2_readItem_66 rfl ?_
            refine g_getf (v := .int (nI ((rdNum (txAt w) p).2))) X fs_X2_20 0 rfl rfl dX2_readItem_67 ?_
            refine g_callVr (st2 := [.int (txAt w ((rdNum (txAt w) p).2))]) (q0 := 0) X (c_X5_letterAt E a1 w ((rdNum (txAt w) p).2) (by first | assumption | omega) (by first | assumption | omega)) cs_X2_34 rfl [1] [0, 2, 3, 4] 5 rfl (by decide) rfl rfl rfl rfl rfl (Nat.le_of_ble_eq_true rfl) dX2_readItem_70 rfl ?_
            refine g_iload X 0 dX2_readItem_73 rfl ?_
            refine g_icmp_eq (tgt := 80) X dX2_readItem_75 (by decide) (fun c_75 => ?_) (fun c_75 => ?_)
            · refine g_aload_n X 2 dX2_readItem_80 rfl ?_
              refine g_getf (v := .ref (c 1)) X fs_X2_9 0 rfl rfl dX2_readItem_81 ?_
              refine g_iload X 7 dX2_readItem_84 rfl ?_
              refine g_iload X 1 dX2_readItem_86 rfl ?_
              refine g_iast (ws' := [wRd E c (upd f n ((rdNum (txAt w) p).1), ((rdNum (txAt w) p).2)), wTx E a1 w, wTw E t a b (tR v) (tN v), wSv E a (tA v), wSv E b (tB v)].flatten) X 1 rfl n (ix_nI (by omega) (by decide)) rfl dX2_readItem_88 ?_
              refine g_aload_n X 2 dX2_readItem_89 rfl ?_
              refine g_dup X dX2_readItem_90 rfl ?_
              refine g_getf (v := .int (nI ((rdNum (txAt w) p).2))) X fs_X2_20 0 rfl rfl dX2_readItem_91 ?_
              refine g_iconst (v := (nI 1)) X dX2_readItem_94 rfl ?_
              refine g_iaddN X dX2_readItem_95 ?_
              refine g_putf (ws' := [wRd E c (upd f n ((rdNum (txAt w) p).1), ((rdNum (txAt w) p).2) + 1), wTx E a1 w, wTw E t a b (tR v) (tN v), wSv E a (tA v), wSv E b (tB v)].flatten) X ps_X2_20 0 rfl rfl rfl (Nat.le_of_ble_eq_true rfl) rfl dX2_readItem_96 ?_
              refine g_iincN (lv' := [(5, .int (nI (n + 1))), (7, .int (nI 44)), (6, .int ((rdNum (txAt w) p).1)), (0, .ref (c 0)), (1, .ref (a1 0)), (2, .ref t), (3, .int (txAt w u.2)), (4, .int (nI (wantN (txAt w u.2))))]) X 7 dX2_readItem_99 rfl (by decide) rfl ?_
              refine g_goto (tgt := 28) X dX2_readItem_102 (by decide) ?_
              refine GG.lv [3, 4, 5, 6, 7, 0] rfl ?_
              exact ih_28 (n + 1) ((rdNum (txAt w) p).2 + 1) (upd f n (rdNum (txAt w) p).1) (by omega) (by omega) (by rw [he, show wantN (txAt w u.2) - n = (wantN (txAt w u.2) - (n + 1)) + 1 by omega, rdLoop]; simp [mark, c_32, f_c_32, fn_c_32, c_48, f_c_48, c_62, c_75]) (by omega) (nI (n + 1)) (by rfl)
            · refine g_iconst (v := (nI 0)) X dX2_readItem_78 rfl ?_
              exact g_zretv (r := (nI 0)) X hx rfl (by rw [rdItem, he, show wantN (txAt w u.2) - n = (wantN (txAt w u.2) - (n + 1)) + 1 by omega, rdLoop]; simp [mark, c_32, f_c_32, fn_c_32, c_48, f_c_48, c_62, c_75]; try rfl) (by rw [rdItem, he, show wantN (txAt w u.2) - n = (wantN (txAt w u.2) - (n + 1)) + 1 by omega, rdLoop]; simp [mark, c_32, f_c_32, fn_c_32, c_48, f_c_48, c_62, c_75]) dX2_readItem_79
        · have f_c_48 : n = (wantN (txAt w u.2)) - 1 := n_eq (by omega) (by omega) c_48
          refine g_bipush (v := (nI 59)) X dX2_readItem_51 rfl ?_
          refine g_goto (tgt := 58) X dX2_readItem_53 (by decide) ?_
          refine g_istore (lv' := [(7, .int (nI 59)), (6, .int ((rdNum (txAt w) p).1)), (0, .ref (c 0)), (1, .ref (a1 0)), (2, .ref t), (3, .int (txAt w u.2)), (4, .int (nI (wantN (txAt w u.2)))), (5, .int (nI n))]) X dX2_readItem_58 (by decide) rfl ?_
          refine g_iload X 1 dX2_readItem_60 rfl ?_
          refine g_if_lt (tgt := 78) X dX2_readItem_62 (by decide) (fun c_62 => ?_) (fun c_62 => ?_)
          · refine g_iconst (v := (nI 0)) X dX2_readItem_78 rfl ?_
            exact g_zretv (r := (nI 0)) X hx rfl (by rw [rdItem, he, show wantN (txAt w u.2) - n = (wantN (txAt w u.2) - (n + 1)) + 1 by omega, rdLoop]; simp [mark, c_32, f_c_32, fn_c_32, c_48, f_c_48, c_62]; try rfl) (by rw [rdItem, he, show wantN (txAt w u.2) - n = (wantN (txAt w u.2) - (n + 1)) + 1 by omega, rdLoop]; simp [mark, c_32, f_c_32, fn_c_32, c_48, f_c_48, c_62]) dX2_readItem_79
          · refine g_aload_n X 3 dX2_readItem_65 rfl ?_
            refine g_aload_n X 2 dX2_readItem_66 rfl ?_
            refine g_getf (v := .int (nI ((rdNum (txAt w) p).2))) X fs_X2_20 0 rfl rfl dX2_readItem_67 ?_
            refine g_callVr (st2 := [.int (txAt w ((rdNum (txAt w) p).2))]) (q0 := 0) X (c_X5_letterAt E a1 w ((rdNum (txAt w) p).2) (by first | assumption | omega) (by first | assumption | omega)) cs_X2_34 rfl [1] [0, 2, 3, 4] 5 rfl (by decide) rfl rfl rfl rfl rfl (Nat.le_of_ble_eq_true rfl) dX2_readItem_70 rfl ?_
            refine g_iload X 0 dX2_readItem_73 rfl ?_
            refine g_icmp_eq (tgt := 80) X dX2_readItem_75 (by decide) (fun c_75 => ?_) (fun c_75 => ?_)
            · refine g_aload_n X 2 dX2_readItem_80 rfl ?_
              refine g_getf (v := .ref (c 1)) X fs_X2_9 0 rfl rfl dX2_readItem_81 ?_
              refine g_iload X 7 dX2_readItem_84 rfl ?_
              refine g_iload X 1 dX2_readItem_86 rfl ?_
              refine g_iast (ws' := [wRd E c (upd f n ((rdNum (txAt w) p).1), ((rdNum (txAt w) p).2)), wTx E a1 w, wTw E t a b (tR v) (tN v), wSv E a (tA v), wSv E b (tB v)].flatten) X 1 rfl n (ix_nI (by omega) (by decide)) rfl dX2_readItem_88 ?_
              refine g_aload_n X 2 dX2_readItem_89 rfl ?_
              refine g_dup X dX2_readItem_90 rfl ?_
              refine g_getf (v := .int (nI ((rdNum (txAt w) p).2))) X fs_X2_20 0 rfl rfl dX2_readItem_91 ?_
              refine g_iconst (v := (nI 1)) X dX2_readItem_94 rfl ?_
              refine g_iaddN X dX2_readItem_95 ?_
              refine g_putf (ws' := [wRd E c (upd f n ((rdNum (txAt w) p).1), ((rdNum (txAt w) p).2) + 1), wTx E a1 w, wTw E t a b (tR v) (tN v), wSv E a (tA v), wSv E b (tB v)].flatten) X ps_X2_20 0 rfl rfl rfl (Nat.le_of_ble_eq_true rfl) rfl dX2_readItem_96 ?_
              refine g_iincN (lv' := [(5, .int (nI (n + 1))), (7, .int (nI 59)), (6, .int ((rdNum (txAt w) p).1)), (0, .ref (c 0)), (1, .ref (a1 0)), (2, .ref t), (3, .int (txAt w u.2)), (4, .int (nI (wantN (txAt w u.2))))]) X 7 dX2_readItem_99 rfl (by decide) rfl ?_
              refine g_goto (tgt := 28) X dX2_readItem_102 (by decide) ?_
              refine GG.lv [3, 4, 5, 6, 7, 0] rfl ?_
              exact ih_28 (n + 1) ((rdNum (txAt w) p).2 + 1) (upd f n (rdNum (txAt w) p).1) (by omega) (by omega) (by rw [he, show wantN (txAt w u.2) - n = (wantN (txAt w u.2) - (n + 1)) + 1 by omega, rdLoop]; simp [mark, c_32, f_c_32, fn_c_32, c_48, f_c_48, c_62, c_75]) (by omega) (nI (n + 1)) (by rfl)
            · refine g_iconst (v := (nI 0)) X dX2_readItem_78 rfl ?_
              exact g_zretv (r := (nI 0)) X hx rfl (by rw [rdItem, he, show wantN (txAt w u.2) - n = (wantN (txAt w u.2) - (n + 1)) + 1 by omega, rdLoop]; simp [mark, c_32, f_c_32, fn_c_32, c_48, f_c_48, c_62, c_75]; try rfl) (by rw [rdItem, he, show wantN (txAt w u.2) - n = (wantN (txAt w u.2) - (n + 1)) + 1 by omega, rdLoop]; simp [mark, c_32, f_c_32, fn_c_32, c_48, f_c_48, c_62, c_75]) dX2_readItem_79
  refine GG.lv [3, 4, 5, 2, 1, 0] rfl ?_
  exact L_28 (wantN (txAt w u.2) + 1) 0 (u.2 + 1) u.1 (by omega) (by omega) (rfl) (by omega) (nI 0) (by rfl)
