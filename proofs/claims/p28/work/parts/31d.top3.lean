set_option maxHeartbeats 4000000 in
set_option maxRecDepth 100000 in
theorem c_X9_numberOfWhole (E : GE) (O : Nat → Nat → Nat) (t : Nat) (a : Nat → Nat) (b : Nat → Nat) (v : TV) (P : Nat) (B : Nat → Nat → Int32) (C : Nat → Nat → Int32) (M : Nat → Int32) (N : Nat → Int32) (f0 : Nat → Int32) (g0 : Nat → Int32) (wv : WY) (q : Int32) (hv : okT v) : CT E m_X9_numberOfWhole [.ref (O 0 0), .ref t, .int q] ([wTS E O, wTw E t a b (tR v) (tN v), wSv E a (tA v), wSv E b (tB v), wMo E (O 12) (O 13) (O 14) P, wRw E (O 13) B, wRw E (O 14) C, wAr E (O 12 3) 8 M, wAr E (O 12 4) 8 N, wAr E (O 12 5) 8 f0, wAr E (O 12 6) 8 g0, wWy E (O 15) wv].flatten) (some (.int (whlV v (mkP v (B, C) M N) (smB (mkB v (B, C)).1 (mkP v (B, C) M N).2.1 f0 g0) (xsN v (mkP v (B, C) M N).2.1 (sS (tA v)) wv).1 q))) ([wTS E O, wTw E t a b (tR v) (tN v), wSv E a (tA v), wSv E b (tB v), wMo E (O 12) (O 13) (O 14) (if inR q (nI 0) (nI 5) then (mkP v (B, C) M N).1 else P), wRw E (O 13) (if inR q (nI 0) (nI 5) then (mkB v (B, C)).1 else B), wRw E (O 14) (if inR q (nI 0) (nI 5) then (mkB v (B, C)).2 else C), wAr E (O 12 3) 8 (if inR q (nI 0) (nI 5) then (mkP v (B, C) M N).2.1 else M), wAr E (O 12 4) 8 (if inR q (nI 0) (nI 5) then (mkP v (B, C) M N).2.2 else N), wAr E (O 12 5) 8 (if inR q (nI 0) (nI 5) && decide (q = nI 2) then (puAll true (mkB v (B, C)).1 f0 g0).2.1 else f0), wAr E (O 12 6) 8 (if inR q (nI 0) (nI 5) && decide (q = nI 2) then (puAll true (mkB v (B, C)).1 f0 g0).2.2 else g0), wWy E (O 15) (if inR q (nI 0) (nI 5) && dq q then (xsN v (mkP v (B, C) M N).2.1 (sS (tA v)) wv).2 else wv)].flatten) := by
  refine CT.intro (by decide +kernel) (Nat.le_of_ble_eq_true rfl) (fun Γ X hx => ?_)
  refine GG.lv [0, 1, 2] (lv' := [(0, .ref (O 0 0)), (1, .ref t), (2, .int q)]) rfl ?_
  have hA : okS (tA v) := hv.1
  have hB : okS (tB v) := hv.2.1
  have hv1 : sM (tA v) ≤ 8 := hA.1
  have hv2 : sS (tA v) ≤ 8 := hA.2
  have hv3 : sM (tB v) ≤ 8 := hB.1
  have hv4 : sS (tB v) ≤ 8 := hB.2
  have hv5 : tN v ≤ 3 := hv.2.2
  refine g_iload_n X 2 dX9_numberOfWhole_0 rfl ?_
  refine g_iconst (v := (nI 0)) X dX9_numberOfWhole_1 rfl ?_
  refine g_iconst (v := (nI 5)) X dX9_numberOfWhole_2 rfl ?_
  refine g_callSP (st2 := [.int (b2i (inR q (nI 0) (nI 5)))]) (ws' := [wTS E O, wTw E t a b (tR v) (tN v), wSv E a (tA v), wSv E b (tB v), wMo E (O 12) (O 13) (O 14) P, wRw E (O 13) B, wRw E (O 14) C, wAr E (O 12 3) 8 M, wAr E (O 12 4) 8 N, wAr E (O 12 5) 8 f0, wAr E (O 12 6) 8 g0, wWy E (O 15) wv].flatten) (wr := [wTS E O, wTw E t a b (tR v) (tN v), wSv E a (tA v), wSv E b (tB v), wMo E (O 12) (O 13) (O 14) P, wRw E (O 13) B, wRw E (O 14) C, wAr E (O 12 3) 8 M, wAr E (O 12 4) 8 N, wAr E (O 12 5) 8 f0, wAr E (O 12 6) 8 g0, wWy E (O 15) wv].flatten) X (c_X9_isWithin E q (nI 0) (nI 5)) cs_X9_140 rfl (List.Perm.refl _) rfl (List.Perm.refl _) rfl rfl (Nat.le_of_ble_eq_true rfl) dX9_numberOfWhole_3 rfl ?_
  refine g_bif_ne (tgt := 11) X dX9_numberOfWhole_6 (by decide) (fun c_6 => ?_) (fun c_6 => ?_)
  · refine g_aload_n X 0 dX9_numberOfWhole_11 rfl ?_
    refine g_getf (v := .ref (O 12 0)) X fs_X9_52 0 rfl rfl dX9_numberOfWhole_12 ?_
    refine g_aload_n X 1 dX9_numberOfWhole_15 rfl ?_
    refine g_callV (st2 := []) (S' := [wTS E O, wTw E t a b (tR v) (tN v), wSv E a (tA v), wSv E b (tB v), wMo E (O 12) (O 13) (O 14) ((puAll false (belAll v (B, C)).1 M N).1), wRw E (O 13) ((belAll v (B, C)).1), wRw E (O 14) ((belAll v (B, C)).2), wAr E (O 12 3) 8 ((puAll false (belAll v (B, C)).1 M N).2.1), wAr E (O 12 4) 8 ((puAll false (belAll v (B, C)).1 M N).2.2), wAr E (O 12 5) 8 f0, wAr E (O 12 6) 8 g0, wWy E (O 15) wv]) (q0 := 0) X (c_X0_make E (O 12) (O 13) (O 14) P B C M N t a b v (by first | assumption | omega)) cs_X9_195 rfl [4, 5, 6, 7, 8, 1, 2, 3] [0, 9, 10, 11] 12 rfl rfl (by decide) [wTS E O, wAr E (O 12 5) 8 f0, wAr E (O 12 6) 8 g0, wWy E (O 15) wv] rfl rfl rfl rfl (by simp only [List.map_cons, List.map_nil, fsAr, fsMo, fsRw, fsSv, fsTS, fsTw, fsWy]) rfl rfl rfl rfl (Nat.le_of_ble_eq_true rfl) dX9_numberOfWhole_16 rfl ?_
    refine g_iload_n X 2 dX9_numberOfWhole_19 rfl ?_
    by_cases w_20_0 : q = nI 0
    · subst w_20_0
      refine g_tsIn (tgt := 56) X 0 dX9_numberOfWhole_20 rfl (by decide) (by decide) rfl (by decide) ?_
      refine g_aload_n X 0 dX9_numberOfWhole_56 rfl ?_
      refine g_getf (v := .ref (O 12 0)) X fs_X9_52 0 rfl rfl dX9_numberOfWhole_57 ?_
      refine g_callVr (st2 := [.int (nI ((puAll false (belAll v (B, C)).1 M N).1))]) (q0 := 0) X (c_X0_pairs E (O 12) (O 13) (O 14) ((puAll false (belAll v (B, C)).1 M N).1)) cs_X9_280 rfl [4] [0, 1, 2, 3, 5, 6, 7, 8, 9, 10, 11] 12 rfl (by decide) rfl rfl rfl rfl rfl (Nat.le_of_ble_eq_true rfl) dX9_numberOfWhole_60 rfl ?_
      exact g_iretv (r := (nI ((puAll false (belAll v (B, C)).1 M N).1))) X hx rfl (by simp [whlV, mkB, mkP, nI_eq, c_6]) (by simp [mkB, mkP, dq, nI_eq, c_6]) dX9_numberOfWhole_63
    by_cases w_20_1 : q = nI 1
    · subst w_20_1
      refine g_tsIn (tgt := 64) X 1 dX9_numberOfWhole_20 rfl (by decide) (by decide) rfl (by decide) ?_
      refine g_aload_n X 0 dX9_numberOfWhole_64 rfl ?_
      refine g_getf (v := .ref (O 12 0)) X fs_X9_52 0 rfl rfl dX9_numberOfWhole_65 ?_
      refine g_aload_n X 1 dX9_numberOfWhole_68 rfl ?_
      refine g_callVr (st2 := [.int (nI (trAll v ((puAll false (belAll v (B, C)).1 M N).2.1)))]) (q0 := 0) X (c_X0_turnedTriples E (O 12) (O 13) (O 14) ((puAll false (belAll v (B, C)).1 M N).1) ((puAll false (belAll v (B, C)).1 M N).2.1) t a b v (by first | assumption | omega) (okMs_pu hv _ _ _)) cs_X9_283 rfl [4, 7, 1, 2, 3] [0, 5, 6, 8, 9, 10, 11] 12 rfl (by decide) rfl rfl rfl rfl rfl (Nat.le_of_ble_eq_true rfl) dX9_numberOfWhole_69 rfl ?_
      exact g_iretv (r := (nI (trAll v ((puAll false (belAll v (B, C)).1 M N).2.1)))) X hx rfl (by simp [whlV, mkB, mkP, nI_eq, c_6]) (by simp [mkB, mkP, dq, nI_eq, c_6]) dX9_numberOfWhole_72
    by_cases w_20_2 : q = nI 2
    · subst w_20_2
      refine g_tsIn (tgt := 73) X 2 dX9_numberOfWhole_20 rfl (by decide) (by decide) rfl (by decide) ?_
      refine g_aload_n X 0 dX9_numberOfWhole_73 rfl ?_
      refine g_getf (v := .ref (O 12 0)) X fs_X9_52 0 rfl rfl dX9_numberOfWhole_74 ?_
      refine g_callV (st2 := [.int (b2i ((findF (fun i => decide (¬ ((puAll false (belAll v (B, C)).1 M N).2.1) i = (puAll true ((belAll v (B, C)).1) f0 g0).2.1 i)) 8).isNone))]) (S' := [wTS E O, wTw E t a b (tR v) (tN v), wSv E a (tA v), wSv E b (tB v), wMo E (O 12) (O 13) (O 14) ((puAll false (belAll v (B, C)).1 M N).1), wRw E (O 13) ((belAll v (B, C)).1), wRw E (O 14) ((belAll v (B, C)).2), wAr E (O 12 3) 8 ((puAll false (belAll v (B, C)).1 M N).2.1), wAr E (O 12 4) 8 ((puAll false (belAll v (B, C)).1 M N).2.2), wAr E (O 12 5) 8 ((puAll true ((belAll v (B, C)).1) f0 g0).2.1), wAr E (O 12 6) 8 ((puAll true ((belAll v (B, C)).1) f0 g0).2.2), wWy E (O 15) wv]) (q0 := 0) X (c_X0_isSameExchanged E (O 12) (O 13) (O 14) ((puAll false (belAll v (B, C)).1 M N).1) ((belAll v (B, C)).1) ((puAll false (belAll v (B, C)).1 M N).2.1) f0 g0) cs_X9_287 rfl [4, 5, 7, 9, 10] [0, 1, 2, 3, 6, 8, 11] 12 rfl rfl (by decide) [wTS E O, wTw E t a b (tR v) (tN v), wSv E a (tA v), wSv E b (tB v), wRw E (O 14) ((belAll v (B, C)).2), wAr E (O 12 4) 8 ((puAll false (belAll v (B, C)).1 M N).2.2), wWy E (O 15) wv] rfl rfl rfl rfl (by simp only [List.map_cons, List.map_nil, fsAr, fsMo, fsRw, fsSv, fsTS, fsTw, fsWy]) rfl rfl rfl rfl (Nat.le_of_ble_eq_true rfl) dX9_numberOfWhole_77 rfl ?_
      refine g_bif_eq (tgt := 87) X dX9_numberOfWhole_80 (by decide) (fun c_80 => ?_) (fun c_80 => ?_)
      · refine g_iconst (v := (nI 0)) X dX9_numberOfWhole_87 rfl ?_
        exact g_iretv (r := (nI 0)) X hx rfl (by unfold whlV smB mkB mkP; rw [if_pos c_6, if_neg (by decide), if_neg (by decide), if_pos rfl, c_80]; rfl) (by simp [mkB, mkP, dq, nI_eq, c_6, c_80]) dX9_numberOfWhole_88
      · refine g_iconst (v := (nI 1)) X dX9_numberOfWhole_83 rfl ?_
        refine g_goto (tgt := 88) X dX9_numberOfWhole_84 (by decide) ?_
        exact g_iretv (r := (nI 1)) X hx rfl (by unfold whlV smB mkB mkP; rw [if_pos c_6, if_neg (by decide), if_neg (by decide), if_pos rfl, c_80]; rfl) (by simp [mkB, mkP, dq, nI_eq, c_6, c_80]) dX9_numberOfWhole_88
    by_cases w_20_3 : q = nI 3
    · subst w_20_3
      refine g_tsIn (tgt := 89) X 3 dX9_numberOfWhole_20 rfl (by decide) (by decide) rfl (by decide) ?_
      refine g_aload_n X 0 dX9_numberOfWhole_89 rfl ?_
      refine g_getf (v := .ref (O 12 0)) X fs_X9_52 0 rfl rfl dX9_numberOfWhole_90 ?_
      refine g_aload_n X 1 dX9_numberOfWhole_93 rfl ?_
      refine g_iconst (v := (nI 0)) X dX9_numberOfWhole_94 rfl ?_
      refine g_callVr (st2 := [.int (loneI ((puAll false (belAll v (B, C)).1 M N).2.1) (sM (tA v)))]) (q0 := 0) X (c_X0_unmatched_0 E (O 12) (O 13) (O 14) ((puAll false (belAll v (B, C)).1 M N).1) ((puAll false (belAll v (B, C)).1 M N).2.1) t a b v (by first | assumption | omega)) cs_X9_290 rfl [4, 7, 1, 2, 3] [0, 5, 6, 8, 9, 10, 11] 12 rfl (by decide) rfl rfl rfl rfl rfl (Nat.le_of_ble_eq_true rfl) dX9_numberOfWhole_95 rfl ?_
      exact g_iretv (r := (loneI ((puAll false (belAll v (B, C)).1 M N).2.1) (sM (tA v)))) X hx rfl (by simp [whlV, mkB, mkP, nI_eq, c_6]) (by simp [mkB, mkP, dq, nI_eq, c_6]) dX9_numberOfWhole_98
    by_cases w_20_4 : q = nI 4
    · subst w_20_4
      refine g_tsIn (tgt := 99) X 4 dX9_numberOfWhole_20 rfl (by decide) (by decide) rfl (by decide) ?_
      refine g_aload_n X 0 dX9_numberOfWhole_99 rfl ?_
      refine g_getf (v := .ref (O 12 0)) X fs_X9_52 0 rfl rfl dX9_numberOfWhole_100 ?_
      refine g_aload_n X 1 dX9_numberOfWhole_103 rfl ?_
      refine g_iconst (v := (nI 1)) X dX9_numberOfWhole_104 rfl ?_
      refine g_callVr (st2 := [.int (loneI ((puAll false (belAll v (B, C)).1 M N).2.2) (sM (tB v)))]) (q0 := 0) X (c_X0_unmatched_1 E (O 12) (O 13) (O 14) ((puAll false (belAll v (B, C)).1 M N).1) ((puAll false (belAll v (B, C)).1 M N).2.2) t a b v (by first | assumption | omega)) cs_X9_290 rfl [4, 8, 1, 2, 3] [0, 5, 6, 7, 9, 10, 11] 12 rfl (by decide) rfl rfl rfl rfl rfl (Nat.le_of_ble_eq_true rfl) dX9_numberOfWhole_105 rfl ?_
      exact g_iretv (r := (loneI ((puAll false (belAll v (B, C)).1 M N).2.2) (sM (tB v)))) X hx rfl (by simp [whlV, mkB, mkP, nI_eq, c_6]) (by simp [mkB, mkP, dq, nI_eq, c_6]) dX9_numberOfWhole_108
    refine g_tsOut (tgt := 109) X dX9_numberOfWhole_20 (by have t0 := lv_neT w_20_0 (a := 0) rfl; have t1 := lv_neT w_20_1 (a := 1) rfl; have t2 := lv_neT w_20_2 (a := 2) rfl; have t3 := lv_neT w_20_3 (a := 3) rfl; have t4 := lv_neT w_20_4 (a := 4) rfl; omega) (by decide) ?_
    refine g_aload_n X 0 dX9_numberOfWhole_109 rfl ?_
    refine g_aload_n X 1 dX9_numberOfWhole_110 rfl ?_
    refine g_callV (st2 := [.int (nI ((xsN v ((puAll false (belAll v (B, C)).1 M N).2.1) (sS (tA v)) wv).1))]) (S' := [wTS E O, wTw E t a b (tR v) (tN v), wSv E a (tA v), wSv E b (tB v), wMo E (O 12) (O 13) (O 14) ((puAll false (belAll v (B, C)).1 M N).1), wRw E (O 13) ((belAll v (B, C)).1), wRw E (O 14) ((belAll v (B, C)).2), wAr E (O 12 3) 8 ((puAll false (belAll v (B, C)).1 M N).2.1), wAr E (O 12 4) 8 ((puAll false (belAll v (B, C)).1 M N).2.2), wAr E (O 12 5) 8 f0, wAr E (O 12 6) 8 g0, wWy E (O 15) ((xsN v ((puAll false (belAll v (B, C)).1 M N).2.1) (sS (tA v)) wv).2)]) (q0 := 0) X (c_X9_expressedStreets E O t a b v ((puAll false (belAll v (B, C)).1 M N).1) ((puAll false (belAll v (B, C)).1 M N).2.1) wv (by first | assumption | omega)) cs_X9_293 rfl [0, 1, 2, 3, 4, 7, 11] [5, 6, 8, 9, 10] 12 rfl rfl (by decide) [wRw E (O 13) ((belAll v (B, C)).1), wRw E (O 14) ((belAll v (B, C)).2), wAr E (O 12 4) 8 ((puAll false (belAll v (B, C)).1 M N).2.2), wAr E (O 12 5) 8 f0, wAr E (O 12 6) 8 g0] rfl rfl rfl rfl (by simp only [List.map_cons, List.map_nil, fsAr, fsMo, fsRw, fsSv, fsTS, fsTw, fsWy]) rfl rfl rfl rfl (Nat.le_of_ble_eq_true rfl) dX9_numberOfWhole_111 rfl ?_
    exact g_iretv (r := (nI ((xsN v ((puAll false (belAll v (B, C)).1 M N).2.1) (sS (tA v)) wv).1))) X hx rfl (by simp [whlV, mkB, mkP, nI_eq, c_6, w_20_0, w_20_1, w_20_2, w_20_3, w_20_4]) (by simp [mkB, mkP, dq, nI_eq, c_6, w_20_0, w_20_1, w_20_2, w_20_3, w_20_4]) dX9_numberOfWhole_114
  · refine g_iconst (v := (-1)) X dX9_numberOfWhole_9 rfl ?_
    exact g_iretv (r := (-1)) X hx rfl (by simp [whlV, mkB, mkP, nI_eq, c_6]) (by simp [mkB, mkP, dq, nI_eq, c_6]) dX9_numberOfWhole_10
