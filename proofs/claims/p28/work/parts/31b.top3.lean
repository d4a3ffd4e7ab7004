set_option maxHeartbeats 4000000 in
set_option maxRecDepth 100000 in
theorem c_X9_comes (E : GE) (O : Nat → Nat → Nat) (v : TV) (P : Nat) (B : Nat → Nat → Int32) (C : Nat → Nat → Int32) (M : Nat → Int32) (N : Nat → Int32) (uv : TR) (i : Int32) (q : Int32) (hv : okT v) : CT E m_X9_comes [.ref (O 0 0), .int i, .int q] ([wTS E O, wTw E (O 3 0) (O 4) (O 5) (tR v) (tN v), wSv E (O 4) (tA v), wSv E (O 5) (tB v), wMo E (O 12) (O 13) (O 14) P, wRw E (O 13) B, wRw E (O 14) C, wAr E (O 12 3) 8 M, wAr E (O 12 4) 8 N, wTr E (O 16 0) uv].flatten) (some (.int (if hasM v (nI 0) i then cmsV v (trFind v (mkP v (B, C) M N).2.1 i.toNatClampNeg uv) q else -1))) ([wTS E O, wTw E (O 3 0) (O 4) (O 5) (tR v) (tN v), wSv E (O 4) (tA v), wSv E (O 5) (tB v), wMo E (O 12) (O 13) (O 14) (if hasM v (nI 0) i then (mkP v (B, C) M N).1 else P), wRw E (O 13) (if hasM v (nI 0) i then (mkB v (B, C)).1 else B), wRw E (O 14) (if hasM v (nI 0) i then (mkB v (B, C)).2 else C), wAr E (O 12 3) 8 (if hasM v (nI 0) i then (mkP v (B, C) M N).2.1 else M), wAr E (O 12 4) 8 (if hasM v (nI 0) i then (mkP v (B, C) M N).2.2 else N), wTr E (O 16 0) (if hasM v (nI 0) i then trFind v (mkP v (B, C) M N).2.1 i.toNatClampNeg uv else uv)].flatten) := by
  refine CT.intro (by decide +kernel) (Nat.le_of_ble_eq_true rfl) (fun Γ X hx => ?_)
  refine GG.lv [0, 1, 2] (lv' := [(0, .ref (O 0 0)), (1, .int i), (2, .int q)]) rfl ?_
  have hA : okS (tA v) := hv.1
  have hB : okS (tB v) := hv.2.1
  have hv1 : sM (tA v) ≤ 8 := hA.1
  have hv2 : sS (tA v) ≤ 8 := hA.2
  have hv3 : sM (tB v) ≤ 8 := hB.1
  have hv4 : sS (tB v) ≤ 8 := hB.2
  have hv5 : tN v ≤ 3 := hv.2.2
  refine g_aload_n X 0 dX9_comes_0 rfl ?_
  refine g_iconst (v := (nI 0)) X dX9_comes_1 rfl ?_
  refine g_iload_n X 1 dX9_comes_2 rfl ?_
  refine g_callVr (st2 := [.int (b2i (hasM v (nI 0) i))]) (q0 := 0) X (c_X9_hasMeeting E O v (nI 0) i (by first | assumption | omega)) cs_X9_107 rfl [0, 1, 2, 3] [4, 5, 6, 7, 8, 9] 10 rfl (by decide) rfl rfl rfl rfl rfl (Nat.le_of_ble_eq_true rfl) dX9_comes_3 rfl ?_
  refine g_bif_ne (tgt := 11) X dX9_comes_6 (by decide) (fun c_6 => ?_) (fun c_6 => ?_)
  · obtain ⟨j, hj, rfl⟩ := hasM_0 hv c_6
    refine g_aload_n X 0 dX9_comes_11 rfl ?_
    refine g_getf (v := .ref (O 12 0)) X fs_X9_52 0 rfl rfl dX9_comes_12 ?_
    refine g_aload_n X 0 dX9_comes_15 rfl ?_
    refine g_getf (v := .ref (O 3 0)) X fs_X9_74 0 rfl rfl dX9_comes_16 ?_
    refine g_callV (st2 := []) (S' := [wTS E O, wTw E (O 3 0) (O 4) (O 5) (tR v) (tN v), wSv E (O 4) (tA v), wSv E (O 5) (tB v), wMo E (O 12) (O 13) (O 14) ((puAll false (belAll v (B, C)).1 M N).1), wRw E (O 13) ((belAll v (B, C)).1), wRw E (O 14) ((belAll v (B, C)).2), wAr E (O 12 3) 8 ((puAll false (belAll v (B, C)).1 M N).2.1), wAr E (O 12 4) 8 ((puAll false (belAll v (B, C)).1 M N).2.2), wTr E (O 16 0) uv]) (q0 := 0) X (c_X0_make E (O 12) (O 13) (O 14) P B C M N (O 3 0) (O 4) (O 5) v (by first | assumption | omega)) cs_X9_195 rfl [4, 5, 6, 7, 8, 1, 2, 3] [0, 9] 10 rfl rfl (by decide) [wTS E O, wTr E (O 16 0) uv] rfl rfl rfl rfl (by simp only [List.map_cons, List.map_nil, fsAr, fsMo, fsRw, fsSv, fsTS, fsTr, fsTw]) rfl rfl rfl rfl (Nat.le_of_ble_eq_true rfl) dX9_comes_19 rfl ?_
    refine g_aload_n X 0 dX9_comes_22 rfl ?_
    refine g_getf (v := .ref (O 16 0)) X fs_X9_66 0 rfl rfl dX9_comes_23 ?_
    refine g_aload_n X 0 dX9_comes_26 rfl ?_
    refine g_getf (v := .ref (O 3 0)) X fs_X9_74 0 rfl rfl dX9_comes_27 ?_
    refine g_aload_n X 0 dX9_comes_30 rfl ?_
    refine g_getf (v := .ref (O 12 0)) X fs_X9_52 0 rfl rfl dX9_comes_31 ?_
    refine g_iload_n X 1 dX9_comes_34 rfl ?_
    refine g_callV (st2 := []) (S' := [wTS E O, wTw E (O 3 0) (O 4) (O 5) (tR v) (tN v), wSv E (O 4) (tA v), wSv E (O 5) (tB v), wMo E (O 12) (O 13) (O 14) ((puAll false (belAll v (B, C)).1 M N).1), wRw E (O 13) ((belAll v (B, C)).1), wRw E (O 14) ((belAll v (B, C)).2), wAr E (O 12 3) 8 ((puAll false (belAll v (B, C)).1 M N).2.1), wAr E (O 12 4) 8 ((puAll false (belAll v (B, C)).1 M N).2.2), wTr E (O 16 0) (trFind v ((puAll false (belAll v (B, C)).1 M N).2.1) j uv)]) (q0 := 0) X (c_X7_find E (O 16 0) uv (O 3 0) (O 4) (O 5) v (O 12) (O 13) (O 14) ((puAll false (belAll v (B, C)).1 M N).1) ((puAll false (belAll v (B, C)).1 M N).2.1) j (by first | assumption | omega) (okMs_pu hv _ _ _) (by first | assumption | omega)) cs_X9_223 rfl [9, 1, 2, 3, 4, 7] [0, 5, 6, 8] 10 rfl rfl (by decide) [wTS E O, wRw E (O 13) ((belAll v (B, C)).1), wRw E (O 14) ((belAll v (B, C)).2), wAr E (O 12 4) 8 ((puAll false (belAll v (B, C)).1 M N).2.2)] rfl rfl rfl rfl (by simp only [List.map_cons, List.map_nil, fsAr, fsMo, fsRw, fsSv, fsTS, fsTr, fsTw]) rfl rfl rfl rfl (Nat.le_of_ble_eq_true rfl) dX9_comes_35 rfl ?_
    refine g_iload_n X 2 dX9_comes_38 rfl ?_
    by_cases w_39_0 : q = nI 0
    · subst w_39_0
      refine g_tsIn (tgt := 68) X 0 dX9_comes_39 rfl (by decide) (by decide) rfl (by decide) ?_
      refine g_ldc (v := (nI 100000)) X dX9_comes_68 ks_X9_227 ?_
      refine g_aload_n X 0 dX9_comes_70 rfl ?_
      refine g_getf (v := .ref (O 16 0)) X fs_X9_66 0 rfl rfl dX9_comes_71 ?_
      refine g_callVr (st2 := [.int (redV (trFind v ((puAll false (belAll v (B, C)).1 M N).2.1) j uv).1 (trFind v ((puAll false (belAll v (B, C)).1 M N).2.1) j uv).1 (trFind v ((puAll false (belAll v (B, C)).1 M N).2.1) j uv).2.2.1), .int (nI 100000)]) (q0 := 0) X (c_X7_topOfX E (O 16 0) (trFind v ((puAll false (belAll v (B, C)).1 M N).2.1) j uv)) cs_X9_228 rfl [9] [0, 1, 2, 3, 4, 5, 6, 7, 8] 10 rfl (by decide) rfl rfl rfl rfl rfl (Nat.le_of_ble_eq_true rfl) dX9_comes_74 rfl ?_
      refine g_iadd X dX9_comes_77 ?_
      exact g_iretv (r := ((nI 100000) + (redV (trFind v ((puAll false (belAll v (B, C)).1 M N).2.1) j uv).1 (trFind v ((puAll false (belAll v (B, C)).1 M N).2.1) j uv).1 (trFind v ((puAll false (belAll v (B, C)).1 M N).2.1) j uv).2.2.1))) X hx rfl (by simp [cmsV, mkP, nI_eq, nI_clamp (show j < 2 ^ 31 by omega), c_6]) (by simp [mkB, mkP, nI_clamp (show j < 2 ^ 31 by omega), c_6]) dX9_comes_78
    by_cases w_39_1 : q = nI 1
    · subst w_39_1
      refine g_tsIn (tgt := 79) X 1 dX9_comes_39 rfl (by decide) (by decide) rfl (by decide) ?_
      refine g_aload_n X 0 dX9_comes_79 rfl ?_
      refine g_getf (v := .ref (O 16 0)) X fs_X9_66 0 rfl rfl dX9_comes_80 ?_
      refine g_callVr (st2 := [.int (redV (trFind v ((puAll false (belAll v (B, C)).1 M N).2.1) j uv).2.2.1 (trFind v ((puAll false (belAll v (B, C)).1 M N).2.1) j uv).1 (trFind v ((puAll false (belAll v (B, C)).1 M N).2.1) j uv).2.2.1)]) (q0 := 0) X (c_X7_bottomOfX E (O 16 0) (trFind v ((puAll false (belAll v (B, C)).1 M N).2.1) j uv)) cs_X9_231 rfl [9] [0, 1, 2, 3, 4, 5, 6, 7, 8] 10 rfl (by decide) rfl rfl rfl rfl rfl (Nat.le_of_ble_eq_true rfl) dX9_comes_83 rfl ?_
      exact g_iretv (r := (redV (trFind v ((puAll false (belAll v (B, C)).1 M N).2.1) j uv).2.2.1 (trFind v ((puAll false (belAll v (B, C)).1 M N).2.1) j uv).1 (trFind v ((puAll false (belAll v (B, C)).1 M N).2.1) j uv).2.2.1)) X hx rfl (by simp [cmsV, mkP, nI_eq, nI_clamp (show j < 2 ^ 31 by omega), c_6]) (by simp [mkB, mkP, nI_clamp (show j < 2 ^ 31 by omega), c_6]) dX9_comes_86
    by_cases w_39_2 : q = nI 2
    · subst w_39_2
      refine g_tsIn (tgt := 87) X 2 dX9_comes_39 rfl (by decide) (by decide) rfl (by decide) ?_
      refine g_ldc (v := (nI 100000)) X dX9_comes_87 ks_X9_227 ?_
      refine g_aload_n X 0 dX9_comes_89 rfl ?_
      refine g_getf (v := .ref (O 16 0)) X fs_X9_66 0 rfl rfl dX9_comes_90 ?_
      refine g_callVr (st2 := [.int (redV (trFind v ((puAll false (belAll v (B, C)).1 M N).2.1) j uv).2.1 (trFind v ((puAll false (belAll v (B, C)).1 M N).2.1) j uv).2.1 (trFind v ((puAll false (belAll v (B, C)).1 M N).2.1) j uv).2.2.1), .int (nI 100000)]) (q0 := 0) X (c_X7_topOfY E (O 16 0) (trFind v ((puAll false (belAll v (B, C)).1 M N).2.1) j uv)) cs_X9_234 rfl [9] [0, 1, 2, 3, 4, 5, 6, 7, 8] 10 rfl (by decide) rfl rfl rfl rfl rfl (Nat.le_of_ble_eq_true rfl) dX9_comes_93 rfl ?_
      refine g_iadd X dX9_comes_96 ?_
      exact g_iretv (r := ((nI 100000) + (redV (trFind v ((puAll false (belAll v (B, C)).1 M N).2.1) j uv).2.1 (trFind v ((puAll false (belAll v (B, C)).1 M N).2.1) j uv).2.1 (trFind v ((puAll false (belAll v (B, C)).1 M N).2.1) j uv).2.2.1))) X hx rfl (by simp [cmsV, mkP, nI_eq, nI_clamp (show j < 2 ^ 31 by omega), c_6]) (by simp [mkB, mkP, nI_clamp (show j < 2 ^ 31 by omega), c_6]) dX9_comes_97
    by_cases w_39_3 : q = nI 3
    · subst w_39_3
      refine g_tsIn (tgt := 98) X 3 dX9_comes_39 rfl (by decide) (by decide) rfl (by decide) ?_
      refine g_aload_n X 0 dX9_comes_98 rfl ?_
      refine g_getf (v := .ref (O 16 0)) X fs_X9_66 0 rfl rfl dX9_comes_99 ?_
      refine g_callVr (st2 := [.int (redV (trFind v ((puAll false (belAll v (B, C)).1 M N).2.1) j uv).2.2.1 (trFind v ((puAll false (belAll v (B, C)).1 M N).2.1) j uv).2.1 (trFind v ((puAll false (belAll v (B, C)).1 M N).2.1) j uv).2.2.1)]) (q0 := 0) X (c_X7_bottomOfY E (O 16 0) (trFind v ((puAll false (belAll v (B, C)).1 M N).2.1) j uv)) cs_X9_237 rfl [9] [0, 1, 2, 3, 4, 5, 6, 7, 8] 10 rfl (by decide) rfl rfl rfl rfl rfl (Nat.le_of_ble_eq_true rfl) dX9_comes_102 rfl ?_
      exact g_iretv (r := (redV (trFind v ((puAll false (belAll v (B, C)).1 M N).2.1) j uv).2.2.1 (trFind v ((puAll false (belAll v (B, C)).1 M N).2.1) j uv).2.1 (trFind v ((puAll false (belAll v (B, C)).1 M N).2.1) j uv).2.2.1)) X hx rfl (by simp [cmsV, mkP, nI_eq, nI_clamp (show j < 2 ^ 31 by omega), c_6]) (by simp [mkB, mkP, nI_clamp (show j < 2 ^ 31 by omega), c_6]) dX9_comes_105
    refine g_tsOut (tgt := 106) X dX9_comes_39 (by have t0 := lv_neT w_39_0 (a := 0) rfl; have t1 := lv_neT w_39_1 (a := 1) rfl; have t2 := lv_neT w_39_2 (a := 2) rfl; have t3 := lv_neT w_39_3 (a := 3) rfl; omega) (by decide) ?_
    refine g_iconst (v := (-1)) X dX9_comes_106 rfl ?_
    exact g_iretv (r := (-1)) X hx rfl (by simp [cmsV, mkP, nI_eq, nI_clamp (show j < 2 ^ 31 by omega), c_6, w_39_0, w_39_1, w_39_2, w_39_3]) (by simp [mkB, mkP, nI_clamp (show j < 2 ^ 31 by omega), c_6, w_39_0, w_39_1, w_39_2, w_39_3]) dX9_comes_107
  · refine g_iconst (v := (-1)) X dX9_comes_9 rfl ?_
    exact g_iretv (r := (-1)) X hx rfl (by simp [c_6]) (by simp [c_6]) dX9_comes_10
