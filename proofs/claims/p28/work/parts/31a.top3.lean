set_option maxHeartbeats 4000000 in
set_option maxRecDepth 100000 in
theorem c_X9_named (E : GE) (O : Nat → Nat → Nat) (v : TV) (P : Nat) (B : Nat → Nat → Int32) (C : Nat → Nat → Int32) (M : Nat → Int32) (N : Nat → Int32) (wv : WY) (s : Int32) (hv : okT v) : CT E m_X9_named [.ref (O 0 0), .int s] ([wTS E O, wTw E (O 3 0) (O 4) (O 5) (tR v) (tN v), wSv E (O 4) (tA v), wSv E (O 5) (tB v), wMo E (O 12) (O 13) (O 14) P, wRw E (O 13) B, wRw E (O 14) C, wAr E (O 12 3) 8 M, wAr E (O 12 4) 8 N, wWy E (O 15) wv].flatten) (some (.int (if hasS v (nI 0) s then (if sNm (tA v) s.toNatClampNeg = 0 then cmL (tB v) (exW v (mkP v (B, C) M N).2.1 s.toNatClampNeg wv) (exW v (mkP v (B, C) M N).2.1 s.toNatClampNeg wv).2 0 (nI 0) else sNm (tA v) s.toNatClampNeg) else -1))) ([wTS E O, wTw E (O 3 0) (O 4) (O 5) (tR v) (tN v), wSv E (O 4) (tA v), wSv E (O 5) (tB v), wMo E (O 12) (O 13) (O 14) (if hasS v (nI 0) s && decide (sNm (tA v) s.toNatClampNeg = 0) then (mkP v (B, C) M N).1 else P), wRw E (O 13) (if hasS v (nI 0) s && decide (sNm (tA v) s.toNatClampNeg = 0) then (mkB v (B, C)).1 else B), wRw E (O 14) (if hasS v (nI 0) s && decide (sNm (tA v) s.toNatClampNeg = 0) then (mkB v (B, C)).2 else C), wAr E (O 12 3) 8 (if hasS v (nI 0) s && decide (sNm (tA v) s.toNatClampNeg = 0) then (mkP v (B, C) M N).2.1 else M), wAr E (O 12 4) 8 (if hasS v (nI 0) s && decide (sNm (tA v) s.toNatClampNeg = 0) then (mkP v (B, C) M N).2.2 else N), wWy E (O 15) (if hasS v (nI 0) s && decide (sNm (tA v) s.toNatClampNeg = 0) then exW v (mkP v (B, C) M N).2.1 s.toNatClampNeg wv else wv)].flatten) := by
  refine CT.intro (by decide +kernel) (Nat.le_of_ble_eq_true rfl) (fun Γ X hx => ?_)
  refine GG.lv [0, 1] (lv' := [(0, .ref (O 0 0)), (1, .int s)]) rfl ?_
  have hA : okS (tA v) := hv.1
  have hB : okS (tB v) := hv.2.1
  have hv1 : sM (tA v) ≤ 8 := hA.1
  have hv2 : sS (tA v) ≤ 8 := hA.2
  have hv3 : sM (tB v) ≤ 8 := hB.1
  have hv4 : sS (tB v) ≤ 8 := hB.2
  have hv5 : tN v ≤ 3 := hv.2.2
  refine g_aload_n X 0 dX9_named_0 rfl ?_
  refine g_iconst (v := (nI 0)) X dX9_named_1 rfl ?_
  refine g_iload_n X 1 dX9_named_2 rfl ?_
  refine g_callVr (st2 := [.int (b2i (hasS v (nI 0) s))]) (q0 := 0) X (c_X9_hasStreet E O v (nI 0) s (by first | assumption | omega)) cs_X9_128 rfl [0, 1, 2, 3] [4, 5, 6, 7, 8, 9] 10 rfl (by decide) rfl rfl rfl rfl rfl (Nat.le_of_ble_eq_true rfl) dX9_named_3 rfl ?_
  refine g_bif_ne (tgt := 11) X dX9_named_6 (by decide) (fun c_6 => ?_) (fun c_6 => ?_)
  · obtain ⟨j, hj, rfl⟩ := hasS_0 hv c_6
    refine g_aload_n X 0 dX9_named_11 rfl ?_
    refine g_getf (v := .ref (O 3 0)) X fs_X9_74 0 rfl rfl dX9_named_12 ?_
    refine g_iconst (v := (nI 0)) X dX9_named_15 rfl ?_
    refine g_callVr (st2 := [.ref ((O 4) 0)]) (q0 := 0) X (c_X6_surveyOf_0 E (O 3 0) (O 4) (O 5) v) cs_X9_92 rfl [1, 2, 3] [0, 4, 5, 6, 7, 8, 9] 10 rfl (by decide) rfl rfl rfl rfl rfl (Nat.le_of_ble_eq_true rfl) dX9_named_16 rfl ?_
    refine g_iload_n X 1 dX9_named_19 rfl ?_
    refine g_callVr (st2 := [.int (sNm (tA v) j)]) (q0 := 0) X (c_X4_nameOf E (O 4) (tA v) j (by first | assumption | omega) (by first | assumption | omega)) cs_X9_137 rfl [2] [0, 1, 3, 4, 5, 6, 7, 8, 9] 10 rfl (by decide) rfl rfl rfl rfl rfl (Nat.le_of_ble_eq_true rfl) dX9_named_20 rfl ?_
    refine g_istore_n (lv' := [(2, .int (sNm (tA v) j)), (0, .ref (O 0 0)), (1, .int (nI j))]) X dX9_named_23 (by decide) rfl ?_
    refine g_iload_n X 0 dX9_named_24 rfl ?_
    refine g_if_eq (tgt := 30) X dX9_named_25 (by decide) (fun c_25 => ?_) (fun c_25 => ?_)
    · refine g_aload_n X 1 dX9_named_30 rfl ?_
      refine g_getf (v := .ref (O 12 0)) X fs_X9_52 0 rfl rfl dX9_named_31 ?_
      refine g_aload_n X 1 dX9_named_34 rfl ?_
      refine g_getf (v := .ref (O 3 0)) X fs_X9_74 0 rfl rfl dX9_named_35 ?_
      refine g_callV (st2 := []) (S' := [wTS E O, wTw E (O 3 0) (O 4) (O 5) (tR v) (tN v), wSv E (O 4) (tA v), wSv E (O 5) (tB v), wMo E (O 12) (O 13) (O 14) ((puAll false (belAll v (B, C)).1 M N).1), wRw E (O 13) ((belAll v (B, C)).1), wRw E (O 14) ((belAll v (B, C)).2), wAr E (O 12 3) 8 ((puAll false (belAll v (B, C)).1 M N).2.1), wAr E (O 12 4) 8 ((puAll false (belAll v (B, C)).1 M N).2.2), wWy E (O 15) wv]) (q0 := 0) X (c_X0_make E (O 12) (O 13) (O 14) P B C M N (O 3 0) (O 4) (O 5) v (by first | assumption | omega)) cs_X9_195 rfl [4, 5, 6, 7, 8, 1, 2, 3] [0, 9] 10 rfl rfl (by decide) [wTS E O, wWy E (O 15) wv] rfl rfl rfl rfl (by simp only [List.map_cons, List.map_nil, fsAr, fsMo, fsRw, fsSv, fsTS, fsTw, fsWy]) rfl rfl rfl rfl (Nat.le_of_ble_eq_true rfl) dX9_named_38 rfl ?_
      refine g_aload_n X 1 dX9_named_41 rfl ?_
      refine g_aload_n X 1 dX9_named_42 rfl ?_
      refine g_getf (v := .ref (O 3 0)) X fs_X9_74 0 rfl rfl dX9_named_43 ?_
      refine g_iload_n X 2 dX9_named_46 rfl ?_
      refine g_callV (st2 := []) (S' := [wTS E O, wTw E (O 3 0) (O 4) (O 5) (tR v) (tN v), wSv E (O 4) (tA v), wSv E (O 5) (tB v), wMo E (O 12) (O 13) (O 14) ((puAll false (belAll v (B, C)).1 M N).1), wRw E (O 13) ((belAll v (B, C)).1), wRw E (O 14) ((belAll v (B, C)).2), wAr E (O 12 3) 8 ((puAll false (belAll v (B, C)).1 M N).2.1), wAr E (O 12 4) 8 ((puAll false (belAll v (B, C)).1 M N).2.2), wWy E (O 15) (exW v ((puAll false (belAll v (B, C)).1 M N).2.1) j wv)]) (q0 := 0) X (c_X9_express E O (O 3 0) (O 4) (O 5) v ((puAll false (belAll v (B, C)).1 M N).1) ((puAll false (belAll v (B, C)).1 M N).2.1) wv j (by first | assumption | omega) (by first | assumption | omega)) cs_X9_207 rfl [0, 1, 2, 3, 4, 7, 9] [5, 6, 8] 10 rfl rfl (by decide) [wRw E (O 13) ((belAll v (B, C)).1), wRw E (O 14) ((belAll v (B, C)).2), wAr E (O 12 4) 8 ((puAll false (belAll v (B, C)).1 M N).2.2)] rfl rfl rfl rfl (by simp only [List.map_cons, List.map_nil, fsAr, fsMo, fsRw, fsSv, fsTS, fsTw, fsWy]) rfl rfl rfl rfl (Nat.le_of_ble_eq_true rfl) dX9_named_47 rfl ?_
      refine g_aload_n X 1 dX9_named_50 rfl ?_
      refine g_getf (v := .ref (O 15 0)) X fs_X9_59 0 rfl rfl dX9_named_51 ?_
      refine g_aload_n X 1 dX9_named_54 rfl ?_
      refine g_getf (v := .ref (O 3 0)) X fs_X9_74 0 rfl rfl dX9_named_55 ?_
      refine g_iconst (v := (nI 1)) X dX9_named_58 rfl ?_
      refine g_callVr (st2 := [.ref ((O 5) 0), .ref (O 15 0)]) (q0 := 0) X (c_X6_surveyOf_1 E (O 3 0) (O 4) (O 5) v) cs_X9_92 rfl [1, 2, 3] [0, 4, 5, 6, 7, 8, 9] 10 rfl (by decide) rfl rfl rfl rfl rfl (Nat.le_of_ble_eq_true rfl) dX9_named_59 rfl ?_
      refine g_callVr (st2 := [.int (cmL (tB v) (exW v ((puAll false (belAll v (B, C)).1 M N).2.1) j wv) (exW v ((puAll false (belAll v (B, C)).1 M N).2.1) j wv).2 0 (nI 0))]) (q0 := 0) X (c_X8_commonName E (O 15) (exW v ((puAll false (belAll v (B, C)).1 M N).2.1) j wv) (O 5) (tB v) (by first | assumption | omega) (exW_3 _ _ _ _) (wyFind_ok _ _ _ _).2) cs_X9_219 rfl [9, 3] [0, 1, 2, 4, 5, 6, 7, 8] 10 rfl (by decide) rfl rfl rfl rfl rfl (Nat.le_of_ble_eq_true rfl) dX9_named_62 rfl ?_
      exact g_iretv (r := (cmL (tB v) (exW v ((puAll false (belAll v (B, C)).1 M N).2.1) j wv) (exW v ((puAll false (belAll v (B, C)).1 M N).2.1) j wv).2 0 (nI 0))) X hx rfl (by simp [mkP, nI_clamp (show j < 2 ^ 31 by omega), c_6, c_25]) (by simp [mkB, mkP, nI_clamp (show j < 2 ^ 31 by omega), c_6, c_25]) dX9_named_65
    · refine g_iload_n X 0 dX9_named_28 rfl ?_
      exact g_iretv (r := (sNm (tA v) j)) X hx rfl (by simp [mkP, nI_clamp (show j < 2 ^ 31 by omega), c_6, c_25]) (by simp [mkB, mkP, nI_clamp (show j < 2 ^ 31 by omega), c_6, c_25]) dX9_named_29
  · refine g_iconst (v := (-1)) X dX9_named_9 rfl ?_
    exact g_iretv (r := (-1)) X hx rfl (by simp [c_6]) (by simp [c_6]) dX9_named_10
