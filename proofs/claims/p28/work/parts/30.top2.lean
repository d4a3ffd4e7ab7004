set_option maxHeartbeats 4000000 in
set_option maxRecDepth 100000 in
theorem c_X9_cut (E : GE) (O : Nat → Nat → Nat) (Q : Nat → Nat → Nat → Nat) (v : TV) (oa : PO) (ta : Nat → TV) (s : Int32) (i : Int32) (hv : okT v) (hra : ∀ k, k < 8 → oa.1 k < 8) (hha : oa.2 ≤ 8) : CT E m_X9_cut [.ref (O 0 0), .int s, .int i] ([wTS E O, wTw E (O 3 0) (O 4) (O 5) (tR v) (tN v), wSv E (O 4) (tA v), wSv E (O 5) (tB v), wPo E (O 9) (O 17) 8 oa, wPt E (O 17) (Q 0) (Q 1) 8 ta].flatten) (some (.int (ctV v s i))) ([wTS E O, wTw E (O 3 0) (O 4) (O 5) (tR (if hasS v s i then tPut v s (svDrop (svOf v s) i.toNatClampNeg) else v)) (tN (if hasS v s i then tPut v s (svDrop (svOf v s) i.toNatClampNeg) else v)), wSv E (O 4) (tA (if hasS v s i then tPut v s (svDrop (svOf v s) i.toNatClampNeg) else v)), wSv E (O 5) (tB (if hasS v s i then tPut v s (svDrop (svOf v s) i.toNatClampNeg) else v)), wPo E (O 9) (O 17) 8 (if hasS v s i then pushO 8 oa else oa), wPt E (O 17) (Q 0) (Q 1) 8 (if hasS v s i then pushT 8 oa ta v else ta)].flatten) := by
  refine CT.intro (by decide +kernel) (Nat.le_of_ble_eq_true rfl) (fun Γ X hx => ?_)
  refine GG.lv [0, 1, 2] (lv' := [(0, .ref (O 0 0)), (1, .int s), (2, .int i)]) rfl ?_
  have hA : okS (tA v) := hv.1
  have hB : okS (tB v) := hv.2.1
  have hv1 : sM (tA v) ≤ 8 := hA.1
  have hv2 : sS (tA v) ≤ 8 := hA.2
  have hv3 : sM (tB v) ≤ 8 := hB.1
  have hv4 : sS (tB v) ≤ 8 := hB.2
  have hv5 : tN v ≤ 3 := hv.2.2
  refine g_aload_n X 0 dX9_cut_0 rfl ?_
  refine g_iload_n X 1 dX9_cut_1 rfl ?_
  refine g_iload_n X 2 dX9_cut_2 rfl ?_
  refine g_callVr (st2 := [.int (b2i (hasS v s i))]) (q0 := 0) X (c_X9_hasStreet E O v s i (by first | assumption | omega)) cs_X9_128 rfl [0, 1, 2, 3] [4, 5] 6 rfl (by decide) rfl rfl rfl rfl rfl (Nat.le_of_ble_eq_true rfl) dX9_cut_3 rfl ?_
  refine g_bif_ne (tgt := 11) X dX9_cut_6 (by decide) (fun c_6 => ?_) (fun c_6 => ?_)
  · rcases hasS_or hv c_6 with ⟨rfl, j, hj, rfl⟩ | ⟨rfl, j, hj, rfl⟩
    · refine g_aload_n X 0 dX9_cut_11 rfl ?_
      refine g_getf (v := .ref (O 9 0)) X fs_X9_35 0 rfl rfl dX9_cut_12 ?_
      refine g_aload_n X 0 dX9_cut_15 rfl ?_
      refine g_getf (v := .ref (O 3 0)) X fs_X9_74 0 rfl rfl dX9_cut_16 ?_
      refine g_callV (st2 := []) (S' := [wTS E O, wTw E (O 3 0) (O 4) (O 5) (tR v) (tN v), wSv E (O 4) (tA v), wSv E (O 5) (tB v), wPo E (O 9) (O 17) 8 (plR oa.1 oa.2 8, plH oa.2 8), wPt E (O 17) (Q 0) (Q 1) 8 (upT ta (plK oa.1 oa.2 8) (tCopy v (ta (plK oa.1 oa.2 8))))]) (q0 := 15) X (c_X1_push E (O 9) (O 17) 8 oa (Q 0) (Q 1) ta (O 3 0) (O 4) (O 5) v (by decide) (by decide) hra hha) cs_X9_144 rfl [1, 2, 3, 4, 5] [0] 6 rfl rfl (by decide) [wTS E O] rfl rfl rfl rfl (by simp only [List.map_cons, List.map_nil, fsPo, fsPt, fsSv, fsTS, fsTw]) rfl rfl rfl rfl (Nat.le_of_ble_eq_true rfl) dX9_cut_19 rfl ?_
      refine g_aload_n X 0 dX9_cut_22 rfl ?_
      refine g_getf (v := .ref (O 3 0)) X fs_X9_74 0 rfl rfl dX9_cut_23 ?_
      refine g_iload_n X 1 dX9_cut_26 rfl ?_
      refine g_callVr (st2 := [.ref ((O 4) 0)]) (q0 := 0) X (c_X6_surveyOf_0 E (O 3 0) (O 4) (O 5) v) cs_X9_92 rfl [1, 2, 3] [0, 4, 5] 6 rfl (by decide) rfl rfl rfl rfl rfl (Nat.le_of_ble_eq_true rfl) dX9_cut_27 rfl ?_
      refine g_astore_n (lv' := [(3, .ref ((O 4) 0)), (0, .ref (O 0 0)), (1, .int (nI 0)), (2, .int (nI j))]) X dX9_cut_30 (by decide) rfl ?_
      refine g_aload_n X 0 dX9_cut_31 rfl ?_
      refine g_iload_n X 3 dX9_cut_32 rfl ?_
      refine g_callV (st2 := []) (S' := [wTS E O, wTw E (O 3 0) (O 4) (O 5) (tR v) (tN v), wSv E (O 4) (svDrop (tA v) j), wSv E (O 5) (tB v), wPo E (O 9) (O 17) 8 (plR oa.1 oa.2 8, plH oa.2 8), wPt E (O 17) (Q 0) (Q 1) 8 (upT ta (plK oa.1 oa.2 8) (tCopy v (ta (plK oa.1 oa.2 8))))]) (q0 := 0) X (c_X4_dropStreet E (O 4) (tA v) j (by first | assumption | omega) (by first | assumption | omega)) cs_X9_167 rfl [2] [0, 1, 3, 4, 5] 6 rfl rfl (by decide) [wTS E O, wTw E (O 3 0) (O 4) (O 5) (tR v) (tN v), wSv E (O 5) (tB v), wPo E (O 9) (O 17) 8 (plR oa.1 oa.2 8, plH oa.2 8), wPt E (O 17) (Q 0) (Q 1) 8 (upT ta (plK oa.1 oa.2 8) (tCopy v (ta (plK oa.1 oa.2 8))))] rfl rfl rfl rfl (by simp only [List.map_cons, List.map_nil, fsPo, fsPt, fsSv, fsTS, fsTw]) rfl rfl rfl rfl (Nat.le_of_ble_eq_true rfl) dX9_cut_33 rfl ?_
      refine g_aload_n X 0 dX9_cut_36 rfl ?_
      refine g_callVr (st2 := [.int (nI (sS (svDrop (tA v) j)))]) (q0 := 0) X (c_X4_streets E (O 4) (svDrop (tA v) j)) cs_X9_161 rfl [2] [0, 1, 3, 4, 5] 6 rfl (by decide) rfl rfl rfl rfl rfl (Nat.le_of_ble_eq_true rfl) dX9_cut_37 rfl ?_
      exact g_iretv (r := (nI (sS (svDrop (tA v) j)))) X hx rfl (by simp [ctV, svDrop, svOf_0, svOf_1, tPut_0, tPut_1, nI_clamp (show j < 2 ^ 31 by omega), nI_eq, c_6]) (by simp [pushO, pushT, svOf_0, svOf_1, tPut_0, tPut_1, nI_clamp (show j < 2 ^ 31 by omega), nI_eq, c_6]) dX9_cut_40
    · refine g_aload_n X 0 dX9_cut_11 rfl ?_
      refine g_getf (v := .ref (O 9 0)) X fs_X9_35 0 rfl rfl dX9_cut_12 ?_
      refine g_aload_n X 0 dX9_cut_15 rfl ?_
      refine g_getf (v := .ref (O 3 0)) X fs_X9_74 0 rfl rfl dX9_cut_16 ?_
      refine g_callV (st2 := []) (S' := [wTS E O, wTw E (O 3 0) (O 4) (O 5) (tR v) (tN v), wSv E (O 4) (tA v), wSv E (O 5) (tB v), wPo E (O 9) (O 17) 8 (plR oa.1 oa.2 8, plH oa.2 8), wPt E (O 17) (Q 0) (Q 1) 8 (upT ta (plK oa.1 oa.2 8) (tCopy v (ta (plK oa.1 oa.2 8))))]) (q0 := 15) X (c_X1_push E (O 9) (O 17) 8 oa (Q 0) (Q 1) ta (O 3 0) (O 4) (O 5) v (by decide) (by decide) hra hha) cs_X9_144 rfl [1, 2, 3, 4, 5] [0] 6 rfl rfl (by decide) [wTS E O] rfl rfl rfl rfl (by simp only [List.map_cons, List.map_nil, fsPo, fsPt, fsSv, fsTS, fsTw]) rfl rfl rfl rfl (Nat.le_of_ble_eq_true rfl) dX9_cut_19 rfl ?_
      refine g_aload_n X 0 dX9_cut_22 rfl ?_
      refine g_getf (v := .ref (O 3 0)) X fs_X9_74 0 rfl rfl dX9_cut_23 ?_
      refine g_iload_n X 1 dX9_cut_26 rfl ?_
      refine g_callVr (st2 := [.ref ((O 5) 0)]) (q0 := 0) X (c_X6_surveyOf_1 E (O 3 0) (O 4) (O 5) v) cs_X9_92 rfl [1, 2, 3] [0, 4, 5] 6 rfl (by decide) rfl rfl rfl rfl rfl (Nat.le_of_ble_eq_true rfl) dX9_cut_27 rfl ?_
      refine g_astore_n (lv' := [(3, .ref ((O 5) 0)), (0, .ref (O 0 0)), (1, .int (nI 1)), (2, .int (nI j))]) X dX9_cut_30 (by decide) rfl ?_
      refine g_aload_n X 0 dX9_cut_31 rfl ?_
      refine g_iload_n X 3 dX9_cut_32 rfl ?_
      refine g_callV (st2 := []) (S' := [wTS E O, wTw E (O 3 0) (O 4) (O 5) (tR v) (tN v), wSv E (O 4) (tA v), wSv E (O 5) (svDrop (tB v) j), wPo E (O 9) (O 17) 8 (plR oa.1 oa.2 8, plH oa.2 8), wPt E (O 17) (Q 0) (Q 1) 8 (upT ta (plK oa.1 oa.2 8) (tCopy v (ta (plK oa.1 oa.2 8))))]) (q0 := 0) X (c_X4_dropStreet E (O 5) (tB v) j (by first | assumption | omega) (by first | assumption | omega)) cs_X9_167 rfl [3] [0, 1, 2, 4, 5] 6 rfl rfl (by decide) [wTS E O, wTw E (O 3 0) (O 4) (O 5) (tR v) (tN v), wSv E (O 4) (tA v), wPo E (O 9) (O 17) 8 (plR oa.1 oa.2 8, plH oa.2 8), wPt E (O 17) (Q 0) (Q 1) 8 (upT ta (plK oa.1 oa.2 8) (tCopy v (ta (plK oa.1 oa.2 8))))] rfl rfl rfl rfl (by simp only [List.map_cons, List.map_nil, fsPo, fsPt, fsSv, fsTS, fsTw]) rfl rfl rfl rfl (Nat.le_of_ble_eq_true rfl) dX9_cut_33 rfl ?_
      refine g_aload_n X 0 dX9_cut_36 rfl ?_
      refine g_callVr (st2 := [.int (nI (sS (svDrop (tB v) j)))]) (q0 := 0) X (c_X4_streets E (O 5) (svDrop (tB v) j)) cs_X9_161 rfl [3] [0, 1, 2, 4, 5] 6 rfl (by decide) rfl rfl rfl rfl rfl (Nat.le_of_ble_eq_true rfl) dX9_cut_37 rfl ?_
      exact g_iretv (r := (nI (sS (svDrop (tB v) j)))) X hx rfl (by simp [ctV, svDrop, svOf_0, svOf_1, tPut_0, tPut_1, nI_clamp (show j < 2 ^ 31 by omega), nI_eq, c_6]) (by simp [pushO, pushT, svOf_0, svOf_1, tPut_0, tPut_1, nI_clamp (show j < 2 ^ 31 by omega), nI_eq, c_6]) dX9_cut_40
  · refine g_iconst (v := (-1)) X dX9_cut_9 rfl ?_
    exact g_iretv (r := (-1)) X hx rfl (by simp [ctV, c_6]) (by simp [c_6]) dX9_cut_10
set_option maxHeartbeats 4000000 in
set_option maxRecDepth 100000 in
theorem c_X9_join (E : GE) (O : Nat → Nat → Nat) (Q : Nat → Nat → Nat → Nat) (v : TV) (oa : PO) (ta : Nat → TV) (s : Int32) (x : Int32) (y : Int32) (n : Int32) (hv : okT v) (hra : ∀ k, k < 8 → oa.1 k < 8) (hha : oa.2 ≤ 8) : CT E m_X9_join [.ref (O 0 0), .int s, .int x, .int y, .int n] ([wTS E O, wTw E (O 3 0) (O 4) (O 5) (tR v) (tN v), wSv E (O 4) (tA v), wSv E (O 5) (tB v), wPo E (O 9) (O 17) 8 oa, wPt E (O 17) (Q 0) (Q 1) 8 ta].flatten) (some (.int (jnV v s x y n))) ([wTS E O, wTw E (O 3 0) (O 4) (O 5) (tR (if jnB v s x y n then tPut v s (svAddS (svOf v s) x y n) else v)) (tN (if jnB v s x y n then tPut v s (svAddS (svOf v s) x y n) else v)), wSv E (O 4) (tA (if jnB v s x y n then tPut v s (svAddS (svOf v s) x y n) else v)), wSv E (O 5) (tB (if jnB v s x y n then tPut v s (svAddS (svOf v s) x y n) else v)), wPo E (O 9) (O 17) 8 (if jnB v s x y n then pushO 8 oa else oa), wPt E (O 17) (Q 0) (Q 1) 8 (if jnB v s x y n then pushT 8 oa ta v else ta)].flatten) := by
  refine CT.intro (by decide +kernel) (Nat.le_of_ble_eq_true rfl) (fun Γ X hx => ?_)
  refine GG.lv [0, 1, 2, 3, 4] (lv' := [(0, .ref (O 0 0)), (1, .int s), (2, .int x), (3, .int y), (4, .int n)]) rfl ?_
  have hA : okS (tA v) := hv.1
  have hB : okS (tB v) := hv.2.1
  have hv1 : sM (tA v) ≤ 8 := hA.1
  have hv2 : sS (tA v) ≤ 8 := hA.2
  have hv3 : sM (tB v) ≤ 8 := hB.1
  have hv4 : sS (tB v) ≤ 8 := hB.2
  have hv5 : tN v ≤ 3 := hv.2.2
  refine g_aload_n X 0 dX9_join_0 rfl ?_
  refine g_iload_n X 1 dX9_join_1 rfl ?_
  refine g_iload_n X 2 dX9_join_2 rfl ?_
  refine g_callVr (st2 := [.int (b2i (hasM v s x))]) (q0 := 0) X (c_X9_hasMeeting E O v s x (by first | assumption | omega)) cs_X9_107 rfl [0, 1, 2, 3] [4, 5] 6 rfl (by decide) rfl rfl rfl rfl rfl (Nat.le_of_ble_eq_true rfl) dX9_join_3 rfl ?_
  refine g_bif_eq (tgt := 34) X dX9_join_6 (by decide) (fun c_6 => ?_) (fun c_6 => ?_)
  · refine g_iconst (v := (-1)) X dX9_join_34 rfl ?_
    exact g_iretv (r := (-1)) X hx rfl (by simp [jnV, jnB, jnA, c_6]) (by simp [jnB, jnA, c_6]) dX9_join_35
  · refine g_aload_n X 0 dX9_join_9 rfl ?_
    refine g_iload_n X 1 dX9_join_10 rfl ?_
    refine g_iload_n X 3 dX9_join_11 rfl ?_
    refine g_callVr (st2 := [.int (b2i (hasM v s y))]) (q0 := 0) X (c_X9_hasMeeting E O v s y (by first | assumption | omega)) cs_X9_107 rfl [0, 1, 2, 3] [4, 5] 6 rfl (by decide) rfl rfl rfl rfl rfl (Nat.le_of_ble_eq_true rfl) dX9_join_12 rfl ?_
    refine g_bif_eq (tgt := 34) X dX9_join_15 (by decide) (fun c_15 => ?_) (fun c_15 => ?_)
    · refine g_iconst (v := (-1)) X dX9_join_34 rfl ?_
      exact g_iretv (r := (-1)) X hx rfl (by simp [jnV, jnB, jnA, c_6, c_15]) (by simp [jnB, jnA, c_6, c_15]) dX9_join_35
    · refine g_iload_n X 2 dX9_join_18 rfl ?_
      refine g_iload_n X 3 dX9_join_19 rfl ?_
      refine g_icmp_eq (tgt := 34) X dX9_join_20 (by decide) (fun c_20 => ?_) (fun c_20 => ?_)
      · refine g_iconst (v := (-1)) X dX9_join_34 rfl ?_
        exact g_iretv (r := (-1)) X hx rfl (by simp [jnV, jnB, jnA, c_6, c_15, c_20]) (by simp [jnB, jnA, c_6, c_15, c_20]) dX9_join_35
      · refine g_iload X 4 dX9_join_23 rfl ?_
        refine g_iconst (v := (nI 0)) X dX9_join_25 rfl ?_
        refine g_bipush (v := (nI 9)) X dX9_join_26 rfl ?_
        refine g_callSP (st2 := [.int (b2i (inR n (nI 0) (nI 9)))]) (ws' := [wTS E O, wTw E (O 3 0) (O 4) (O 5) (tR v) (tN v), wSv E (O 4) (tA v), wSv E (O 5) (tB v), wPo E (O 9) (O 17) 8 oa, wPt E (O 17) (Q 0) (Q 1) 8 ta].flatten) (wr := [wTS E O, wTw E (O 3 0) (O 4) (O 5) (tR v) (tN v), wSv E (O 4) (tA v), wSv E (O 5) (tB v), wPo E (O 9) (O 17) 8 oa, wPt E (O 17) (Q 0) (Q 1) 8 ta].flatten) X (c_X9_isWithin E n (nI 0) (nI 9)) cs_X9_140 rfl (List.Perm.refl _) rfl (List.Perm.refl _) rfl rfl (Nat.le_of_ble_eq_true rfl) dX9_join_28 rfl ?_
        refine g_bif_ne (tgt := 36) X dX9_join_31 (by decide) (fun c_31 => ?_) (fun c_31 => ?_)
        · rcases hasM_or hv c_6 with ⟨rfl, j, hj, rfl⟩ | ⟨rfl, j, hj, rfl⟩
          · obtain ⟨k, hk, rfl⟩ := hasM_0 hv c_15
            refine g_aload_n X 0 dX9_join_36 rfl ?_
            refine g_getf (v := .ref (O 3 0)) X fs_X9_74 0 rfl rfl dX9_join_37 ?_
            refine g_iload_n X 1 dX9_join_40 rfl ?_
            refine g_callVr (st2 := [.ref ((O 4) 0)]) (q0 := 0) X (c_X6_surveyOf_0 E (O 3 0) (O 4) (O 5) v) cs_X9_92 rfl [1, 2, 3] [0, 4, 5] 6 rfl (by decide) rfl rfl rfl rfl rfl (Nat.le_of_ble_eq_true rfl) dX9_join_41 rfl ?_
            refine g_astore (lv' := [(5, .ref ((O 4) 0)), (0, .ref (O 0 0)), (1, .int (nI 0)), (2, .int (nI j)), (3, .int (nI k)), (4, .int n)]) X dX9_join_44 (by decide) rfl ?_
            refine g_aload X 0 dX9_join_46 rfl ?_
            refine g_iload_n X 3 dX9_join_48 rfl ?_
            refine g_iload_n X 4 dX9_join_49 rfl ?_
            refine g_callVr (st2 := [.int (oI (sbF (tA v) (nI j) (nI k)))]) (q0 := 0) X (c_X4_streetBetween E (O 4) (tA v) (nI j) (nI k) (by first | assumption | omega)) cs_X9_158 rfl [2] [0, 1, 3, 4, 5] 6 rfl (by decide) rfl rfl rfl rfl rfl (Nat.le_of_ble_eq_true rfl) dX9_join_50 rfl ?_
            refine g_iconst (v := (-1)) X dX9_join_53 rfl ?_
            refine g_icmp_eq (tgt := 60) X dX9_join_54 (by decide) (fun c_54 => ?_) (fun c_54 => ?_)
            · refine g_aload X 0 dX9_join_60 rfl ?_
              refine g_callVr (st2 := [.int (nI (sS (tA v)))]) (q0 := 0) X (c_X4_streets E (O 4) (tA v)) cs_X9_161 rfl [2] [0, 1, 3, 4, 5] 6 rfl (by decide) rfl rfl rfl rfl rfl (Nat.le_of_ble_eq_true rfl) dX9_join_62 rfl ?_
              refine g_bipush (v := (nI 8)) X dX9_join_65 rfl ?_
              refine g_icmp_lt (tgt := 73) X dX9_join_67 (by decide) (fun c_67 => ?_) (fun c_67 => ?_)
              · have f_c_67 : sS (tA v) < 8 := n_lt (by omega) (by omega) c_67
                have fn_c_67 := Nat.not_le.mpr f_c_67
                refine g_aload_n X 1 dX9_join_73 rfl ?_
                refine g_getf (v := .ref (O 9 0)) X fs_X9_35 0 rfl rfl dX9_join_74 ?_
                refine g_aload_n X 1 dX9_join_77 rfl ?_
                refine g_getf (v := .ref (O 3 0)) X fs_X9_74 0 rfl rfl dX9_join_78 ?_
                refine g_callV (st2 := []) (S' := [wTS E O, wTw E (O 3 0) (O 4) (O 5) (tR v) (tN v), wSv E (O 4) (tA v), wSv E (O 5) (tB v), wPo E (O 9) (O 17) 8 (plR oa.1 oa.2 8, plH oa.2 8), wPt E (O 17) (Q 0) (Q 1) 8 (upT ta (plK oa.1 oa.2 8) (tCopy v (ta (plK oa.1 oa.2 8))))]) (q0 := 15) X (c_X1_push E (O 9) (O 17) 8 oa (Q 0) (Q 1) ta (O 3 0) (O 4) (O 5) v (by decide) (by decide) hra hha) cs_X9_144 rfl [1, 2, 3, 4, 5] [0] 6 rfl rfl (by decide) [wTS E O] rfl rfl rfl rfl (by simp only [List.map_cons, List.map_nil, fsPo, fsPt, fsSv, fsTS, fsTw]) rfl rfl rfl rfl (Nat.le_of_ble_eq_true rfl) dX9_join_81 rfl ?_
                refine g_aload X 0 dX9_join_84 rfl ?_
                refine g_iload_n X 3 dX9_join_86 rfl ?_
                refine g_iload_n X 4 dX9_join_87 rfl ?_
                refine g_iload X 5 dX9_join_88 rfl ?_
                refine g_callV (st2 := [.int (b2i (addSok (tA v) (nI j) (nI k) n))]) (S' := [wTS E O, wTw E (O 3 0) (O 4) (O 5) (tR v) (tN v), wSv E (O 4) (svAddS (tA v) (nI j) (nI k) n), wSv E (O 5) (tB v), wPo E (O 9) (O 17) 8 (plR oa.1 oa.2 8, plH oa.2 8), wPt E (O 17) (Q 0) (Q 1) 8 (upT ta (plK oa.1 oa.2 8) (tCopy v (ta (plK oa.1 oa.2 8))))]) (q0 := 0) X (c_X4_addStreet E (O 4) (tA v) (nI j) (nI k) n (by first | assumption | omega)) cs_X9_164 rfl [2] [0, 1, 3, 4, 5] 6 rfl rfl (by decide) [wTS E O, wTw E (O 3 0) (O 4) (O 5) (tR v) (tN v), wSv E (O 5) (tB v), wPo E (O 9) (O 17) 8 (plR oa.1 oa.2 8, plH oa.2 8), wPt E (O 17) (Q 0) (Q 1) 8 (upT ta (plK oa.1 oa.2 8) (tCopy v (ta (plK oa.1 oa.2 8))))] rfl rfl rfl rfl (by simp only [List.map_cons, List.map_nil, fsPo, fsPt, fsSv, fsTS, fsTw]) rfl rfl rfl rfl (Nat.le_of_ble_eq_true rfl) dX9_join_90 rfl ?_
                refine g_pop X dX9_join_93 rfl ?_
                refine g_aload X 0 dX9_join_94 rfl ?_
                refine g_callVr (st2 := [.int (nI (sS (svAddS (tA v) (nI j) (nI k) n)))]) (q0 := 0) X (c_X4_streets E (O 4) (svAddS (tA v) (nI j) (nI k) n)) cs_X9_161 rfl [2] [0, 1, 3, 4, 5] 6 rfl (by decide) rfl rfl rfl rfl rfl (Nat.le_of_ble_eq_true rfl) dX9_join_96 rfl ?_
                exact g_iretv (r := (nI (sS (svAddS (tA v) (nI j) (nI k) n)))) X hx rfl (by simp [jnV, jnB, jnA, svOf_0, svOf_1, nI_eq, c_6, c_15, c_20, c_31, c_54, c_67, f_c_67, fn_c_67]) (by simp [jnB, jnA, pushO, pushT, svOf_0, svOf_1, tPut_0, tPut_1, c_6, c_15, c_20, c_31, c_54, c_67, f_c_67, fn_c_67]) dX9_join_99
              · have f_c_67 : 8 ≤ sS (tA v) := n_nlt (by omega) (by omega) c_67
                have fn_c_67 := Nat.not_lt.mpr f_c_67
                refine g_bipush (v := (-3)) X dX9_join_70 rfl ?_
                exact g_iretv (r := (-3)) X hx rfl (by simp [jnV, jnB, jnA, svOf_0, svOf_1, nI_eq, c_6, c_15, c_20, c_31, c_54, c_67, f_c_67, fn_c_67]) (by simp [jnB, jnA, pushO, pushT, svOf_0, svOf_1, tPut_0, tPut_1, c_6, c_15, c_20, c_31, c_54, c_67, f_c_67, fn_c_67]) dX9_join_72
            · refine g_bipush (v := (-2)) X dX9_join_57 rfl ?_
              exact g_iretv (r := (-2)) X hx rfl (by simp [jnV, jnB, jnA, svOf_0, svOf_1, nI_eq, c_6, c_15, c_20, c_31, c_54]) (by simp [jnB, jnA, pushO, pushT, svOf_0, svOf_1, tPut_0, tPut_1, c_6, c_15, c_20, c_31, c_54]) dX9_join_59
          · obtain ⟨k, hk, rfl⟩ := hasM_1 hv c_15
            refine g_aload_n X 0 dX9_join_36 rfl ?_
            refine g_getf (v := .ref (O 3 0)) X fs_X9_74 0 rfl rfl dX9_join_37 ?_
            refine g_iload_n X 1 dX9_join_40 rfl ?_
            refine g_callVr (st2 := [.ref ((O 5) 0)]) (q0 := 0) X (c_X6_surveyOf_1 E (O 3 0) (O 4) (O 5) v) cs_X9_92 rfl [1, 2, 3] [0, 4, 5] 6 rfl (by decide) rfl rfl rfl rfl rfl (Nat.le_of_ble_eq_true rfl) dX9_join_41 rfl ?_
            refine g_astore (lv' := [(5, .ref ((O 5) 0)), (0, .ref (O 0 0)), (1, .int (nI 1)), (2, .int (nI j)), (3, .int (nI k)), (4, .int n)]) X dX9_join_44 (by decide) rfl ?_
            refine g_aload X 0 dX9_join_46 rfl ?_
            refine g_iload_n X 3 dX9_join_48 rfl ?_
            refine g_iload_n X 4 dX9_join_49 rfl ?_
            refine g_callVr (st2 := [.int (oI (sbF (tB v) (nI j) (nI k)))]) (q0 := 0) X (c_X4_streetBetween E (O 5) (tB v) (nI j) (nI k) (by first | assumption | omega)) cs_X9_158 rfl [3] [0, 1, 2, 4, 5] 6 rfl (by decide) rfl rfl rfl rfl rfl (Nat.le_of_ble_eq_true rfl) dX9_join_50 rfl ?_
            refine g_iconst (v := (-1)) X dX9_join_53 rfl ?_
            refine g_icmp_eq (tgt := 60) X dX9_join_54 (by decide) (fun c_54 => ?_) (fun c_54 => ?_)
            · refine g_aload X 0 dX9_join_60 rfl ?_
              refine g_callVr (st2 := [.int (nI (sS (tB v)))]) (q0 := 0) X (c_X4_streets E (O 5) (tB v)) cs_X9_161 rfl [3] [0, 1, 2, 4, 5] 6 rfl (by decide) rfl rfl rfl rfl rfl (Nat.le_of_ble_eq_true rfl) dX9_join_62 rfl ?_
              refine g_bipush (v := (nI 8)) X dX9_join_65 rfl ?_
              refine g_icmp_lt (tgt := 73) X dX9_join_67 (by decide) (fun c_67 => ?_) (fun c_67 => ?_)
              · have f_c_67 : sS (tB v) < 8 := n_lt (by omega) (by omega) c_67
                have fn_c_67 := Nat.not_le.mpr f_c_67
                refine g_aload_n X 1 dX9_join_73 rfl ?_
                refine g_getf (v := .ref (O 9 0)) X fs_X9_35 0 rfl rfl dX9_join_74 ?_
                refine g_aload_n X 1 dX9_join_77 rfl ?_
                refine g_getf (v := .ref (O 3 0)) X fs_X9_74 0 rfl rfl dX9_join_78 ?_
                refine g_callV (st2 := []) (S' := [wTS E O, wTw E (O 3 0) (O 4) (O 5) (tR v) (tN v), wSv E (O 4) (tA v), wSv E (O 5) (tB v), wPo E (O 9) (O 17) 8 (plR oa.1 oa.2 8, plH oa.2 8), wPt E (O 17) (Q 0) (Q 1) 8 (upT ta (plK oa.1 oa.2 8) (tCopy v (ta (plK oa.1 oa.2 8))))]) (q0 := 15) X (c_X1_push E (O 9) (O 17) 8 oa (Q 0) (Q 1) ta (O 3 0) (O 4) (O 5) v (by decide) (by decide) hra hha) cs_X9_144 rfl [1, 2, 3, 4, 5] [0] 6 rfl rfl (by decide) [wTS E O] rfl rfl rfl rfl (by simp only [List.map_cons, List.map_nil, fsPo, fsPt, fsSv, fsTS, fsTw]) rfl rfl rfl rfl (Nat.le_of_ble_eq_true rfl) dX9_join_81 rfl ?_
                refine g_aload X 0 dX9_join_84 rfl ?_
                refine g_iload_n X 3 dX9_join_86 rfl ?_
                refine g_iload_n X 4 dX9_join_87 rfl ?_
                refine g_iload X 5 dX9_join_88 rfl ?_
                refine g_callV (st2 := [.int (b2i (addSok (tB v) (nI j) (nI k) n))]) (S' := [wTS E O, wTw E (O 3 0) (O 4) (O 5) (tR v) (tN v), wSv E (O 4) (tA v), wSv E (O 5) (svAddS (tB v) (nI j) (nI k) n), wPo E (O 9) (O 17) 8 (plR oa.1 oa.2 8, plH oa.2 8), wPt E (O 17) (Q 0) (Q 1) 8 (upT ta (plK oa.1 oa.2 8) (tCopy v (ta (plK oa.1 oa.2 8))))]) (q0 := 0) X (c_X4_addStreet E (O 5) (tB v) (nI j) (nI k) n (by first | assumption | omega)) cs_X9_164 rfl [3] [0, 1, 2, 4, 5] 6 rfl rfl (by decide) [wTS E O, wTw E (O 3 0) (O 4) (O 5) (tR v) (tN v), wSv E (O 4) (tA v), wPo E (O 9) (O 17) 8 (plR oa.1 oa.2 8, plH oa.2 8), wPt E (O 17) (Q 0) (Q 1) 8 (upT ta (plK oa.1 oa.2 8) (tCopy v (ta (plK oa.1 oa.2 8))))] rfl rfl rfl rfl (by simp only [List.map_cons, List.map_nil, fsPo, fsPt, fsSv, fsTS, fsTw]) rfl rfl rfl rfl (Nat.le_of_ble_eq_true rfl) dX9_join_90 rfl ?_
                refine g_pop X dX9_join_93 rfl ?_
                refine g_aload X 0 dX9_join_94 rfl ?_
                refine g_callVr (st2 := [.int (nI (sS (svAddS (tB v) (nI j) (nI k) n)))]) (q0 := 0) X (c_X4_streets E (O 5) (svAddS (tB v) (nI j) (nI k) n)) cs_X9_161 rfl [3] [0, 1, 2, 4, 5] 6 rfl (by decide) rfl rfl rfl rfl rfl (Nat.le_of_ble_eq_true rfl) dX9_join_96 rfl ?_
                exact g_iretv (r := (nI (sS (svAddS (tB v) (nI j) (nI k) n)))) X hx rfl (by simp [jnV, jnB, jnA, svOf_0, svOf_1, nI_eq, c_6, c_15, c_20, c_31, c_54, c_67, f_c_67, fn_c_67]) (by simp [jnB, jnA, pushO, pushT, svOf_0, svOf_1, tPut_0, tPut_1, c_6, c_15, c_20, c_31, c_54, c_67, f_c_67, fn_c_67]) dX9_join_99
              · have f_c_67 : 8 ≤ sS (tB v) := n_nlt (by omega) (by omega) c_67
                have fn_c_67 := Nat.not_lt.mpr f_c_67
                refine g_bipush (v := (-3)) X dX9_join_70 rfl ?_
                exact g_iretv (r := (-3)) X hx rfl (by simp [jnV, jnB, jnA, svOf_0, svOf_1, nI_eq, c_6, c_15, c_20, c_31, c_54, c_67, f_c_67, fn_c_67]) (by simp [jnB, jnA, pushO, pushT, svOf_0, svOf_1, tPut_0, tPut_1, c_6, c_15, c_20, c_31, c_54, c_67, f_c_67, fn_c_67]) dX9_join_72
            · refine g_bipush (v := (-2)) X dX9_join_57 rfl ?_
              exact g_iretv (r := (-2)) X hx rfl (by simp [jnV, jnB, jnA, svOf_0, svOf_1, nI_eq, c_6, c_15, c_20, c_31, c_54]) (by simp [jnB, jnA, pushO, pushT, svOf_0, svOf_1, tPut_0, tPut_1, c_6, c_15, c_20, c_31, c_54]) dX9_join_59
        · refine g_iconst (v := (-1)) X dX9_join_34 rfl ?_
          exact g_iretv (r := (-1)) X hx rfl (by simp [jnV, jnB, jnA, c_6, c_15, c_20, c_31]) (by simp [jnB, jnA, c_6, c_15, c_20, c_31]) dX9_join_35
set_option maxHeartbeats 4000000 in
set_option maxRecDepth 100000 in
theorem c_X9_tune (E : GE) (O : Nat → Nat → Nat) (Q : Nat → Nat → Nat → Nat) (v : TV) (oa : PO) (ta : Nat → TV) (q : Int32) (x : Int32) (hv : okT v) (hra : ∀ k, k < 8 → oa.1 k < 8) (hha : oa.2 ≤ 8) : CT E m_X9_tune [.ref (O 0 0), .int q, .int x] ([wTS E O, wTw E (O 3 0) (O 4) (O 5) (tR v) (tN v), wSv E (O 4) (tA v), wSv E (O 5) (tB v), wPo E (O 9) (O 17) 8 oa, wPt E (O 17) (Q 0) (Q 1) 8 ta].flatten) (some (.int (tnV v q x))) ([wTS E O, wTw E (O 3 0) (O 4) (O 5) (tR (tnT v q x)) (tN (tnT v q x)), wSv E (O 4) (tA (tnT v q x)), wSv E (O 5) (tB (tnT v q x)), wPo E (O 9) (O 17) 8 (if tnB v q x then pushO 8 oa else oa), wPt E (O 17) (Q 0) (Q 1) 8 (if tnB v q x then pushT 8 oa ta v else ta)].flatten) := by
  refine CT.intro (by decide +kernel) (Nat.le_of_ble_eq_true rfl) (fun Γ X hx => ?_)
  refine GG.lv [0, 1, 2] (lv' := [(0, .ref (O 0 0)), (1, .int q), (2, .int x)]) rfl ?_
  refine g_iload_n X 1 dX9_tune_0 rfl ?_
  refine g_if_ne (tgt := 8) X dX9_tune_1 (by decide) (fun c_1 => ?_) (fun c_1 => ?_)
  · refine g_iconst (v := (nI 0)) X dX9_tune_8 rfl ?_
    refine g_istore_n (lv' := [(3, .int (nI 0)), (0, .ref (O 0 0)), (1, .int q), (2, .int x)]) X dX9_tune_9 (by decide) rfl ?_
    refine g_iload_n X 2 dX9_tune_10 rfl ?_
    refine g_iconst (v := (nI 0)) X dX9_tune_11 rfl ?_
    refine g_iconst (v := (nI 1)) X dX9_tune_12 rfl ?_
    refine g_callSP (st2 := [.int (b2i (inR q (nI 0) (nI 1)))]) (ws' := [wTS E O, wTw E (O 3 0) (O 4) (O 5) (tR v) (tN v), wSv E (O 4) (tA v), wSv E (O 5) (tB v), wPo E (O 9) (O 17) 8 oa, wPt E (O 17) (Q 0) (Q 1) 8 ta].flatten) (wr := [wTS E O, wTw E (O 3 0) (O 4) (O 5) (tR v) (tN v), wSv E (O 4) (tA v), wSv E (O 5) (tB v), wPo E (O 9) (O 17) 8 oa, wPt E (O 17) (Q 0) (Q 1) 8 ta].flatten) X (c_X9_isWithin E q (nI 0) (nI 1)) cs_X9_140 rfl (List.Perm.refl _) rfl (List.Perm.refl _) rfl rfl (Nat.le_of_ble_eq_true rfl) dX9_tune_13 rfl ?_
    refine g_bif_eq (tgt := 40) X dX9_tune_16 (by decide) (fun c_16 => ?_) (fun c_16 => ?_)
    · refine g_iconst (v := (-1)) X dX9_tune_40 rfl ?_
      exact g_iretv (r := (-1)) X hx rfl (by simp [tnV, tnB, tnA, c_1, c_16]) (by simp [tnT, tnB, tnA, pushO, pushT, c_1, c_16]) dX9_tune_41
    · refine g_iload_n X 0 dX9_tune_19 rfl ?_
      refine g_if_eq (tgt := 33) X dX9_tune_20 (by decide) (fun c_20 => ?_) (fun c_20 => absurd c_20 (by decide))
      refine g_iload_n X 3 dX9_tune_33 rfl ?_
      refine g_callSP (st2 := [.int (b2i (inR x (nI 0) (nI 3)))]) (ws' := [wTS E O, wTw E (O 3 0) (O 4) (O 5) (tR v) (tN v), wSv E (O 4) (tA v), wSv E (O 5) (tB v), wPo E (O 9) (O 17) 8 oa, wPt E (O 17) (Q 0) (Q 1) 8 ta].flatten) (wr := [wTS E O, wTw E (O 3 0) (O 4) (O 5) (tR v) (tN v), wSv E (O 4) (tA v), wSv E (O 5) (tB v), wPo E (O 9) (O 17) 8 oa, wPt E (O 17) (Q 0) (Q 1) 8 ta].flatten) X (c_X9_isRounds E x) cs_X9_173 rfl (List.Perm.refl _) rfl (List.Perm.refl _) rfl rfl (Nat.le_of_ble_eq_true rfl) dX9_tune_34 rfl ?_
      refine g_bif_ne (tgt := 42) X dX9_tune_37 (by decide) (fun c_37 => ?_) (fun c_37 => ?_)
      · refine g_iload_n X 0 dX9_tune_42 rfl ?_
        refine g_if_eq (tgt := 56) X dX9_tune_43 (by decide) (fun c_43 => ?_) (fun c_43 => absurd c_43 (by decide))
        refine g_aload_n X 1 dX9_tune_56 rfl ?_
        refine g_getf (v := .ref (O 3 0)) X fs_X9_74 0 rfl rfl dX9_tune_57 ?_
        refine g_callVr (st2 := [.int (nI (tN v))]) (q0 := 0) X (c_X6_rounds E (O 3 0) (O 4) (O 5) v) cs_X9_179 rfl [1, 2, 3] [0, 4, 5] 6 rfl (by decide) rfl rfl rfl rfl rfl (Nat.le_of_ble_eq_true rfl) dX9_tune_60 rfl ?_
        refine g_istore (lv' := [(4, .int (nI (tN v))), (3, .int (nI 0)), (0, .ref (O 0 0)), (1, .int q), (2, .int x)]) X dX9_tune_63 (by decide) rfl ?_
        refine g_iload X 0 dX9_tune_65 rfl ?_
        refine g_iload_n X 4 dX9_tune_67 rfl ?_
        refine g_icmp_ne (tgt := 74) X dX9_tune_68 (by decide) (fun c_68 => ?_) (fun c_68 => ?_)
        · refine g_aload_n X 2 dX9_tune_74 rfl ?_
          refine g_getf (v := .ref (O 9 0)) X fs_X9_35 0 rfl rfl dX9_tune_75 ?_
          refine g_aload_n X 2 dX9_tune_78 rfl ?_
          refine g_getf (v := .ref (O 3 0)) X fs_X9_74 0 rfl rfl dX9_tune_79 ?_
          refine g_callV (st2 := []) (S' := [wTS E O, wTw E (O 3 0) (O 4) (O 5) (tR v) (tN v), wSv E (O 4) (tA v), wSv E (O 5) (tB v), wPo E (O 9) (O 17) 8 (plR oa.1 oa.2 8, plH oa.2 8), wPt E (O 17) (Q 0) (Q 1) 8 (upT ta (plK oa.1 oa.2 8) (tCopy v (ta (plK oa.1 oa.2 8))))]) (q0 := 15) X (c_X1_push E (O 9) (O 17) 8 oa (Q 0) (Q 1) ta (O 3 0) (O 4) (O 5) v (by decide) (by decide) hra hha) cs_X9_144 rfl [1, 2, 3, 4, 5] [0] 6 rfl rfl (by decide) [wTS E O] rfl rfl rfl rfl (by simp only [List.map_cons, List.map_nil, fsPo, fsPt, fsSv, fsTS, fsTw]) rfl rfl rfl rfl (Nat.le_of_ble_eq_true rfl) dX9_tune_82 rfl ?_
          refine g_iload_n X 1 dX9_tune_85 rfl ?_
          refine g_if_eq (tgt := 101) X dX9_tune_86 (by decide) (fun c_86 => ?_) (fun c_86 => absurd c_86 (by decide))
          refine g_aload_n X 2 dX9_tune_101 rfl ?_
          refine g_getf (v := .ref (O 3 0)) X fs_X9_74 0 rfl rfl dX9_tune_102 ?_
          refine g_iload_n X 4 dX9_tune_105 rfl ?_
          refine g_callV (st2 := [.int (b2i (inR x (nI 0) (nI 3)))]) (S' := [wTS E O, wTw E (O 3 0) (O 4) (O 5) (tR (tSetN v x)) (tN (tSetN v x)), wSv E (O 4) (tA (tSetN v x)), wSv E (O 5) (tB (tSetN v x)), wPo E (O 9) (O 17) 8 (plR oa.1 oa.2 8, plH oa.2 8), wPt E (O 17) (Q 0) (Q 1) 8 (upT ta (plK oa.1 oa.2 8) (tCopy v (ta (plK oa.1 oa.2 8))))]) (q0 := 0) X (c_X6_setRounds E (O 3 0) (O 4) (O 5) v x) cs_X9_185 rfl [1, 2, 3] [0, 4, 5] 6 rfl rfl (by decide) [wTS E O, wPo E (O 9) (O 17) 8 (plR oa.1 oa.2 8, plH oa.2 8), wPt E (O 17) (Q 0) (Q 1) 8 (upT ta (plK oa.1 oa.2 8) (tCopy v (ta (plK oa.1 oa.2 8))))] rfl rfl rfl rfl (by simp only [List.map_cons, List.map_nil, fsPo, fsPt, fsSv, fsTS, fsTw]) rfl rfl rfl rfl (Nat.le_of_ble_eq_true rfl) dX9_tune_106 rfl ?_
          refine g_pop X dX9_tune_109 rfl ?_
          refine g_iload X 0 dX9_tune_110 rfl ?_
          exact g_iretv (r := (nI (tN v))) X hx rfl (by simp [tnV, tnB, tnA, c_1, c_16, c_37, c_68]) (by simp [tnT, tnB, tnA, pushO, pushT, c_1, c_16, c_37, c_68]) dX9_tune_112
        · refine g_bipush (v := (-2)) X dX9_tune_71 rfl ?_
          exact g_iretv (r := (-2)) X hx rfl (by simp [tnV, tnB, tnA, c_1, c_16, c_37, c_68]) (by simp [tnT, tnB, tnA, pushO, pushT, c_1, c_16, c_37, c_68]) dX9_tune_73
      · refine g_iconst (v := (-1)) X dX9_tune_40 rfl ?_
        exact g_iretv (r := (-1)) X hx rfl (by simp [tnV, tnB, tnA, c_1, c_16, c_37]) (by simp [tnT, tnB, tnA, pushO, pushT, c_1, c_16, c_37]) dX9_tune_41
  · subst c_1
    refine g_iconst (v := (nI 1)) X dX9_tune_4 rfl ?_
    refine g_goto (tgt := 9) X dX9_tune_5 (by decide) ?_
    refine g_istore_n (lv' := [(3, .int (nI 1)), (0, .ref (O 0 0)), (1, .int 0), (2, .int x)]) X dX9_tune_9 (by decide) rfl ?_
    refine g_iload_n X 2 dX9_tune_10 rfl ?_
    refine g_iconst (v := (nI 0)) X dX9_tune_11 rfl ?_
    refine g_iconst (v := (nI 1)) X dX9_tune_12 rfl ?_
    refine g_callSP (st2 := [.int (b2i (inR 0 (nI 0) (nI 1)))]) (ws' := [wTS E O, wTw E (O 3 0) (O 4) (O 5) (tR v) (tN v), wSv E (O 4) (tA v), wSv E (O 5) (tB v), wPo E (O 9) (O 17) 8 oa, wPt E (O 17) (Q 0) (Q 1) 8 ta].flatten) (wr := [wTS E O, wTw E (O 3 0) (O 4) (O 5) (tR v) (tN v), wSv E (O 4) (tA v), wSv E (O 5) (tB v), wPo E (O 9) (O 17) 8 oa, wPt E (O 17) (Q 0) (Q 1) 8 ta].flatten) X (c_X9_isWithin E 0 (nI 0) (nI 1)) cs_X9_140 rfl (List.Perm.refl _) rfl (List.Perm.refl _) rfl rfl (Nat.le_of_ble_eq_true rfl) dX9_tune_13 rfl ?_
    refine g_bif_eq (tgt := 40) X dX9_tune_16 (by decide) (fun c_16 => ?_) (fun c_16 => ?_)
    · refine g_iconst (v := (-1)) X dX9_tune_40 rfl ?_
      exact g_iretv (r := (-1)) X hx rfl (by simp [tnV, tnB, tnA, c_16]) (by simp [tnT, tnB, tnA, pushO, pushT, c_16]) dX9_tune_41
    · refine g_iload_n X 0 dX9_tune_19 rfl ?_
      refine g_if_eq (tgt := 33) X dX9_tune_20 (by decide) (fun c_20 => absurd c_20 (by decide)) (fun c_20 => ?_)
      refine g_iload_n X 3 dX9_tune_23 rfl ?_
      refine g_callSP (st2 := [.int (b2i (inR x (nI 1) (nI 20)))]) (ws' := [wTS E O, wTw E (O 3 0) (O 4) (O 5) (tR v) (tN v), wSv E (O 4) (tA v), wSv E (O 5) (tB v), wPo E (O 9) (O 17) 8 oa, wPt E (O 17) (Q 0) (Q 1) 8 ta].flatten) (wr := [wTS E O, wTw E (O 3 0) (O 4) (O 5) (tR v) (tN v), wSv E (O 4) (tA v), wSv E (O 5) (tB v), wPo E (O 9) (O 17) 8 oa, wPt E (O 17) (Q 0) (Q 1) 8 ta].flatten) X (c_X9_isRadius E x) cs_X9_170 rfl (List.Perm.refl _) rfl (List.Perm.refl _) rfl rfl (Nat.le_of_ble_eq_true rfl) dX9_tune_24 rfl ?_
      refine g_bif_eq (tgt := 40) X dX9_tune_27 (by decide) (fun c_27 => ?_) (fun c_27 => ?_)
      · refine g_iconst (v := (-1)) X dX9_tune_40 rfl ?_
        exact g_iretv (r := (-1)) X hx rfl (by simp [tnV, tnB, tnA, c_16, c_27]) (by simp [tnT, tnB, tnA, pushO, pushT, c_16, c_27]) dX9_tune_41
      · refine g_goto (tgt := 42) X dX9_tune_30 (by decide) ?_
        refine g_iload_n X 0 dX9_tune_42 rfl ?_
        refine g_if_eq (tgt := 56) X dX9_tune_43 (by decide) (fun c_43 => absurd c_43 (by decide)) (fun c_43 => ?_)
        refine g_aload_n X 1 dX9_tune_46 rfl ?_
        refine g_getf (v := .ref (O 3 0)) X fs_X9_74 0 rfl rfl dX9_tune_47 ?_
        refine g_callVr (st2 := [.int (tR v)]) (q0 := 0) X (c_X6_radius E (O 3 0) (O 4) (O 5) v) cs_X9_176 rfl [1, 2, 3] [0, 4, 5] 6 rfl (by decide) rfl rfl rfl rfl rfl (Nat.le_of_ble_eq_true rfl) dX9_tune_50 rfl ?_
        refine g_goto (tgt := 63) X dX9_tune_53 (by decide) ?_
        refine g_istore (lv' := [(4, .int (tR v)), (3, .int (nI 1)), (0, .ref (O 0 0)), (1, .int 0), (2, .int x)]) X dX9_tune_63 (by decide) rfl ?_
        refine g_iload X 0 dX9_tune_65 rfl ?_
        refine g_iload_n X 4 dX9_tune_67 rfl ?_
        refine g_icmp_ne (tgt := 74) X dX9_tune_68 (by decide) (fun c_68 => ?_) (fun c_68 => ?_)
        · refine g_aload_n X 2 dX9_tune_74 rfl ?_
          refine g_getf (v := .ref (O 9 0)) X fs_X9_35 0 rfl rfl dX9_tune_75 ?_
          refine g_aload_n X 2 dX9_tune_78 rfl ?_
          refine g_getf (v := .ref (O 3 0)) X fs_X9_74 0 rfl rfl dX9_tune_79 ?_
          refine g_callV (st2 := []) (S' := [wTS E O, wTw E (O 3 0) (O 4) (O 5) (tR v) (tN v), wSv E (O 4) (tA v), wSv E (O 5) (tB v), wPo E (O 9) (O 17) 8 (plR oa.1 oa.2 8, plH oa.2 8), wPt E (O 17) (Q 0) (Q 1) 8 (upT ta (plK oa.1 oa.2 8) (tCopy v (ta (plK oa.1 oa.2 8))))]) (q0 := 15) X (c_X1_push E (O 9) (O 17) 8 oa (Q 0) (Q 1) ta (O 3 0) (O 4) (O 5) v (by decide) (by decide) hra hha) cs_X9_144 rfl [1, 2, 3, 4, 5] [0] 6 rfl rfl (by decide) [wTS E O] rfl rfl rfl rfl (by simp only [List.map_cons, List.map_nil, fsPo, fsPt, fsSv, fsTS, fsTw]) rfl rfl rfl rfl (Nat.le_of_ble_eq_true rfl) dX9_tune_82 rfl ?_
          refine g_iload_n X 1 dX9_tune_85 rfl ?_
          refine g_if_eq (tgt := 101) X dX9_tune_86 (by decide) (fun c_86 => absurd c_86 (by decide)) (fun c_86 => ?_)
          refine g_aload_n X 2 dX9_tune_89 rfl ?_
          refine g_getf (v := .ref (O 3 0)) X fs_X9_74 0 rfl rfl dX9_tune_90 ?_
          refine g_iload_n X 4 dX9_tune_93 rfl ?_
          refine g_callV (st2 := [.int (b2i (inR x (nI 1) (nI 20)))]) (S' := [wTS E O, wTw E (O 3 0) (O 4) (O 5) (tR (tSetR v x)) (tN (tSetR v x)), wSv E (O 4) (tA (tSetR v x)), wSv E (O 5) (tB (tSetR v x)), wPo E (O 9) (O 17) 8 (plR oa.1 oa.2 8, plH oa.2 8), wPt E (O 17) (Q 0) (Q 1) 8 (upT ta (plK oa.1 oa.2 8) (tCopy v (ta (plK oa.1 oa.2 8))))]) (q0 := 0) X (c_X6_setRadius E (O 3 0) (O 4) (O 5) v x) cs_X9_182 rfl [1, 2, 3] [0, 4, 5] 6 rfl rfl (by decide) [wTS E O, wPo E (O 9) (O 17) 8 (plR oa.1 oa.2 8, plH oa.2 8), wPt E (O 17) (Q 0) (Q 1) 8 (upT ta (plK oa.1 oa.2 8) (tCopy v (ta (plK oa.1 oa.2 8))))] rfl rfl rfl rfl (by simp only [List.map_cons, List.map_nil, fsPo, fsPt, fsSv, fsTS, fsTw]) rfl rfl rfl rfl (Nat.le_of_ble_eq_true rfl) dX9_tune_94 rfl ?_
          refine g_pop X dX9_tune_97 rfl ?_
          refine g_goto (tgt := 110) X dX9_tune_98 (by decide) ?_
          refine g_iload X 0 dX9_tune_110 rfl ?_
          exact g_iretv (r := (tR v)) X hx rfl (by simp [tnV, tnB, tnA, c_16, c_27, c_68]) (by simp [tnT, tnB, tnA, pushO, pushT, c_16, c_27, c_68]) dX9_tune_112
        · refine g_bipush (v := (-2)) X dX9_tune_71 rfl ?_
          exact g_iretv (r := (-2)) X hx rfl (by simp [tnV, tnB, tnA, c_16, c_27, c_68]) (by simp [tnT, tnB, tnA, pushO, pushT, c_16, c_27, c_68]) dX9_tune_73
set_option maxHeartbeats 4000000 in
set_option maxRecDepth 100000 in
theorem c_X9_hasThing (E : GE) (O : Nat → Nat → Nat) (v : TV) (x : Int32) (hv : okT v) : CT E m_X9_hasThing [.ref (O 0 0), .int x] ([wTS E O, wTw E (O 3 0) (O 4) (O 5) (tR v) (tN v), wSv E (O 4) (tA v), wSv E (O 5) (tB v)].flatten) (some (.int (b2i (hasTh v x)))) ([wTS E O, wTw E (O 3 0) (O 4) (O 5) (tR v) (tN v), wSv E (O 4) (tA v), wSv E (O 5) (tB v)].flatten) := by
  refine CT.intro (by decide +kernel) (Nat.le_of_ble_eq_true rfl) (fun Γ X hx => ?_)
  refine GG.lv [0, 1] (lv' := [(0, .ref (O 0 0)), (1, .int x)]) rfl ?_
  refine g_iload_n X 1 dX9_hasThing_0 rfl ?_
  refine g_iconst (v := (nI 0)) X dX9_hasThing_1 rfl ?_
  refine g_bipush (v := (nI 15)) X dX9_hasThing_2 rfl ?_
  refine g_callSP (st2 := [.int (b2i (inR x (nI 0) (nI 15)))]) (ws' := [wTS E O, wTw E (O 3 0) (O 4) (O 5) (tR v) (tN v), wSv E (O 4) (tA v), wSv E (O 5) (tB v)].flatten) (wr := [wTS E O, wTw E (O 3 0) (O 4) (O 5) (tR v) (tN v), wSv E (O 4) (tA v), wSv E (O 5) (tB v)].flatten) X (c_X9_isWithin E x (nI 0) (nI 15)) cs_X9_140 rfl (List.Perm.refl _) rfl (List.Perm.refl _) rfl rfl (Nat.le_of_ble_eq_true rfl) dX9_hasThing_4 rfl ?_
  refine g_bif_ne (tgt := 12) X dX9_hasThing_7 (by decide) (fun c_7 => ?_) (fun c_7 => ?_)
  · refine g_iload_n X 1 dX9_hasThing_12 rfl ?_
    refine g_bipush (v := (nI 8)) X dX9_hasThing_13 rfl ?_
    refine g_icmp_ge (tgt := 27) X dX9_hasThing_15 (by decide) (fun c_15 => ?_) (fun c_15 => ?_)
    · refine g_aload_n X 0 dX9_hasThing_27 rfl ?_
      refine g_iconst (v := (nI 0)) X dX9_hasThing_28 rfl ?_
      refine g_iload_n X 1 dX9_hasThing_29 rfl ?_
      refine g_bipush (v := (nI 8)) X dX9_hasThing_30 rfl ?_
      refine g_isub X dX9_hasThing_32 ?_
      refine g_callVr (st2 := [.int (b2i (hasS v (nI 0) (x - (nI 8))))]) (q0 := 0) X (c_X9_hasStreet E O v (nI 0) (x - (nI 8)) (by first | assumption | omega)) cs_X9_128 rfl [0, 1, 2, 3] [] 4 rfl (by decide) rfl rfl rfl rfl rfl (Nat.le_of_ble_eq_true rfl) dX9_hasThing_33 rfl ?_
      exact g_zretv (r := (b2i (hasS v (nI 0) (x - (nI 8))))) X hx rfl (by simp [hasTh, b2i, c_7, c_15]; try rfl) (by rfl) dX9_hasThing_36
    · refine g_aload_n X 0 dX9_hasThing_18 rfl ?_
      refine g_iconst (v := (nI 0)) X dX9_hasThing_19 rfl ?_
      refine g_iload_n X 1 dX9_hasThing_20 rfl ?_
      refine g_callVr (st2 := [.int (b2i (hasM v (nI 0) x))]) (q0 := 0) X (c_X9_hasMeeting E O v (nI 0) x (by first | assumption | omega)) cs_X9_107 rfl [0, 1, 2, 3] [] 4 rfl (by decide) rfl rfl rfl rfl rfl (Nat.le_of_ble_eq_true rfl) dX9_hasThing_21 rfl ?_
      refine g_goto (tgt := 36) X dX9_hasThing_24 (by decide) ?_
      exact g_zretv (r := (b2i (hasM v (nI 0) x))) X hx rfl (by simp [hasTh, b2i, c_7, c_15]; try rfl) (by rfl) dX9_hasThing_36
  · refine g_iconst (v := (nI 0)) X dX9_hasThing_10 rfl ?_
    exact g_zretv (r := (nI 0)) X hx rfl (by simp [hasTh, b2i, c_7]; try rfl) (by rfl) dX9_hasThing_11
set_option maxHeartbeats 4000000 in
set_option maxRecDepth 100000 in
theorem c_X9_shelve (E : GE) (O : Nat → Nat → Nat) (v : TV) (f : Nat → Int32) (s : Int32) (p : Int32) (x : Int32) (hv : okT v) : CT E m_X9_shelve [.ref (O 0 0), .int s, .int p, .int x] ([wTS E O, wTw E (O 3 0) (O 4) (O 5) (tR v) (tN v), wSv E (O 4) (tA v), wSv E (O 5) (tB v), wSh E (O 11) f].flatten) (some (.int (shV v s p x))) ([wTS E O, wTw E (O 3 0) (O 4) (O 5) (tR v) (tN v), wSv E (O 4) (tA v), wSv E (O 5) (tB v), wSh E (O 11) (shF2 v f s p x)].flatten) := by
  refine CT.intro (by decide +kernel) (Nat.le_of_ble_eq_true rfl) (fun Γ X hx => ?_)
  refine GG.lv [0, 1, 2, 3] (lv' := [(0, .ref (O 0 0)), (1, .int s), (2, .int p), (3, .int x)]) rfl ?_
  refine g_aload_n X 0 dX9_shelve_0 rfl ?_
  refine g_getf (v := .ref (O 11 0)) X fs_X9_45 0 rfl rfl dX9_shelve_1 ?_
  refine g_iload_n X 1 dX9_shelve_4 rfl ?_
  refine g_iload_n X 2 dX9_shelve_5 rfl ?_
  refine g_callVr (st2 := [.int (b2i (inR s (nI 0) (nI 2) && inR p (nI 0) (nI 3)))]) (q0 := 0) X (c_X3_hasPlace E (O 11) f s p) cs_X9_244 rfl [4] [0, 1, 2, 3] 5 rfl (by decide) rfl rfl rfl rfl rfl (Nat.le_of_ble_eq_true rfl) dX9_shelve_6 rfl ?_
  refine g_bif_eq (tgt := 20) X dX9_shelve_9 (by decide) (fun c_9 => ?_) (fun c_9 => ?_)
  · refine g_iconst (v := (-1)) X dX9_shelve_20 rfl ?_
    exact g_iretv (r := (-1)) X hx rfl (by simp [shV, shB, shA, c_9]) (by simp [shF2, shB, shA, c_9]) dX9_shelve_21
  · refine g_aload_n X 0 dX9_shelve_12 rfl ?_
    refine g_iload_n X 3 dX9_shelve_13 rfl ?_
    refine g_callVr (st2 := [.int (b2i (hasTh v x))]) (q0 := 0) X (c_X9_hasThing E O v x (by first | assumption | omega)) cs_X9_247 rfl [0, 1, 2, 3] [4] 5 rfl (by decide) rfl rfl rfl rfl rfl (Nat.le_of_ble_eq_true rfl) dX9_shelve_14 rfl ?_
    refine g_bif_ne (tgt := 22) X dX9_shelve_17 (by decide) (fun c_17 => ?_) (fun c_17 => ?_)
    · refine g_iload_n X 1 dX9_shelve_22 rfl ?_
      refine g_iload_n X 3 dX9_shelve_23 rfl ?_
      refine g_callSP (st2 := [.int (b2i (shTakes s x))]) (ws' := [wTS E O, wTw E (O 3 0) (O 4) (O 5) (tR v) (tN v), wSv E (O 4) (tA v), wSv E (O 5) (tB v), wSh E (O 11) f].flatten) (wr := [wTS E O, wTw E (O 3 0) (O 4) (O 5) (tR v) (tN v), wSv E (O 4) (tA v), wSv E (O 5) (tB v), wSh E (O 11) f].flatten) X (c_X3_takes E s x) cs_X9_250 rfl (List.Perm.refl _) rfl (List.Perm.refl _) rfl rfl (Nat.le_of_ble_eq_true rfl) dX9_shelve_24 rfl ?_
      refine g_bif_ne (tgt := 33) X dX9_shelve_27 (by decide) (fun c_27 => ?_) (fun c_27 => ?_)
      · obtain ⟨q1, q2⟩ := Bool.and_eq_true_iff.mp c_9
        obtain ⟨s1, hs1, rfl⟩ := inR_nI q1 (by decide)
        obtain ⟨p1, hp1, rfl⟩ := inR_nI q2 (by decide)
        refine g_aload_n X 0 dX9_shelve_33 rfl ?_
        refine g_getf (v := .ref (O 11 0)) X fs_X9_45 0 rfl rfl dX9_shelve_34 ?_
        refine g_iload_n X 1 dX9_shelve_37 rfl ?_
        refine g_iload_n X 2 dX9_shelve_38 rfl ?_
        refine g_iload_n X 3 dX9_shelve_39 rfl ?_
        refine g_callV (st2 := []) (S' := [wTS E O, wTw E (O 3 0) (O 4) (O 5) (tR v) (tN v), wSv E (O 4) (tA v), wSv E (O 5) (tB v), wSh E (O 11) (upd f (s1 * 4 + p1) x)]) (q0 := 0) X (c_X3_put E (O 11) f s1 p1 x (by first | assumption | omega) (by first | assumption | omega)) cs_X9_253 rfl [4] [0, 1, 2, 3] 5 rfl rfl (by decide) [wTS E O, wTw E (O 3 0) (O 4) (O 5) (tR v) (tN v), wSv E (O 4) (tA v), wSv E (O 5) (tB v)] rfl rfl rfl rfl (by simp only [List.map_cons, List.map_nil, fsSh, fsSv, fsTS, fsTw]) rfl rfl rfl rfl (Nat.le_of_ble_eq_true rfl) dX9_shelve_40 rfl ?_
        refine g_iconst (v := (nI 1)) X dX9_shelve_43 rfl ?_
        exact g_iretv (r := (nI 1)) X hx rfl (by simp [shV, shB, shA, c_9, c_17, c_27]) (by simp [shF2, shB, shA, c_9, c_17, c_27, nI_clamp (show s1 < 2 ^ 31 by omega), nI_clamp (show p1 < 2 ^ 31 by omega)]) dX9_shelve_44
      · refine g_bipush (v := (-2)) X dX9_shelve_30 rfl ?_
        exact g_iretv (r := (-2)) X hx rfl (by simp [shV, shB, shA, c_9, c_17, c_27]) (by simp [shF2, shB, shA, c_9, c_17, c_27]) dX9_shelve_32
    · refine g_iconst (v := (-1)) X dX9_shelve_20 rfl ?_
      exact g_iretv (r := (-1)) X hx rfl (by simp [shV, shB, shA, c_9, c_17]) (by simp [shF2, shB, shA, c_9, c_17]) dX9_shelve_21
set_option maxHeartbeats 4000000 in
set_option maxRecDepth 100000 in
theorem c_X9_keep (E : GE) (O : Nat → Nat → Nat) (Q : Nat → Nat → Nat → Nat) (v : TV) (ok : PO) (tk : Nat → TV) (hrk : ∀ k, k < 2 → ok.1 k < 2) (hhk : ok.2 ≤ 2) : CT E m_X9_keep [.ref (O 0 0)] ([wTS E O, wTw E (O 3 0) (O 4) (O 5) (tR v) (tN v), wSv E (O 4) (tA v), wSv E (O 5) (tB v), wPo E (O 10) (O 18) 2 ok, wPt E (O 18) (Q 2) (Q 3) 2 tk].flatten) (some (.int (if ok.2 < 2 then nI (ok.2 + 1) else -3))) ([wTS E O, wTw E (O 3 0) (O 4) (O 5) (tR v) (tN v), wSv E (O 4) (tA v), wSv E (O 5) (tB v), wPo E (O 10) (O 18) 2 (if ok.2 < 2 then pushO 2 ok else ok), wPt E (O 18) (Q 2) (Q 3) 2 (if ok.2 < 2 then pushT 2 ok tk v else tk)].flatten) := by
  refine CT.intro (by decide +kernel) (Nat.le_of_ble_eq_true rfl) (fun Γ X hx => ?_)
  refine GG.lv [0] (lv' := [(0, .ref (O 0 0))]) rfl ?_
  refine g_aload_n X 0 dX9_keep_0 rfl ?_
  refine g_getf (v := .ref (O 10 0)) X fs_X9_39 0 rfl rfl dX9_keep_1 ?_
  refine g_callVr (st2 := [.int (nI ok.2)]) (q0 := 0) X (c_X1_height E (O 10) (O 18) 2 ok) cs_X9_192 rfl [4] [0, 1, 2, 3, 5] 6 rfl (by decide) rfl rfl rfl rfl rfl (Nat.le_of_ble_eq_true rfl) dX9_keep_4 rfl ?_
  refine g_iconst (v := (nI 2)) X dX9_keep_7 rfl ?_
  refine g_icmp_lt (tgt := 14) X dX9_keep_8 (by decide) (fun c_8 => ?_) (fun c_8 => ?_)
  · have f_c_8 : ok.2 < 2 := n_lt (by omega) (by omega) c_8
    have fn_c_8 := Nat.not_le.mpr f_c_8
    refine g_aload_n X 0 dX9_keep_14 rfl ?_
    refine g_getf (v := .ref (O 10 0)) X fs_X9_39 0 rfl rfl dX9_keep_15 ?_
    refine g_aload_n X 0 dX9_keep_18 rfl ?_
    refine g_getf (v := .ref (O 3 0)) X fs_X9_74 0 rfl rfl dX9_keep_19 ?_
    refine g_callV (st2 := []) (S' := [wTS E O, wTw E (O 3 0) (O 4) (O 5) (tR v) (tN v), wSv E (O 4) (tA v), wSv E (O 5) (tB v), wPo E (O 10) (O 18) 2 (plR ok.1 ok.2 2, plH ok.2 2), wPt E (O 18) (Q 2) (Q 3) 2 (upT tk (plK ok.1 ok.2 2) (tCopy v (tk (plK ok.1 ok.2 2))))]) (q0 := 15) X (c_X1_push E (O 10) (O 18) 2 ok (Q 2) (Q 3) tk (O 3 0) (O 4) (O 5) v (by decide) (by decide) hrk hhk) cs_X9_144 rfl [1, 2, 3, 4, 5] [0] 6 rfl rfl (by decide) [wTS E O] rfl rfl rfl rfl (by simp only [List.map_cons, List.map_nil, fsPo, fsPt, fsSv, fsTS, fsTw]) rfl rfl rfl rfl (Nat.le_of_ble_eq_true rfl) dX9_keep_22 rfl ?_
    refine g_aload_n X 0 dX9_keep_25 rfl ?_
    refine g_getf (v := .ref (O 10 0)) X fs_X9_39 0 rfl rfl dX9_keep_26 ?_
    refine g_callVr (st2 := [.int (nI (plH ok.2 2))]) (q0 := 0) X (c_X1_height E (O 10) (O 18) 2 (plR ok.1 ok.2 2, plH ok.2 2)) cs_X9_192 rfl [4] [0, 1, 2, 3, 5] 6 rfl (by decide) rfl rfl rfl rfl rfl (Nat.le_of_ble_eq_true rfl) dX9_keep_29 rfl ?_
    exact g_iretv (r := (nI (plH ok.2 2))) X hx rfl (by simp only [if_pos f_c_8]; unfold plH; rw [if_pos f_c_8]) (by simp only [if_pos f_c_8, pushO, pushT]) dX9_keep_32
  · have f_c_8 : 2 ≤ ok.2 := n_nlt (by omega) (by omega) c_8
    have fn_c_8 := Nat.not_lt.mpr f_c_8
    refine g_bipush (v := (-3)) X dX9_keep_11 rfl ?_
    exact g_iretv (r := (-3)) X hx rfl (by rw [if_neg fn_c_8]) (by simp only [if_neg fn_c_8]) dX9_keep_13
set_option maxHeartbeats 4000000 in
set_option maxRecDepth 100000 in
theorem c_X9_back (E : GE) (O : Nat → Nat → Nat) (Q : Nat → Nat → Nat → Nat) (v : TV) (oa : PO) (ok : PO) (tk : Nat → TV) (hrk : ∀ k, k < 2 → ok.1 k < 2) (hhk : ok.2 ≤ 2) : CT E m_X9_back [.ref (O 0 0)] ([wTS E O, wTw E (O 3 0) (O 4) (O 5) (tR v) (tN v), wSv E (O 4) (tA v), wSv E (O 5) (tB v), wPo E (O 9) (O 17) 8 oa, wPo E (O 10) (O 18) 2 ok, wPt E (O 18) (Q 2) (Q 3) 2 tk].flatten) (some (.int (if 0 < ok.2 then nI (ok.2 - 1) else -2))) ([wTS E O, wTw E (O 3 0) (O 4) (O 5) (tR (if 0 < ok.2 then tCopy (tk (ok.1 (ok.2 - 1))) v else v)) (tN (if 0 < ok.2 then tCopy (tk (ok.1 (ok.2 - 1))) v else v)), wSv E (O 4) (tA (if 0 < ok.2 then tCopy (tk (ok.1 (ok.2 - 1))) v else v)), wSv E (O 5) (tB (if 0 < ok.2 then tCopy (tk (ok.1 (ok.2 - 1))) v else v)), wPo E (O 9) (O 17) 8 (if 0 < ok.2 then (oa.1, 0) else oa), wPo E (O 10) (O 18) 2 (ok.1, ok.2 - 1), wPt E (O 18) (Q 2) (Q 3) 2 tk].flatten) := by
  refine CT.intro (by decide +kernel) (Nat.le_of_ble_eq_true rfl) (fun Γ X hx => ?_)
  refine GG.lv [0] (lv' := [(0, .ref (O 0 0))]) rfl ?_
  refine g_aload_n X 0 dX9_back_0 rfl ?_
  refine g_getf (v := .ref (O 10 0)) X fs_X9_39 0 rfl rfl dX9_back_1 ?_
  refine g_aload_n X 0 dX9_back_4 rfl ?_
  refine g_getf (v := .ref (O 3 0)) X fs_X9_74 0 rfl rfl dX9_back_5 ?_
  refine g_callV (st2 := [.int (b2i (decide (0 < ok.2)))]) (S' := [wTS E O, wTw E (O 3 0) (O 4) (O 5) (tR (if 0 < ok.2 then tCopy (tk (ok.1 (ok.2 - 1))) v else v)) (tN (if 0 < ok.2 then tCopy (tk (ok.1 (ok.2 - 1))) v else v)), wSv E (O 4) (tA (if 0 < ok.2 then tCopy (tk (ok.1 (ok.2 - 1))) v else v)), wSv E (O 5) (tB (if 0 < ok.2 then tCopy (tk (ok.1 (ok.2 - 1))) v else v)), wPo E (O 9) (O 17) 8 oa, wPo E (O 10) (O 18) 2 (ok.1, ok.2 - 1), wPt E (O 18) (Q 2) (Q 3) 2 tk]) (q0 := 15) X (c_X1_pop E (O 10) (O 18) 2 ok (Q 2) (Q 3) tk (O 3 0) (O 4) (O 5) v (by decide) (by decide) hrk hhk) cs_X9_188 rfl [1, 2, 3, 5, 6] [0, 4] 7 rfl rfl (by decide) [wTS E O, wPo E (O 9) (O 17) 8 oa] rfl rfl rfl rfl (by simp only [List.map_cons, List.map_nil, fsPo, fsPt, fsSv, fsTS, fsTw]) rfl rfl rfl rfl (Nat.le_of_ble_eq_true rfl) dX9_back_8 rfl ?_
  refine g_bif_ne (tgt := 17) X dX9_back_11 (by decide) (fun c_11 => ?_) (fun c_11 => ?_)
  · refine g_aload_n X 0 dX9_back_17 rfl ?_
    refine g_getf (v := .ref (O 9 0)) X fs_X9_35 0 rfl rfl dX9_back_18 ?_
    refine g_callV (st2 := []) (S' := [wTS E O, wTw E (O 3 0) (O 4) (O 5) (tR (if 0 < ok.2 then tCopy (tk (ok.1 (ok.2 - 1))) v else v)) (tN (if 0 < ok.2 then tCopy (tk (ok.1 (ok.2 - 1))) v else v)), wSv E (O 4) (tA (if 0 < ok.2 then tCopy (tk (ok.1 (ok.2 - 1))) v else v)), wSv E (O 5) (tB (if 0 < ok.2 then tCopy (tk (ok.1 (ok.2 - 1))) v else v)), wPo E (O 9) (O 17) 8 (oa.1, 0), wPo E (O 10) (O 18) 2 (ok.1, ok.2 - 1), wPt E (O 18) (Q 2) (Q 3) 2 tk]) (q0 := 0) X (c_X1_clear E (O 9) (O 17) 8 oa) cs_X9_106 rfl [4] [0, 1, 2, 3, 5, 6] 7 rfl rfl (by decide) [wTS E O, wTw E (O 3 0) (O 4) (O 5) (tR (if 0 < ok.2 then tCopy (tk (ok.1 (ok.2 - 1))) v else v)) (tN (if 0 < ok.2 then tCopy (tk (ok.1 (ok.2 - 1))) v else v)), wSv E (O 4) (tA (if 0 < ok.2 then tCopy (tk (ok.1 (ok.2 - 1))) v else v)), wSv E (O 5) (tB (if 0 < ok.2 then tCopy (tk (ok.1 (ok.2 - 1))) v else v)), wPo E (O 10) (O 18) 2 (ok.1, ok.2 - 1), wPt E (O 18) (Q 2) (Q 3) 2 tk] rfl rfl rfl rfl (by simp only [List.map_cons, List.map_nil, fsPo, fsPt, fsSv, fsTS, fsTw]) rfl rfl rfl rfl (Nat.le_of_ble_eq_true rfl) dX9_back_21 rfl ?_
    refine g_aload_n X 0 dX9_back_24 rfl ?_
    refine g_getf (v := .ref (O 10 0)) X fs_X9_39 0 rfl rfl dX9_back_25 ?_
    refine g_callVr (st2 := [.int (nI (ok.2 - 1))]) (q0 := 0) X (c_X1_height E (O 10) (O 18) 2 (ok.1, ok.2 - 1)) cs_X9_192 rfl [5] [0, 1, 2, 3, 4, 6] 7 rfl (by decide) rfl rfl rfl rfl rfl (Nat.le_of_ble_eq_true rfl) dX9_back_28 rfl ?_
    exact g_iretv (r := (nI (ok.2 - 1))) X hx rfl (by simp at c_11; simp [c_11]) (by simp at c_11; simp [c_11]) dX9_back_31
  · refine g_bipush (v := (-2)) X dX9_back_14 rfl ?_
    exact g_iretv (r := (-2)) X hx rfl (by simp at c_11; simp [c_11]) (by simp at c_11; simp [c_11]) dX9_back_16
set_option maxHeartbeats 4000000 in
set_option maxRecDepth 100000 in
theorem c_X9_belief (E : GE) (O : Nat → Nat → Nat) (v : TV) (P : Nat) (B : Nat → Nat → Int32) (C : Nat → Nat → Int32) (M : Nat → Int32) (N : Nat → Int32) (i : Int32) (j : Int32) (hv : okT v) : CT E m_X9_belief [.ref (O 0 0), .int i, .int j] ([wTS E O, wTw E (O 3 0) (O 4) (O 5) (tR v) (tN v), wSv E (O 4) (tA v), wSv E (O 5) (tB v), wMo E (O 12) (O 13) (O 14) P, wRw E (O 13) B, wRw E (O 14) C, wAr E (O 12 3) 8 M, wAr E (O 12 4) 8 N].flatten) (some (.int (belV v (B, C) i j))) ([wTS E O, wTw E (O 3 0) (O 4) (O 5) (tR v) (tN v), wSv E (O 4) (tA v), wSv E (O 5) (tB v), wMo E (O 12) (O 13) (O 14) (if hasM v (nI 0) i && hasM v (nI 1) j then (mkP v (B, C) M N).1 else P), wRw E (O 13) (if hasM v (nI 0) i && hasM v (nI 1) j then (mkB v (B, C)).1 else B), wRw E (O 14) (if hasM v (nI 0) i && hasM v (nI 1) j then (mkB v (B, C)).2 else C), wAr E (O 12 3) 8 (if hasM v (nI 0) i && hasM v (nI 1) j then (mkP v (B, C) M N).2.1 else M), wAr E (O 12 4) 8 (if hasM v (nI 0) i && hasM v (nI 1) j then (mkP v (B, C) M N).2.2 else N)].flatten) := by
  refine CT.intro (by decide +kernel) (Nat.le_of_ble_eq_true rfl) (fun Γ X hx => ?_)
  refine GG.lv [0, 1, 2] (lv' := [(0, .ref (O 0 0)), (1, .int i), (2, .int j)]) rfl ?_
  refine g_aload_n X 0 dX9_belief_0 rfl ?_
  refine g_iconst (v := (nI 0)) X dX9_belief_1 rfl ?_
  refine g_iload_n X 1 dX9_belief_2 rfl ?_
  refine g_callVr (st2 := [.int (b2i (hasM v (nI 0) i))]) (q0 := 0) X (c_X9_hasMeeting E O v (nI 0) i (by first | assumption | omega)) cs_X9_107 rfl [0, 1, 2, 3] [4, 5, 6, 7, 8] 9 rfl (by decide) rfl rfl rfl rfl rfl (Nat.le_of_ble_eq_true rfl) dX9_belief_3 rfl ?_
  refine g_bif_eq (tgt := 18) X dX9_belief_6 (by decide) (fun c_6 => ?_) (fun c_6 => ?_)
  · refine g_iconst (v := (-1)) X dX9_belief_18 rfl ?_
    exact g_iretv (r := (-1)) X hx rfl (by simp [belV, c_6]) (by simp only [mkB, mkP, c_6, decide_true, decide_false, not_true_eq_false, not_false_eq_true, Bool.true_and, Bool.false_and, Bool.and_true, Bool.and_false, Bool.true_or, Bool.false_or, Bool.or_true, Bool.or_false, and_true, true_and, and_false, false_and, or_true, true_or, or_false, false_or, if_true, if_false, Bool.false_eq_true, decide_eq_true_eq]) dX9_belief_19
  · refine g_aload_n X 0 dX9_belief_9 rfl ?_
    refine g_iconst (v := (nI 1)) X dX9_belief_10 rfl ?_
    refine g_iload_n X 2 dX9_belief_11 rfl ?_
    refine g_callVr (st2 := [.int (b2i (hasM v (nI 1) j))]) (q0 := 0) X (c_X9_hasMeeting E O v (nI 1) j (by first | assumption | omega)) cs_X9_107 rfl [0, 1, 2, 3] [4, 5, 6, 7, 8] 9 rfl (by decide) rfl rfl rfl rfl rfl (Nat.le_of_ble_eq_true rfl) dX9_belief_12 rfl ?_
    refine g_bif_ne (tgt := 20) X dX9_belief_15 (by decide) (fun c_15 => ?_) (fun c_15 => ?_)
    · refine g_aload_n X 0 dX9_belief_20 rfl ?_
      refine g_getf (v := .ref (O 12 0)) X fs_X9_52 0 rfl rfl dX9_belief_21 ?_
      refine g_aload_n X 0 dX9_belief_24 rfl ?_
      refine g_getf (v := .ref (O 3 0)) X fs_X9_74 0 rfl rfl dX9_belief_25 ?_
      refine g_callV (st2 := []) (S' := [wTS E O, wTw E (O 3 0) (O 4) (O 5) (tR v) (tN v), wSv E (O 4) (tA v), wSv E (O 5) (tB v), wMo E (O 12) (O 13) (O 14) ((puAll false (belAll v (B, C)).1 M N).1), wRw E (O 13) ((belAll v (B, C)).1), wRw E (O 14) ((belAll v (B, C)).2), wAr E (O 12 3) 8 ((puAll false (belAll v (B, C)).1 M N).2.1), wAr E (O 12 4) 8 ((puAll false (belAll v (B, C)).1 M N).2.2)]) (q0 := 0) X (c_X0_make E (O 12) (O 13) (O 14) P B C M N (O 3 0) (O 4) (O 5) v (by first | assumption | omega)) cs_X9_195 rfl [4, 5, 6, 7, 8, 1, 2, 3] [0] 9 rfl rfl (by decide) [wTS E O] rfl rfl rfl rfl (by simp only [List.map_cons, List.map_nil, fsAr, fsMo, fsRw, fsSv, fsTS, fsTw]) rfl rfl rfl rfl (Nat.le_of_ble_eq_true rfl) dX9_belief_28 rfl ?_
      refine g_aload_n X 0 dX9_belief_31 rfl ?_
      refine g_getf (v := .ref (O 12 0)) X fs_X9_52 0 rfl rfl dX9_belief_32 ?_
      refine g_iload_n X 1 dX9_belief_35 rfl ?_
      refine g_iload_n X 2 dX9_belief_36 rfl ?_
      refine g_callVr (st2 := [.int (b2i (decide (¬ bIn ((belAll v (B, C)).1) i j ≤ 0)))]) (q0 := 0) X (c_X0_isPair E (O 12) (O 13) (O 14) ((puAll false (belAll v (B, C)).1 M N).1) ((belAll v (B, C)).1) i j) cs_X9_198 rfl [4, 5] [0, 1, 2, 3, 6, 7, 8] 9 rfl (by decide) rfl rfl rfl rfl rfl (Nat.le_of_ble_eq_true rfl) dX9_belief_37 rfl ?_
      refine g_bif_eq (tgt := 55) X dX9_belief_40 (by decide) (fun c_40 => ?_) (fun c_40 => ?_)
      · have e40 : bIn (belAll v (B, C)).1 i j ≤ 0 := by simpa using c_40
        refine g_bipush (v := (-4)) X dX9_belief_55 rfl ?_
        exact g_iretv (r := (-4)) X hx rfl (by simp only [belV, mkB, c_6, c_15, c_40, decide_true, decide_false, not_true_eq_false, not_false_eq_true, Bool.true_and, Bool.false_and, Bool.and_true, Bool.and_false, Bool.true_or, Bool.false_or, Bool.or_true, Bool.or_false, and_true, true_and, and_false, false_and, or_true, true_or, or_false, false_or, if_true, if_false, Bool.false_eq_true, decide_eq_true_eq]; exact if_pos e40) (by simp only [mkB, mkP, c_6, c_15, c_40, decide_true, decide_false, not_true_eq_false, not_false_eq_true, Bool.true_and, Bool.false_and, Bool.and_true, Bool.and_false, Bool.true_or, Bool.false_or, Bool.or_true, Bool.or_false, and_true, true_and, and_false, false_and, or_true, true_or, or_false, false_or, if_true, if_false, Bool.false_eq_true, decide_eq_true_eq]) dX9_belief_57
      · have e40 : ¬ bIn (belAll v (B, C)).1 i j ≤ 0 := by simpa using c_40
        refine g_aload_n X 0 dX9_belief_43 rfl ?_
        refine g_getf (v := .ref (O 12 0)) X fs_X9_52 0 rfl rfl dX9_belief_44 ?_
        refine g_iload_n X 1 dX9_belief_47 rfl ?_
        refine g_iload_n X 2 dX9_belief_48 rfl ?_
        refine g_callVr (st2 := [.int (bIn ((belAll v (B, C)).1) i j)]) (q0 := 0) X (c_X0_beliefIn E (O 12) (O 13) (O 14) ((puAll false (belAll v (B, C)).1 M N).1) ((belAll v (B, C)).1) i j) cs_X9_201 rfl [4, 5] [0, 1, 2, 3, 6, 7, 8] 9 rfl (by decide) rfl rfl rfl rfl rfl (Nat.le_of_ble_eq_true rfl) dX9_belief_49 rfl ?_
        refine g_goto (tgt := 57) X dX9_belief_52 (by decide) ?_
        exact g_iretv (r := (bIn ((belAll v (B, C)).1) i j)) X hx rfl (by simp only [belV, mkB, c_6, c_15, c_40, decide_true, decide_false, not_true_eq_false, not_false_eq_true, Bool.true_and, Bool.false_and, Bool.and_true, Bool.and_false, Bool.true_or, Bool.false_or, Bool.or_true, Bool.or_false, and_true, true_and, and_false, false_and, or_true, true_or, or_false, false_or, if_true, if_false, Bool.false_eq_true, decide_eq_true_eq]; exact if_neg e40) (by simp only [mkB, mkP, c_6, c_15, c_40, decide_true, decide_false, not_true_eq_false, not_false_eq_true, Bool.true_and, Bool.false_and, Bool.and_true, Bool.and_false, Bool.true_or, Bool.false_or, Bool.or_true, Bool.or_false, and_true, true_and, and_false, false_and, or_true, true_or, or_false, false_or, if_true, if_false, Bool.false_eq_true, decide_eq_true_eq]) dX9_belief_57
    · refine g_iconst (v := (-1)) X dX9_belief_18 rfl ?_
      exact g_iretv (r := (-1)) X hx rfl (by simp [belV, c_6, c_15]) (by simp only [mkB, mkP, c_6, c_15, decide_true, decide_false, not_true_eq_false, not_false_eq_true, Bool.true_and, Bool.false_and, Bool.and_true, Bool.and_false, Bool.true_or, Bool.false_or, Bool.or_true, Bool.or_false, and_true, true_and, and_false, false_and, or_true, true_or, or_false, false_or, if_true, if_false, Bool.false_eq_true, decide_eq_true_eq]) dX9_belief_19
set_option maxHeartbeats 4000000 in
set_option maxRecDepth 100000 in
theorem c_X9_match (E : GE) (O : Nat → Nat → Nat) (v : TV) (P : Nat) (B : Nat → Nat → Int32) (C : Nat → Nat → Int32) (M : Nat → Int32) (N : Nat → Int32) (s : Int32) (i : Int32) (hv : okT v) : CT E m_X9_match [.ref (O 0 0), .int s, .int i] ([wTS E O, wTw E (O 3 0) (O 4) (O 5) (tR v) (tN v), wSv E (O 4) (tA v), wSv E (O 5) (tB v), wMo E (O 12) (O 13) (O 14) P, wRw E (O 13) B, wRw E (O 14) C, wAr E (O 12 3) 8 M, wAr E (O 12 4) 8 N].flatten) (some (.int (matV v (mkP v (B, C) M N).2.1 (mkP v (B, C) M N).2.2 s i))) ([wTS E O, wTw E (O 3 0) (O 4) (O 5) (tR v) (tN v), wSv E (O 4) (tA v), wSv E (O 5) (tB v), wMo E (O 12) (O 13) (O 14) (if hasM v s i then (mkP v (B, C) M N).1 else P), wRw E (O 13) (if hasM v s i then (mkB v (B, C)).1 else B), wRw E (O 14) (if hasM v s i then (mkB v (B, C)).2 else C), wAr E (O 12 3) 8 (if hasM v s i then (mkP v (B, C) M N).2.1 else M), wAr E (O 12 4) 8 (if hasM v s i then (mkP v (B, C) M N).2.2 else N)].flatten) := by
  refine CT.intro (by decide +kernel) (Nat.le_of_ble_eq_true rfl) (fun Γ X hx => ?_)
  refine GG.lv [0, 1, 2] (lv' := [(0, .ref (O 0 0)), (1, .int s), (2, .int i)]) rfl ?_
  have hA : okS (tA v) := hv.1
  have hB : okS (tB v) := hv.2.1
  have hv1 : sM (tA v) ≤ 8 := hA.1
  have hv2 : sS (tA v) ≤ 8 := hA.2
  have hv3 : sM (tB v) ≤ 8 := hB.1
  have hv4 : sS (tB v) ≤ 8 := hB.2
  have hv5 : tN v ≤ 3 := hv.2.2
  refine g_aload_n X 0 dX9_match_0 rfl ?_
  refine g_iload_n X 1 dX9_match_1 rfl ?_
  refine g_iload_n X 2 dX9_match_2 rfl ?_
  refine g_callVr (st2 := [.int (b2i (hasM v s i))]) (q0 := 0) X (c_X9_hasMeeting E O v s i (by first | assumption | omega)) cs_X9_107 rfl [0, 1, 2, 3] [4, 5, 6, 7, 8] 9 rfl (by decide) rfl rfl rfl rfl rfl (Nat.le_of_ble_eq_true rfl) dX9_match_3 rfl ?_
  refine g_bif_ne (tgt := 11) X dX9_match_6 (by decide) (fun c_6 => ?_) (fun c_6 => ?_)
  · rcases hasM_or hv c_6 with ⟨rfl, j, hj, rfl⟩ | ⟨rfl, j, hj, rfl⟩
    · refine g_aload_n X 0 dX9_match_11 rfl ?_
      refine g_getf (v := .ref (O 12 0)) X fs_X9_52 0 rfl rfl dX9_match_12 ?_
      refine g_aload_n X 0 dX9_match_15 rfl ?_
      refine g_getf (v := .ref (O 3 0)) X fs_X9_74 0 rfl rfl dX9_match_16 ?_
      refine g_callV (st2 := []) (S' := [wTS E O, wTw E (O 3 0) (O 4) (O 5) (tR v) (tN v), wSv E (O 4) (tA v), wSv E (O 5) (tB v), wMo E (O 12) (O 13) (O 14) ((puAll false (belAll v (B, C)).1 M N).1), wRw E (O 13) ((belAll v (B, C)).1), wRw E (O 14) ((belAll v (B, C)).2), wAr E (O 12 3) 8 ((puAll false (belAll v (B, C)).1 M N).2.1), wAr E (O 12 4) 8 ((puAll false (belAll v (B, C)).1 M N).2.2)]) (q0 := 0) X (c_X0_make E (O 12) (O 13) (O 14) P B C M N (O 3 0) (O 4) (O 5) v (by first | assumption | omega)) cs_X9_195 rfl [4, 5, 6, 7, 8, 1, 2, 3] [0] 9 rfl rfl (by decide) [wTS E O] rfl rfl rfl rfl (by simp only [List.map_cons, List.map_nil, fsAr, fsMo, fsRw, fsSv, fsTS, fsTw]) rfl rfl rfl rfl (Nat.le_of_ble_eq_true rfl) dX9_match_19 rfl ?_
      refine g_aload_n X 0 dX9_match_22 rfl ?_
      refine g_getf (v := .ref (O 12 0)) X fs_X9_52 0 rfl rfl dX9_match_23 ?_
      refine g_iload_n X 1 dX9_match_26 rfl ?_
      refine g_iload_n X 2 dX9_match_27 rfl ?_
      refine g_callVr (st2 := [.int (mtI ((puAll false (belAll v (B, C)).1 M N).2.1) (nI j))]) (q0 := 0) X (c_X0_mateOf_0 E (O 12) (O 13) (O 14) ((puAll false (belAll v (B, C)).1 M N).1) ((puAll false (belAll v (B, C)).1 M N).2.1) (nI j)) cs_X9_204 rfl [4, 7] [0, 1, 2, 3, 5, 6, 8] 9 rfl (by decide) rfl rfl rfl rfl rfl (Nat.le_of_ble_eq_true rfl) dX9_match_28 rfl ?_
      refine g_istore_n (lv' := [(3, .int (mtI ((puAll false (belAll v (B, C)).1 M N).2.1) (nI j))), (0, .ref (O 0 0)), (1, .int (nI 0)), (2, .int (nI j))]) X dX9_match_31 (by decide) rfl ?_
      refine g_iload_n X 0 dX9_match_32 rfl ?_
      refine g_iconst (v := (-1)) X dX9_match_33 rfl ?_
      refine g_icmp_ne (tgt := 42) X dX9_match_34 (by decide) (fun c_34 => ?_) (fun c_34 => ?_)
      · refine g_iload_n X 0 dX9_match_42 rfl ?_
        exact g_iretv (r := (mtI ((puAll false (belAll v (B, C)).1 M N).2.1) (nI j))) X hx rfl (by simp only [matV, mkP, c_6, c_34, show (nI 1 = nI 0) = False from by decide, decide_true, decide_false, not_true_eq_false, not_false_eq_true, Bool.true_and, Bool.false_and, Bool.and_true, Bool.and_false, Bool.true_or, Bool.false_or, Bool.or_true, Bool.or_false, and_true, true_and, and_false, false_and, or_true, true_or, or_false, false_or, if_true, if_false, Bool.false_eq_true, decide_eq_true_eq]) (by simp only [mkB, mkP, c_6, c_34, decide_true, decide_false, not_true_eq_false, not_false_eq_true, Bool.true_and, Bool.false_and, Bool.and_true, Bool.and_false, Bool.true_or, Bool.false_or, Bool.or_true, Bool.or_false, and_true, true_and, and_false, false_and, or_true, true_or, or_false, false_or, if_true, if_false, Bool.false_eq_true, decide_eq_true_eq]) dX9_match_43
      · refine g_bipush (v := (-4)) X dX9_match_37 rfl ?_
        refine g_goto (tgt := 43) X dX9_match_39 (by decide) ?_
        exact g_iretv (r := (-4)) X hx rfl (by simp only [matV, mkP, c_6, c_34, show (nI 1 = nI 0) = False from by decide, decide_true, decide_false, not_true_eq_false, not_false_eq_true, Bool.true_and, Bool.false_and, Bool.and_true, Bool.and_false, Bool.true_or, Bool.false_or, Bool.or_true, Bool.or_false, and_true, true_and, and_false, false_and, or_true, true_or, or_false, false_or, if_true, if_false, Bool.false_eq_true, decide_eq_true_eq]) (by simp only [mkB, mkP, c_6, c_34, decide_true, decide_false, not_true_eq_false, not_false_eq_true, Bool.true_and, Bool.false_and, Bool.and_true, Bool.and_false, Bool.true_or, Bool.false_or, Bool.or_true, Bool.or_false, and_true, true_and, and_false, false_and, or_true, true_or, or_false, false_or, if_true, if_false, Bool.false_eq_true, decide_eq_true_eq]) dX9_match_43
    · refine g_aload_n X 0 dX9_match_11 rfl ?_
      refine g_getf (v := .ref (O 12 0)) X fs_X9_52 0 rfl rfl dX9_match_12 ?_
      refine g_aload_n X 0 dX9_match_15 rfl ?_
      refine g_getf (v := .ref (O 3 0)) X fs_X9_74 0 rfl rfl dX9_match_16 ?_
      refine g_callV (st2 := []) (S' := [wTS E O, wTw E (O 3 0) (O 4) (O 5) (tR v) (tN v), wSv E (O 4) (tA v), wSv E (O 5) (tB v), wMo E (O 12) (O 13) (O 14) ((puAll false (belAll v (B, C)).1 M N).1), wRw E (O 13) ((belAll v (B, C)).1), wRw E (O 14) ((belAll v (B, C)).2), wAr E (O 12 3) 8 ((puAll false (belAll v (B, C)).1 M N).2.1), wAr E (O 12 4) 8 ((puAll false (belAll v (B, C)).1 M N).2.2)]) (q0 := 0) X (c_X0_make E (O 12) (O 13) (O 14) P B C M N (O 3 0) (O 4) (O 5) v (by first | assumption | omega)) cs_X9_195 rfl [4, 5, 6, 7, 8, 1, 2, 3] [0] 9 rfl rfl (by decide) [wTS E O] rfl rfl rfl rfl (by simp only [List.map_cons, List.map_nil, fsAr, fsMo, fsRw, fsSv, fsTS, fsTw]) rfl rfl rfl rfl (Nat.le_of_ble_eq_true rfl) dX9_match_19 rfl ?_
      refine g_aload_n X 0 dX9_match_22 rfl ?_
      refine g_getf (v := .ref (O 12 0)) X fs_X9_52 0 rfl rfl dX9_match_23 ?_
      refine g_iload_n X 1 dX9_match_26 rfl ?_
      refine g_iload_n X 2 dX9_match_27 rfl ?_
      refine g_callVr (st2 := [.int (mtI ((puAll false (belAll v (B, C)).1 M N).2.2) (nI j))]) (q0 := 0) X (c_X0_mateOf_1 E (O 12) (O 13) (O 14) ((puAll false (belAll v (B, C)).1 M N).1) ((puAll false (belAll v (B, C)).1 M N).2.2) (nI j)) cs_X9_204 rfl [4, 8] [0, 1, 2, 3, 5, 6, 7] 9 rfl (by decide) rfl rfl rfl rfl rfl (Nat.le_of_ble_eq_true rfl) dX9_match_28 rfl ?_
      refine g_istore_n (lv' := [(3, .int (mtI ((puAll false (belAll v (B, C)).1 M N).2.2) (nI j))), (0, .ref (O 0 0)), (1, .int (nI 1)), (2, .int (nI j))]) X dX9_match_31 (by decide) rfl ?_
      refine g_iload_n X 0 dX9_match_32 rfl ?_
      refine g_iconst (v := (-1)) X dX9_match_33 rfl ?_
      refine g_icmp_ne (tgt := 42) X dX9_match_34 (by decide) (fun c_34 => ?_) (fun c_34 => ?_)
      · refine g_iload_n X 0 dX9_match_42 rfl ?_
        exact g_iretv (r := (mtI ((puAll false (belAll v (B, C)).1 M N).2.2) (nI j))) X hx rfl (by simp only [matV, mkP, c_6, c_34, show (nI 1 = nI 0) = False from by decide, decide_true, decide_false, not_true_eq_false, not_false_eq_true, Bool.true_and, Bool.false_and, Bool.and_true, Bool.and_false, Bool.true_or, Bool.false_or, Bool.or_true, Bool.or_false, and_true, true_and, and_false, false_and, or_true, true_or, or_false, false_or, if_true, if_false, Bool.false_eq_true, decide_eq_true_eq]) (by simp only [mkB, mkP, c_6, c_34, decide_true, decide_false, not_true_eq_false, not_false_eq_true, Bool.true_and, Bool.false_and, Bool.and_true, Bool.and_false, Bool.true_or, Bool.false_or, Bool.or_true, Bool.or_false, and_true, true_and, and_false, false_and, or_true, true_or, or_false, false_or, if_true, if_false, Bool.false_eq_true, decide_eq_true_eq]) dX9_match_43
      · refine g_bipush (v := (-4)) X dX9_match_37 rfl ?_
        refine g_goto (tgt := 43) X dX9_match_39 (by decide) ?_
        exact g_iretv (r := (-4)) X hx rfl (by simp only [matV, mkP, c_6, c_34, show (nI 1 = nI 0) = False from by decide, decide_true, decide_false, not_true_eq_false, not_false_eq_true, Bool.true_and, Bool.false_and, Bool.and_true, Bool.and_false, Bool.true_or, Bool.false_or, Bool.or_true, Bool.or_false, and_true, true_and, and_false, false_and, or_true, true_or, or_false, false_or, if_true, if_false, Bool.false_eq_true, decide_eq_true_eq]) (by simp only [mkB, mkP, c_6, c_34, decide_true, decide_false, not_true_eq_false, not_false_eq_true, Bool.true_and, Bool.false_and, Bool.and_true, Bool.and_false, Bool.true_or, Bool.false_or, Bool.or_true, Bool.or_false, and_true, true_and, and_false, false_and, or_true, true_or, or_false, false_or, if_true, if_false, Bool.false_eq_true, decide_eq_true_eq]) dX9_match_43
  · refine g_iconst (v := (-1)) X dX9_match_9 rfl ?_
    exact g_iretv (r := (-1)) X hx rfl (by simp [matV, c_6]) (by simp only [mkB, mkP, c_6, decide_true, decide_false, not_true_eq_false, not_false_eq_true, Bool.true_and, Bool.false_and, Bool.and_true, Bool.and_false, Bool.true_or, Bool.false_or, Bool.or_true, Bool.or_false, and_true, true_and, and_false, false_and, or_true, true_or, or_false, false_or, if_true, if_false, Bool.false_eq_true, decide_eq_true_eq]) dX9_match_10
set_option maxHeartbeats 4000000 in
set_option maxRecDepth 100000 in
theorem c_X9_express (E : GE) (O : Nat → Nat → Nat) (t : Nat) (a : Nat → Nat) (b : Nat → Nat) (v : TV) (P : Nat) (M : Nat → Int32) (wv : WY) (j : Nat) (hv : okT v) (hj : j < sS (tA v)) : CT E m_X9_express [.ref (O 0 0), .ref t, .int (nI j)] ([wTS E O, wTw E t a b (tR v) (tN v), wSv E a (tA v), wSv E b (tB v), wMo E (O 12) (O 13) (O 14) P, wAr E (O 12 3) 8 M, wWy E (O 15) wv].flatten) none ([wTS E O, wTw E t a b (tR v) (tN v), wSv E a (tA v), wSv E b (tB v), wMo E (O 12) (O 13) (O 14) P, wAr E (O 12 3) 8 M, wWy E (O 15) (exW v M j wv)].flatten) := by
  refine CT.intro (by decide +kernel) (Nat.le_of_ble_eq_true rfl) (fun Γ X hx => ?_)
  refine GG.lv [0, 1, 2] (lv' := [(0, .ref (O 0 0)), (1, .ref t), (2, .int (nI j))]) rfl ?_
  have hA : okS (tA v) := hv.1
  have hB : okS (tB v) := hv.2.1
  have hv1 : sM (tA v) ≤ 8 := hA.1
  have hv2 : sS (tA v) ≤ 8 := hA.2
  have hv3 : sM (tB v) ≤ 8 := hB.1
  have hv4 : sS (tB v) ≤ 8 := hB.2
  have hv5 : tN v ≤ 3 := hv.2.2
  refine g_aload_n X 1 dX9_express_0 rfl ?_
  refine g_iconst (v := (nI 0)) X dX9_express_1 rfl ?_
  refine g_callVr (st2 := [.ref (a 0)]) (q0 := 0) X (c_X6_surveyOf_0 E t a b v) cs_X9_92 rfl [1, 2, 3] [0, 4, 5, 6] 7 rfl (by decide) rfl rfl rfl rfl rfl (Nat.le_of_ble_eq_true rfl) dX9_express_2 rfl ?_
  refine g_astore_n (lv' := [(3, .ref (a 0)), (0, .ref (O 0 0)), (1, .ref t), (2, .int (nI j))]) X dX9_express_5 (by decide) rfl ?_
  refine g_aload_n X 1 dX9_express_6 rfl ?_
  refine g_getf (v := .ref (O 12 0)) X fs_X9_52 0 rfl rfl dX9_express_7 ?_
  refine g_iconst (v := (nI 0)) X dX9_express_10 rfl ?_
  refine g_aload_n X 0 dX9_express_11 rfl ?_
  refine g_iload_n X 3 dX9_express_12 rfl ?_
  refine g_callVr (st2 := [.int (sU (tA v) j), .int (nI 0), .ref (O 12 0)]) (q0 := 0) X (c_X4_startOf E a (tA v) j (by first | assumption | omega) (by first | assumption | omega)) cs_X9_131 rfl [2] [0, 1, 3, 4, 5, 6] 7 rfl (by decide) rfl rfl rfl rfl rfl (Nat.le_of_ble_eq_true rfl) dX9_express_13 rfl ?_
  refine g_callVr (st2 := [.int (mtI M (sU (tA v) j))]) (q0 := 0) X (c_X0_mateOf_0 E (O 12) (O 13) (O 14) P M (sU (tA v) j)) cs_X9_204 rfl [4, 5] [0, 1, 2, 3, 6] 7 rfl (by decide) rfl rfl rfl rfl rfl (Nat.le_of_ble_eq_true rfl) dX9_express_16 rfl ?_
  refine g_istore (lv' := [(4, .int (mtI M (sU (tA v) j))), (3, .ref (a 0)), (0, .ref (O 0 0)), (1, .ref t), (2, .int (nI j))]) X dX9_express_19 (by decide) rfl ?_
  refine g_aload_n X 2 dX9_express_21 rfl ?_
  refine g_getf (v := .ref (O 12 0)) X fs_X9_52 0 rfl rfl dX9_express_22 ?_
  refine g_iconst (v := (nI 0)) X dX9_express_25 rfl ?_
  refine g_aload_n X 1 dX9_express_26 rfl ?_
  refine g_iload_n X 4 dX9_express_27 rfl ?_
  refine g_callVr (st2 := [.int (sV (tA v) j), .int (nI 0), .ref (O 12 0)]) (q0 := 0) X (c_X4_endOf E a (tA v) j (by first | assumption | omega) (by first | assumption | omega)) cs_X9_134 rfl [2] [0, 1, 3, 4, 5, 6] 7 rfl (by decide) rfl rfl rfl rfl rfl (Nat.le_of_ble_eq_true rfl) dX9_express_28 rfl ?_
  refine g_callVr (st2 := [.int (mtI M (sV (tA v) j))]) (q0 := 0) X (c_X0_mateOf_0 E (O 12) (O 13) (O 14) P M (sV (tA v) j)) cs_X9_204 rfl [4, 5] [0, 1, 2, 3, 6] 7 rfl (by decide) rfl rfl rfl rfl rfl (Nat.le_of_ble_eq_true rfl) dX9_express_31 rfl ?_
  refine g_istore (lv' := [(5, .int (mtI M (sV (tA v) j))), (4, .int (mtI M (sU (tA v) j))), (3, .ref (a 0)), (0, .ref (O 0 0)), (1, .ref t), (2, .int (nI j))]) X dX9_express_34 (by decide) rfl ?_
  refine g_aload_n X 3 dX9_express_36 rfl ?_
  refine g_getf (v := .ref (O 15 0)) X fs_X9_59 0 rfl rfl dX9_express_37 ?_
  refine g_aload_n X 4 dX9_express_40 rfl ?_
  refine g_iconst (v := (nI 1)) X dX9_express_41 rfl ?_
  refine g_callVr (st2 := [.ref (b 0), .ref (O 15 0)]) (q0 := 0) X (c_X6_surveyOf_1 E t a b v) cs_X9_92 rfl [1, 2, 3] [0, 4, 5, 6] 7 rfl (by decide) rfl rfl rfl rfl rfl (Nat.le_of_ble_eq_true rfl) dX9_express_42 rfl ?_
  refine g_iload X 1 dX9_express_45 rfl ?_
  refine g_iload X 0 dX9_express_47 rfl ?_
  refine g_callV (st2 := []) (S' := [wTS E O, wTw E t a b (tR v) (tN v), wSv E a (tA v), wSv E b (tB v), wMo E (O 12) (O 13) (O 14) P, wAr E (O 12 3) 8 M, wWy E (O 15) (wyFind (tB v) (mtI M (sU (tA v) j)) (mtI M (sV (tA v) j)) wv)]) (q0 := 0) X (c_X8_find E (O 15) wv b (tB v) (mtI M (sU (tA v) j)) (mtI M (sV (tA v) j)) (by first | assumption | omega)) cs_X9_277 rfl [6, 3] [0, 1, 2, 4, 5] 7 rfl rfl (by decide) [wTS E O, wTw E t a b (tR v) (tN v), wSv E a (tA v), wMo E (O 12) (O 13) (O 14) P, wAr E (O 12 3) 8 M] rfl rfl rfl rfl (by simp only [List.map_cons, List.map_nil, fsAr, fsMo, fsSv, fsTS, fsTw, fsWy]) rfl rfl rfl rfl (Nat.le_of_ble_eq_true rfl) dX9_express_49 rfl ?_
  exact g_vret X hx rfl rfl (by rfl) dX9_express_52
set_option maxHeartbeats 4000000 in
set_option maxRecDepth 100000 in
theorem c_X9_told (E : GE) (O : Nat → Nat → Nat) (v : TV) (P : Nat) (B : Nat → Nat → Int32) (C : Nat → Nat → Int32) (M : Nat → Int32) (N : Nat → Int32) (wv : WY) (s : Int32) (k : Int32) (hv : okT v) : CT E m_X9_told [.ref (O 0 0), .int s, .int k] ([wTS E O, wTw E (O 3 0) (O 4) (O 5) (tR v) (tN v), wSv E (O 4) (tA v), wSv E (O 5) (tB v), wMo E (O 12) (O 13) (O 14) P, wRw E (O 13) B, wRw E (O 14) C, wAr E (O 12 3) 8 M, wAr E (O 12 4) 8 N, wWy E (O 15) wv].flatten) (some (.int (if tolA v s k then tolV v (exW v (mkP v (B, C) M N).2.1 s.toNatClampNeg wv) k else -1))) ([wTS E O, wTw E (O 3 0) (O 4) (O 5) (tR v) (tN v), wSv E (O 4) (tA v), wSv E (O 5) (tB v), wMo E (O 12) (O 13) (O 14) (if tolA v s k then (mkP v (B, C) M N).1 else P), wRw E (O 13) (if tolA v s k then (mkB v (B, C)).1 else B), wRw E (O 14) (if tolA v s k then (mkB v (B, C)).2 else C), wAr E (O 12 3) 8 (if tolA v s k then (mkP v (B, C) M N).2.1 else M), wAr E (O 12 4) 8 (if tolA v s k then (mkP v (B, C) M N).2.2 else N), wWy E (O 15) (if tolA v s k then exW v (mkP v (B, C) M N).2.1 s.toNatClampNeg wv else wv)].flatten) := by
  refine CT.intro (by decide +kernel) (Nat.le_of_ble_eq_true rfl) (fun Γ X hx => ?_)
  refine GG.lv [0, 1, 2] (lv' := [(0, .ref (O 0 0)), (1, .int s), (2, .int k)]) rfl ?_
  have hA : okS (tA v) := hv.1
  have hB : okS (tB v) := hv.2.1
  have hv1 : sM (tA v) ≤ 8 := hA.1
  have hv2 : sS (tA v) ≤ 8 := hA.2
  have hv3 : sM (tB v) ≤ 8 := hB.1
  have hv4 : sS (tB v) ≤ 8 := hB.2
  have hv5 : tN v ≤ 3 := hv.2.2
  refine g_aload_n X 0 dX9_told_0 rfl ?_
  refine g_iconst (v := (nI 0)) X dX9_told_1 rfl ?_
  refine g_iload_n X 1 dX9_told_2 rfl ?_
  refine g_callVr (st2 := [.int (b2i (hasS v (nI 0) s))]) (q0 := 0) X (c_X9_hasStreet E O v (nI 0) s (by first | assumption | omega)) cs_X9_128 rfl [0, 1, 2, 3] [4, 5, 6, 7, 8, 9] 10 rfl (by decide) rfl rfl rfl rfl rfl (Nat.le_of_ble_eq_true rfl) dX9_told_3 rfl ?_
  refine g_bif_eq (tgt := 14) X dX9_told_6 (by decide) (fun c_6 => ?_) (fun c_6 => ?_)
  · refine g_iconst (v := (-1)) X dX9_told_14 rfl ?_
    exact g_iretv (r := (-1)) X hx rfl (by simp [tolA, c_6]) (by simp [tolA, c_6]) dX9_told_15
  · refine g_iload_n X 2 dX9_told_9 rfl ?_
    refine g_iconst (v := (-1)) X dX9_told_10 rfl ?_
    refine g_icmp_ge (tgt := 16) X dX9_told_11 (by decide) (fun c_11 => ?_) (fun c_11 => ?_)
    · obtain ⟨j, hj, rfl⟩ := hasS_0 hv c_6
      refine g_aload_n X 0 dX9_told_16 rfl ?_
      refine g_getf (v := .ref (O 12 0)) X fs_X9_52 0 rfl rfl dX9_told_17 ?_
      refine g_aload_n X 0 dX9_told_20 rfl ?_
      refine g_getf (v := .ref (O 3 0)) X fs_X9_74 0 rfl rfl dX9_told_21 ?_
      refine g_callV (st2 := []) (S' := [wTS E O, wTw E (O 3 0) (O 4) (O 5) (tR v) (tN v), wSv E (O 4) (tA v), wSv E (O 5) (tB v), wMo E (O 12) (O 13) (O 14) ((puAll false (belAll v (B, C)).1 M N).1), wRw E (O 13) ((belAll v (B, C)).1), wRw E (O 14) ((belAll v (B, C)).2), wAr E (O 12 3) 8 ((puAll false (belAll v (B, C)).1 M N).2.1), wAr E (O 12 4) 8 ((puAll false (belAll v (B, C)).1 M N).2.2), wWy E (O 15) wv]) (q0 := 0) X (c_X0_make E (O 12) (O 13) (O 14) P B C M N (O 3 0) (O 4) (O 5) v (by first | assumption | omega)) cs_X9_195 rfl [4, 5, 6, 7, 8, 1, 2, 3] [0, 9] 10 rfl rfl (by decide) [wTS E O, wWy E (O 15) wv] rfl rfl rfl rfl (by simp only [List.map_cons, List.map_nil, fsAr, fsMo, fsRw, fsSv, fsTS, fsTw, fsWy]) rfl rfl rfl rfl (Nat.le_of_ble_eq_true rfl) dX9_told_24 rfl ?_
      refine g_aload_n X 0 dX9_told_27 rfl ?_
      refine g_aload_n X 0 dX9_told_28 rfl ?_
      refine g_getf (v := .ref (O 3 0)) X fs_X9_74 0 rfl rfl dX9_told_29 ?_
      refine g_iload_n X 1 dX9_told_32 rfl ?_
      refine g_callV (st2 := []) (S' := [wTS E O, wTw E (O 3 0) (O 4) (O 5) (tR v) (tN v), wSv E (O 4) (tA v), wSv E (O 5) (tB v), wMo E (O 12) (O 13) (O 14) ((puAll false (belAll v (B, C)).1 M N).1), wRw E (O 13) ((belAll v (B, C)).1), wRw E (O 14) ((belAll v (B, C)).2), wAr E (O 12 3) 8 ((puAll false (belAll v (B, C)).1 M N).2.1), wAr E (O 12 4) 8 ((puAll false (belAll v (B, C)).1 M N).2.2), wWy E (O 15) (exW v ((puAll false (belAll v (B, C)).1 M N).2.1) j wv)]) (q0 := 0) X (c_X9_express E O (O 3 0) (O 4) (O 5) v ((puAll false (belAll v (B, C)).1 M N).1) ((puAll false (belAll v (B, C)).1 M N).2.1) wv j (by first | assumption | omega) (by first | assumption | omega)) cs_X9_207 rfl [0, 1, 2, 3, 4, 7, 9] [5, 6, 8] 10 rfl rfl (by decide) [wRw E (O 13) ((belAll v (B, C)).1), wRw E (O 14) ((belAll v (B, C)).2), wAr E (O 12 4) 8 ((puAll false (belAll v (B, C)).1 M N).2.2)] rfl rfl rfl rfl (by simp only [List.map_cons, List.map_nil, fsAr, fsMo, fsRw, fsSv, fsTS, fsTw, fsWy]) rfl rfl rfl rfl (Nat.le_of_ble_eq_true rfl) dX9_told_33 rfl ?_
      refine g_aload_n X 0 dX9_told_36 rfl ?_
      refine g_getf (v := .ref (O 15 0)) X fs_X9_59 0 rfl rfl dX9_told_37 ?_
      refine g_callVr (st2 := [.int (b2i (decide (0 < (exW v ((puAll false (belAll v (B, C)).1 M N).2.1) j wv).2)))]) (q0 := 0) X (c_X8_isFound E (O 15) (exW v ((puAll false (belAll v (B, C)).1 M N).2.1) j wv) (exW_3 _ _ _ _)) cs_X9_211 rfl [9] [0, 1, 2, 3, 4, 5, 6, 7, 8] 10 rfl (by decide) rfl rfl rfl rfl rfl (Nat.le_of_ble_eq_true rfl) dX9_told_40 rfl ?_
      refine g_bif_ne (tgt := 49) X dX9_told_43 (by decide) (fun c_43 => ?_) (fun c_43 => ?_)
      · have e43 := of_decide_eq_true c_43
        refine g_iload_n X 2 dX9_told_49 rfl ?_
        refine g_iconst (v := (-1)) X dX9_told_50 rfl ?_
        refine g_icmp_ne (tgt := 64) X dX9_told_51 (by decide) (fun c_51 => ?_) (fun c_51 => ?_)
        · refine g_aload_n X 0 dX9_told_64 rfl ?_
          refine g_getf (v := .ref (O 15 0)) X fs_X9_59 0 rfl rfl dX9_told_65 ?_
          refine g_iload_n X 2 dX9_told_68 rfl ?_
          refine g_callVr (st2 := [.int (wyStop (exW v ((puAll false (belAll v (B, C)).1 M N).2.1) j wv) k)]) (q0 := 0) X (c_X8_stopAt E (O 15) (exW v ((puAll false (belAll v (B, C)).1 M N).2.1) j wv) k (exW_3 _ _ _ _)) cs_X9_216 rfl [9] [0, 1, 2, 3, 4, 5, 6, 7, 8] 10 rfl (by decide) rfl rfl rfl rfl rfl (Nat.le_of_ble_eq_true rfl) dX9_told_69 rfl ?_
          exact g_iretv (r := (wyStop (exW v ((puAll false (belAll v (B, C)).1 M N).2.1) j wv) k)) X hx rfl (by simp [tolA, tolV, mkP, nI_clamp (show j < 2 ^ 31 by omega), e43, c_6, c_11, c_43, c_51]) (by simp [tolA, mkB, mkP, nI_clamp (show j < 2 ^ 31 by omega), c_6, c_11, c_43, c_51]) dX9_told_72
        · refine g_aload_n X 0 dX9_told_54 rfl ?_
          refine g_getf (v := .ref (O 15 0)) X fs_X9_59 0 rfl rfl dX9_told_55 ?_
          refine g_callVr (st2 := [.int (nI ((exW v ((puAll false (belAll v (B, C)).1 M N).2.1) j wv).2))]) (q0 := 0) X (c_X8_streets E (O 15) (exW v ((puAll false (belAll v (B, C)).1 M N).2.1) j wv)) cs_X9_215 rfl [9] [0, 1, 2, 3, 4, 5, 6, 7, 8] 10 rfl (by decide) rfl rfl rfl rfl rfl (Nat.le_of_ble_eq_true rfl) dX9_told_58 rfl ?_
          refine g_goto (tgt := 72) X dX9_told_61 (by decide) ?_
          exact g_iretv (r := (nI ((exW v ((puAll false (belAll v (B, C)).1 M N).2.1) j wv).2))) X hx rfl (by simp [tolA, tolV, mkP, nI_clamp (show j < 2 ^ 31 by omega), e43, c_6, c_11, c_43, c_51]) (by simp [tolA, mkB, mkP, nI_clamp (show j < 2 ^ 31 by omega), c_6, c_11, c_43, c_51]) dX9_told_72
      · have e43 := of_decide_eq_false c_43
        refine g_bipush (v := (-4)) X dX9_told_46 rfl ?_
        exact g_iretv (r := (-4)) X hx rfl (by simp [tolA, tolV, mkP, nI_clamp (show j < 2 ^ 31 by omega), e43, c_6, c_11, c_43]) (by simp [tolA, mkB, mkP, nI_clamp (show j < 2 ^ 31 by omega), c_6, c_11, c_43]) dX9_told_48
    · refine g_iconst (v := (-1)) X dX9_told_14 rfl ?_
      exact g_iretv (r := (-1)) X hx rfl (by simp [tolA, c_6, c_11]) (by simp [tolA, c_6, c_11]) dX9_told_15
