set_option maxHeartbeats 4000000 in
set_option maxRecDepth 100000 in
theorem c_X6_surveyOf_0 (E : GE) (t : Nat) (a : Nat → Nat) (b : Nat → Nat) (v : TV) : CT E m_X6_surveyOf [.ref t, .int (nI 0)] ([wTw E t a b (tR v) (tN v), wSv E a (tA v), wSv E b (tB v)].flatten) (some (.ref (a 0))) ([wTw E t a b (tR v) (tN v), wSv E a (tA v), wSv E b (tB v)].flatten) := by
  refine CT.intro (by decide +kernel) (Nat.le_of_ble_eq_true rfl) (fun Γ X hx => ?_)
  refine GG.lv [0, 1] (lv' := [(0, .ref t), (1, .int (nI 0))]) rfl ?_
  refine g_iload_n X 1 dX6_surveyOf_0 rfl ?_
  refine g_if_ne (tgt := 11) X dX6_surveyOf_1 (by decide) (fun c_1 => absurd c_1 (by decide)) (fun c_1 => ?_)
  refine g_aload_n X 0 dX6_surveyOf_4 rfl ?_
  refine g_getf (v := .ref (a 0)) X fs_X6_12 0 rfl rfl dX6_surveyOf_5 ?_
  refine g_goto (tgt := 15) X dX6_surveyOf_8 (by decide) ?_
  exact g_aret X hx rfl (by rfl) (by rfl) dX6_surveyOf_15
set_option maxHeartbeats 4000000 in
set_option maxRecDepth 100000 in
theorem c_X6_surveyOf_1 (E : GE) (t : Nat) (a : Nat → Nat) (b : Nat → Nat) (v : TV) : CT E m_X6_surveyOf [.ref t, .int (nI 1)] ([wTw E t a b (tR v) (tN v), wSv E a (tA v), wSv E b (tB v)].flatten) (some (.ref (b 0))) ([wTw E t a b (tR v) (tN v), wSv E a (tA v), wSv E b (tB v)].flatten) := by
  refine CT.intro (by decide +kernel) (Nat.le_of_ble_eq_true rfl) (fun Γ X hx => ?_)
  refine GG.lv [0, 1] (lv' := [(0, .ref t), (1, .int (nI 1))]) rfl ?_
  refine g_iload_n X 1 dX6_surveyOf_0 rfl ?_
  refine g_if_ne (tgt := 11) X dX6_surveyOf_1 (by decide) (fun c_1 => ?_) (fun c_1 => absurd c_1 (by decide))
  refine g_aload_n X 0 dX6_surveyOf_11 rfl ?_
  refine g_getf (v := .ref (b 0)) X fs_X6_18 0 rfl rfl dX6_surveyOf_12 ?_
  exact g_aret X hx rfl (by rfl) (by rfl) dX6_surveyOf_15
set_option maxHeartbeats 4000000 in
set_option maxRecDepth 100000 in
theorem c_X6_radius (E : GE) (t : Nat) (a : Nat → Nat) (b : Nat → Nat) (v : TV) : CT E m_X6_radius [.ref t] ([wTw E t a b (tR v) (tN v), wSv E a (tA v), wSv E b (tB v)].flatten) (some (.int (tR v))) ([wTw E t a b (tR v) (tN v), wSv E a (tA v), wSv E b (tB v)].flatten) := by
  refine CT.intro (by decide +kernel) (Nat.le_of_ble_eq_true rfl) (fun Γ X hx => ?_)
  refine GG.lv [0] (lv' := [(0, .ref t)]) rfl ?_
  refine g_aload_n X 0 dX6_radius_0 rfl ?_
  refine g_getf (v := .int (tR v)) X fs_X6_24 0 rfl rfl dX6_radius_1 ?_
  exact g_iretv (r := (tR v)) X hx rfl (by rfl) (by rfl) dX6_radius_4
set_option maxHeartbeats 4000000 in
set_option maxRecDepth 100000 in
theorem c_X6_rounds (E : GE) (t : Nat) (a : Nat → Nat) (b : Nat → Nat) (v : TV) : CT E m_X6_rounds [.ref t] ([wTw E t a b (tR v) (tN v), wSv E a (tA v), wSv E b (tB v)].flatten) (some (.int (nI (tN v)))) ([wTw E t a b (tR v) (tN v), wSv E a (tA v), wSv E b (tB v)].flatten) := by
  refine CT.intro (by decide +kernel) (Nat.le_of_ble_eq_true rfl) (fun Γ X hx => ?_)
  refine GG.lv [0] (lv' := [(0, .ref t)]) rfl ?_
  refine g_aload_n X 0 dX6_rounds_0 rfl ?_
  refine g_getf (v := .int (nI (tN v))) X fs_X6_28 0 rfl rfl dX6_rounds_1 ?_
  exact g_iretv (r := (nI (tN v))) X hx rfl (by rfl) (by rfl) dX6_rounds_4
set_option maxHeartbeats 4000000 in
set_option maxRecDepth 100000 in
theorem c_X6_reachOf_0 (E : GE) (t : Nat) (a : Nat → Nat) (b : Nat → Nat) (v : TV) (j : Nat) (hv : okT v) (hj : j < sM (tA v)) : CT E m_X6_reachOf [.ref t, .int (nI 0), .int (nI j)] ([wTw E t a b (tR v) (tN v), wSv E a (tA v), wSv E b (tB v)].flatten) (some (.int (reachV (tR v) (sKd (tA v) j)))) ([wTw E t a b (tR v) (tN v), wSv E a (tA v), wSv E b (tB v)].flatten) := by
  refine CT.intro (by decide +kernel) (Nat.le_of_ble_eq_true rfl) (fun Γ X hx => ?_)
  refine GG.lv [0, 1, 2] (lv' := [(0, .ref t), (1, .int (nI 0)), (2, .int (nI j))]) rfl ?_
  have hA : okS (tA v) := hv.1
  have hB : okS (tB v) := hv.2.1
  have hv1 : sM (tA v) ≤ 8 := hA.1
  have hv2 : sS (tA v) ≤ 8 := hA.2
  have hv3 : sM (tB v) ≤ 8 := hB.1
  have hv4 : sS (tB v) ≤ 8 := hB.2
  have hv5 : tN v ≤ 3 := hv.2.2
  refine g_aload_n X 0 dX6_reachOf_0 rfl ?_
  refine g_iload_n X 1 dX6_reachOf_1 rfl ?_
  refine g_callVr (st2 := [.ref (a 0)]) (q0 := 0) X (c_X6_surveyOf_0 E t a b v) cs_X6_42 rfl [0, 1, 2] [] 3 rfl (by decide) rfl rfl rfl rfl rfl (Nat.le_of_ble_eq_true rfl) dX6_reachOf_2 rfl ?_
  refine g_iload_n X 2 dX6_reachOf_5 rfl ?_
  refine g_callVr (st2 := [.int (sKd (tA v) j)]) (q0 := 0) X (c_X4_kindOf E a (tA v) j (by first | assumption | omega) (by first | assumption | omega)) cs_X6_46 rfl [1] [0, 2] 3 rfl (by decide) rfl rfl rfl rfl rfl (Nat.le_of_ble_eq_true rfl) dX6_reachOf_6 rfl ?_
  by_cases w_9_1 : (sKd (tA v) j) = nI 1
  · refine g_tsIn (tgt := 36) X 1 dX6_reachOf_9 (by rw [w_9_1]; rfl) (by decide) (by decide) rfl (by decide) ?_
    refine g_aload_n X 0 dX6_reachOf_36 rfl ?_
    refine g_getf (v := .int (tR v)) X fs_X6_24 0 rfl rfl dX6_reachOf_37 ?_
    refine g_iconst (v := (nI 2)) X dX6_reachOf_40 rfl ?_
    refine g_idiv X dX6_reachOf_41 (by decide) ?_
    exact g_iretv (r := ((tR v) / (nI 2))) X hx rfl (by simp [reachV, nI_eq, w_9_1]) (by rfl) dX6_reachOf_42
  by_cases w_9_2 : (sKd (tA v) j) = nI 2
  · refine g_tsIn (tgt := 43) X 2 dX6_reachOf_9 (by rw [w_9_2]; rfl) (by decide) (by decide) rfl (by decide) ?_
    refine g_bipush (v := (nI 20)) X dX6_reachOf_43 rfl ?_
    refine g_aload_n X 0 dX6_reachOf_45 rfl ?_
    refine g_getf (v := .int (tR v)) X fs_X6_24 0 rfl rfl dX6_reachOf_46 ?_
    refine g_iconst (v := (nI 5)) X dX6_reachOf_49 rfl ?_
    refine g_iadd X dX6_reachOf_50 ?_
    refine g_min X cs_X6_50 ⟨by decide, Nat.le_of_ble_eq_true rfl, Nat.zero_le _, Nat.zero_le _⟩ dX6_reachOf_51 ?_
    exact g_iretv (r := (if ((tR v) + (nI 5)) < (nI 20) then ((tR v) + (nI 5)) else (nI 20))) X hx rfl (by simp [reachV, nI_eq, w_9_1, w_9_2]) (by rfl) dX6_reachOf_54
  by_cases w_9_3 : (sKd (tA v) j) = nI 3
  · refine g_tsIn (tgt := 55) X 3 dX6_reachOf_9 (by rw [w_9_3]; rfl) (by decide) (by decide) rfl (by decide) ?_
    refine g_aload_n X 0 dX6_reachOf_55 rfl ?_
    refine g_getf (v := .int (tR v)) X fs_X6_24 0 rfl rfl dX6_reachOf_56 ?_
    refine g_iconst (v := (nI 2)) X dX6_reachOf_59 rfl ?_
    refine g_idiv X dX6_reachOf_60 (by decide) ?_
    refine g_iconst (v := (nI 1)) X dX6_reachOf_61 rfl ?_
    refine g_iadd X dX6_reachOf_62 ?_
    exact g_iretv (r := (((tR v) / (nI 2)) + (nI 1))) X hx rfl (by simp [reachV, nI_eq, w_9_1, w_9_2, w_9_3]) (by rfl) dX6_reachOf_63
  refine g_tsOut (tgt := 64) X dX6_reachOf_9 (by have t1 := lv_neT w_9_1 (a := 1) rfl; have t2 := lv_neT w_9_2 (a := 2) rfl; have t3 := lv_neT w_9_3 (a := 3) rfl; omega) (by decide) ?_
  refine g_aload_n X 0 dX6_reachOf_64 rfl ?_
  refine g_getf (v := .int (tR v)) X fs_X6_24 0 rfl rfl dX6_reachOf_65 ?_
  exact g_iretv (r := (tR v)) X hx rfl (by simp [reachV, nI_eq, w_9_1, w_9_2, w_9_3]) (by rfl) dX6_reachOf_68
set_option maxHeartbeats 4000000 in
set_option maxRecDepth 100000 in
theorem c_X6_reachOf_1 (E : GE) (t : Nat) (a : Nat → Nat) (b : Nat → Nat) (v : TV) (j : Nat) (hv : okT v) (hj : j < sM (tB v)) : CT E m_X6_reachOf [.ref t, .int (nI 1), .int (nI j)] ([wTw E t a b (tR v) (tN v), wSv E a (tA v), wSv E b (tB v)].flatten) (some (.int (reachV (tR v) (sKd (tB v) j)))) ([wTw E t a b (tR v) (tN v), wSv E a (tA v), wSv E b (tB v)].flatten) := by
  refine CT.intro (by decide +kernel) (Nat.le_of_ble_eq_true rfl) (fun Γ X hx => ?_)
  refine GG.lv [0, 1, 2] (lv' := [(0, .ref t), (1, .int (nI 1)), (2, .int (nI j))]) rfl ?_
  have hA : okS (tA v) := hv.1
  have hB : okS (tB v) := hv.2.1
  have hv1 : sM (tA v) ≤ 8 := hA.1
  have hv2 : sS (tA v) ≤ 8 := hA.2
  have hv3 : sM (tB v) ≤ 8 := hB.1
  have hv4 : sS (tB v) ≤ 8 := hB.2
  have hv5 : tN v ≤ 3 := hv.2.2
  refine g_aload_n X 0 dX6_reachOf_0 rfl ?_
  refine g_iload_n X 1 dX6_reachOf_1 rfl ?_
  refine g_callVr (st2 := [.ref (b 0)]) (q0 := 0) X (c_X6_surveyOf_1 E t a b v) cs_X6_42 rfl [0, 1, 2] [] 3 rfl (by decide) rfl rfl rfl rfl rfl (Nat.le_of_ble_eq_true rfl) dX6_reachOf_2 rfl ?_
  refine g_iload_n X 2 dX6_reachOf_5 rfl ?_
  refine g_callVr (st2 := [.int (sKd (tB v) j)]) (q0 := 0) X (c_X4_kindOf E b (tB v) j (by first | assumption | omega) (by first | assumption | omega)) cs_X6_46 rfl [2] [0, 1] 3 rfl (by decide) rfl rfl rfl rfl rfl (Nat.le_of_ble_eq_true rfl) dX6_reachOf_6 rfl ?_
  by_cases w_9_1 : (sKd (tB v) j) = nI 1
  · refine g_tsIn (tgt := 36) X 1 dX6_reachOf_9 (by rw [w_9_1]; rfl) (by decide) (by decide) rfl (by decide) ?_
    refine g_aload_n X 0 dX6_reachOf_36 rfl ?_
    refine g_getf (v := .int (tR v)) X fs_X6_24 0 rfl rfl dX6_reachOf_37 ?_
    refine g_iconst (v := (nI 2)) X dX6_reachOf_40 rfl ?_
    refine g_idiv X dX6_reachOf_41 (by decide) ?_
    exact g_iretv (r := ((tR v) / (nI 2))) X hx rfl (by simp [reachV, nI_eq, w_9_1]) (by rfl) dX6_reachOf_42
  by_cases w_9_2 : (sKd (tB v) j) = nI 2
  · refine g_tsIn (tgt := 43) X 2 dX6_reachOf_9 (by rw [w_9_2]; rfl) (by decide) (by decide) rfl (by decide) ?_
    refine g_bipush (v := (nI 20)) X dX6_reachOf_43 rfl ?_
    refine g_aload_n X 0 dX6_reachOf_45 rfl ?_
    refine g_getf (v := .int (tR v)) X fs_X6_24 0 rfl rfl dX6_reachOf_46 ?_
    refine g_iconst (v := (nI 5)) X dX6_reachOf_49 rfl ?_
    refine g_iadd X dX6_reachOf_50 ?_
    refine g_min X cs_X6_50 ⟨by decide, Nat.le_of_ble_eq_true rfl, Nat.zero_le _, Nat.zero_le _⟩ dX6_reachOf_51 ?_
    exact g_iretv (r := (if ((tR v) + (nI 5)) < (nI 20) then ((tR v) + (nI 5)) else (nI 20))) X hx rfl (by simp [reachV, nI_eq, w_9_1, w_9_2]) (by rfl) dX6_reachOf_54
  by_cases w_9_3 : (sKd (tB v) j) = nI 3
  · refine g_tsIn (tgt := 55) X 3 dX6_reachOf_9 (by rw [w_9_3]; rfl) (by decide) (by decide) rfl (by decide) ?_
    refine g_aload_n X 0 dX6_reachOf_55 rfl ?_
    refine g_getf (v := .int (tR v)) X fs_X6_24 0 rfl rfl dX6_reachOf_56 ?_
    refine g_iconst (v := (nI 2)) X dX6_reachOf_59 rfl ?_
    refine g_idiv X dX6_reachOf_60 (by decide) ?_
    refine g_iconst (v := (nI 1)) X dX6_reachOf_61 rfl ?_
    refine g_iadd X dX6_reachOf_62 ?_
    exact g_iretv (r := (((tR v) / (nI 2)) + (nI 1))) X hx rfl (by simp [reachV, nI_eq, w_9_1, w_9_2, w_9_3]) (by rfl) dX6_reachOf_63
  refine g_tsOut (tgt := 64) X dX6_reachOf_9 (by have t1 := lv_neT w_9_1 (a := 1) rfl; have t2 := lv_neT w_9_2 (a := 2) rfl; have t3 := lv_neT w_9_3 (a := 3) rfl; omega) (by decide) ?_
  refine g_aload_n X 0 dX6_reachOf_64 rfl ?_
  refine g_getf (v := .int (tR v)) X fs_X6_24 0 rfl rfl dX6_reachOf_65 ?_
  exact g_iretv (r := (tR v)) X hx rfl (by simp [reachV, nI_eq, w_9_1, w_9_2, w_9_3]) (by rfl) dX6_reachOf_68
set_option maxHeartbeats 4000000 in
set_option maxRecDepth 100000 in
theorem c_X6_squaredDistance (E : GE) (t : Nat) (a : Nat → Nat) (b : Nat → Nat) (v : TV) (i : Nat) (j : Nat) (hv : okT v) (hi : i < sM (tA v)) (hj : j < sM (tB v)) : CT E m_X6_squaredDistance [.ref t, .int (nI i), .int (nI j)] ([wTw E t a b (tR v) (tN v), wSv E a (tA v), wSv E b (tB v)].flatten) (some (.int (sqD v i j))) ([wTw E t a b (tR v) (tN v), wSv E a (tA v), wSv E b (tB v)].flatten) := by
  refine CT.intro (by decide +kernel) (Nat.le_of_ble_eq_true rfl) (fun Γ X hx => ?_)
  refine GG.lv [0, 1, 2] (lv' := [(0, .ref t), (1, .int (nI i)), (2, .int (nI j))]) rfl ?_
  have hA : okS (tA v) := hv.1
  have hB : okS (tB v) := hv.2.1
  have hv1 : sM (tA v) ≤ 8 := hA.1
  have hv2 : sS (tA v) ≤ 8 := hA.2
  have hv3 : sM (tB v) ≤ 8 := hB.1
  have hv4 : sS (tB v) ≤ 8 := hB.2
  have hv5 : tN v ≤ 3 := hv.2.2
  refine g_aload_n X 0 dX6_squaredDistance_0 rfl ?_
  refine g_getf (v := .ref (a 0)) X fs_X6_12 0 rfl rfl dX6_squaredDistance_1 ?_
  refine g_iload_n X 1 dX6_squaredDistance_4 rfl ?_
  refine g_callVr (st2 := [.int (sX (tA v) i)]) (q0 := 0) X (c_X4_xOf E a (tA v) i (by first | assumption | omega) (by first | assumption | omega)) cs_X6_56 rfl [1] [0, 2] 3 rfl (by decide) rfl rfl rfl rfl rfl (Nat.le_of_ble_eq_true rfl) dX6_squaredDistance_5 rfl ?_
  refine g_aload_n X 0 dX6_squaredDistance_8 rfl ?_
  refine g_getf (v := .ref (b 0)) X fs_X6_18 0 rfl rfl dX6_squaredDistance_9 ?_
  refine g_iload_n X 2 dX6_squaredDistance_12 rfl ?_
  refine g_callVr (st2 := [.int (sX (tB v) j), .int (sX (tA v) i)]) (q0 := 0) X (c_X4_xOf E b (tB v) j (by first | assumption | omega) (by first | assumption | omega)) cs_X6_56 rfl [2] [0, 1] 3 rfl (by decide) rfl rfl rfl rfl rfl (Nat.le_of_ble_eq_true rfl) dX6_squaredDistance_13 rfl ?_
  refine g_isub X dX6_squaredDistance_16 ?_
  refine g_istore_n (lv' := [(3, .int ((sX (tA v) i) - (sX (tB v) j))), (0, .ref t), (1, .int (nI i)), (2, .int (nI j))]) X dX6_squaredDistance_17 (by decide) rfl ?_
  refine g_aload_n X 1 dX6_squaredDistance_18 rfl ?_
  refine g_getf (v := .ref (a 0)) X fs_X6_12 0 rfl rfl dX6_squaredDistance_19 ?_
  refine g_iload_n X 2 dX6_squaredDistance_22 rfl ?_
  refine g_callVr (st2 := [.int (sY (tA v) i)]) (q0 := 0) X (c_X4_yOf E a (tA v) i (by first | assumption | omega) (by first | assumption | omega)) cs_X6_59 rfl [1] [0, 2] 3 rfl (by decide) rfl rfl rfl rfl rfl (Nat.le_of_ble_eq_true rfl) dX6_squaredDistance_23 rfl ?_
  refine g_aload_n X 1 dX6_squaredDistance_26 rfl ?_
  refine g_getf (v := .ref (b 0)) X fs_X6_18 0 rfl rfl dX6_squaredDistance_27 ?_
  refine g_iload_n X 3 dX6_squaredDistance_30 rfl ?_
  refine g_callVr (st2 := [.int (sY (tB v) j), .int (sY (tA v) i)]) (q0 := 0) X (c_X4_yOf E b (tB v) j (by first | assumption | omega) (by first | assumption | omega)) cs_X6_59 rfl [2] [0, 1] 3 rfl (by decide) rfl rfl rfl rfl rfl (Nat.le_of_ble_eq_true rfl) dX6_squaredDistance_31 rfl ?_
  refine g_isub X dX6_squaredDistance_34 ?_
  refine g_istore (lv' := [(4, .int ((sY (tA v) i) - (sY (tB v) j))), (3, .int ((sX (tA v) i) - (sX (tB v) j))), (0, .ref t), (1, .int (nI i)), (2, .int (nI j))]) X dX6_squaredDistance_35 (by decide) rfl ?_
  refine g_iload_n X 1 dX6_squaredDistance_37 rfl ?_
  refine g_iload_n X 1 dX6_squaredDistance_38 rfl ?_
  refine g_imul X dX6_squaredDistance_39 ?_
  refine g_iload X 0 dX6_squaredDistance_40 rfl ?_
  refine g_iload X 0 dX6_squaredDistance_42 rfl ?_
  refine g_imul X dX6_squaredDistance_44 ?_
  refine g_iadd X dX6_squaredDistance_45 ?_
  exact g_iretv (r := ((((sX (tA v) i) - (sX (tB v) j)) * ((sX (tA v) i) - (sX (tB v) j))) + (((sY (tA v) i) - (sY (tB v) j)) * ((sY (tA v) i) - (sY (tB v) j))))) X hx rfl (by rfl) (by rfl) dX6_squaredDistance_46
set_option maxHeartbeats 4000000 in
set_option maxRecDepth 100000 in
theorem c_X9_isRounds (E : GE) (x : Int32) : CT E m_X9_isRounds [.int x] ([]) (some (.int (b2i (inR x (nI 0) (nI 3))))) ([]) := by
  refine CT.intro (by decide +kernel) (Nat.le_of_ble_eq_true rfl) (fun Γ X hx => ?_)
  refine GG.lv [0] (lv' := [(0, .int x)]) rfl ?_
  refine g_iload_n X 0 dX9_isRounds_0 rfl ?_
  refine g_if_lt (tgt := 13) X dX9_isRounds_1 (by decide) (fun c_1 => ?_) (fun c_1 => ?_)
  · refine g_iconst (v := (nI 0)) X dX9_isRounds_13 rfl ?_
    exact g_zretv (r := (nI 0)) X hx rfl (by simp [inR, b2i, nI_0, c_1]; try rfl) (by rfl) dX9_isRounds_14
  · refine g_iload_n X 0 dX9_isRounds_4 rfl ?_
    refine g_iconst (v := (nI 3)) X dX9_isRounds_5 rfl ?_
    refine g_icmp_gt (tgt := 13) X dX9_isRounds_6 (by decide) (fun c_6 => ?_) (fun c_6 => ?_)
    · refine g_iconst (v := (nI 0)) X dX9_isRounds_13 rfl ?_
      exact g_zretv (r := (nI 0)) X hx rfl (by simp [inR, b2i, nI_0, c_1, c_6]; try rfl) (by rfl) dX9_isRounds_14
    · refine g_iconst (v := (nI 1)) X dX9_isRounds_9 rfl ?_
      refine g_goto (tgt := 14) X dX9_isRounds_10 (by decide) ?_
      exact g_zretv (r := (nI 1)) X hx rfl (by simp [inR, b2i, nI_0, c_1, c_6]; try rfl) (by rfl) dX9_isRounds_14
set_option maxHeartbeats 4000000 in
set_option maxRecDepth 100000 in
theorem c_X6_setRadius (E : GE) (t : Nat) (a : Nat → Nat) (b : Nat → Nat) (v : TV) (x : Int32) : CT E m_X6_setRadius [.ref t, .int x] ([wTw E t a b (tR v) (tN v), wSv E a (tA v), wSv E b (tB v)].flatten) (some (.int (b2i (inR x (nI 1) (nI 20))))) ([wTw E t a b (tR (tSetR v x)) (tN (tSetR v x)), wSv E a (tA (tSetR v x)), wSv E b (tB (tSetR v x))].flatten) := by
  refine CT.intro (by decide +kernel) (Nat.le_of_ble_eq_true rfl) (fun Γ X hx => ?_)
  refine GG.lv [0, 1] (lv' := [(0, .ref t), (1, .int x)]) rfl ?_
  refine g_iload_n X 1 dX6_setRadius_0 rfl ?_
  refine g_callN (st2 := [.int (b2i (inR x (nI 1) (nI 20)))]) X (c_X9_isRadius E x) cs_X6_35 rfl rfl rfl (Nat.le_of_ble_eq_true rfl) dX6_setRadius_1 rfl ?_
  refine g_bif_ne (tgt := 9) X dX6_setRadius_4 (by decide) (fun c_4 => ?_) (fun c_4 => ?_)
  · refine g_aload_n X 0 dX6_setRadius_9 rfl ?_
    refine g_iload_n X 1 dX6_setRadius_10 rfl ?_
    refine g_putf (ws' := [wTw E t a b x (tN v), wSv E a (tA v), wSv E b (tB v)].flatten) X ps_X6_24 0 rfl rfl rfl (Nat.le_of_ble_eq_true rfl) rfl dX6_setRadius_11 ?_
    refine g_iconst (v := (nI 1)) X dX6_setRadius_14 rfl ?_
    exact g_zretv (r := (nI 1)) X hx rfl (by rw [c_4]; rfl) (by simp [tSetR, c_4]) dX6_setRadius_15
  · refine g_iconst (v := (nI 0)) X dX6_setRadius_7 rfl ?_
    exact g_zretv (r := (nI 0)) X hx rfl (by rw [c_4]; rfl) (by simp [tSetR, c_4]) dX6_setRadius_8
set_option maxHeartbeats 4000000 in
set_option maxRecDepth 100000 in
theorem c_X6_setRounds (E : GE) (t : Nat) (a : Nat → Nat) (b : Nat → Nat) (v : TV) (x : Int32) : CT E m_X6_setRounds [.ref t, .int x] ([wTw E t a b (tR v) (tN v), wSv E a (tA v), wSv E b (tB v)].flatten) (some (.int (b2i (inR x (nI 0) (nI 3))))) ([wTw E t a b (tR (tSetN v x)) (tN (tSetN v x)), wSv E a (tA (tSetN v x)), wSv E b (tB (tSetN v x))].flatten) := by
  refine CT.intro (by decide +kernel) (Nat.le_of_ble_eq_true rfl) (fun Γ X hx => ?_)
  refine GG.lv [0, 1] (lv' := [(0, .ref t), (1, .int x)]) rfl ?_
  refine g_iload_n X 1 dX6_setRounds_0 rfl ?_
  refine g_callN (st2 := [.int (b2i (inR x (nI 0) (nI 3)))]) X (c_X9_isRounds E x) cs_X6_39 rfl rfl rfl (Nat.le_of_ble_eq_true rfl) dX6_setRounds_1 rfl ?_
  refine g_bif_ne (tgt := 9) X dX6_setRounds_4 (by decide) (fun c_4 => ?_) (fun c_4 => ?_)
  · obtain ⟨k, hk, rfl⟩ := inR_nI c_4 (by decide)
    refine g_aload_n X 0 dX6_setRounds_9 rfl ?_
    refine g_iload_n X 1 dX6_setRounds_10 rfl ?_
    refine g_putf (ws' := [wTw E t a b (tR v) k, wSv E a (tA v), wSv E b (tB v)].flatten) X ps_X6_28 0 rfl rfl rfl (Nat.le_of_ble_eq_true rfl) rfl dX6_setRounds_11 ?_
    refine g_iconst (v := (nI 1)) X dX6_setRounds_14 rfl ?_
    exact g_zretv (r := (nI 1)) X hx rfl (by rw [c_4]; rfl) (by simp [tSetN, c_4, nI_clamp (show k < 2 ^ 31 by omega)]) dX6_setRounds_15
  · refine g_iconst (v := (nI 0)) X dX6_setRounds_7 rfl ?_
    exact g_zretv (r := (nI 0)) X hx rfl (by rw [c_4]; rfl) (by simp [tSetN, c_4]) dX6_setRounds_8
set_option maxHeartbeats 4000000 in
set_option maxRecDepth 100000 in
theorem c_X6_clear (E : GE) (t : Nat) (a : Nat → Nat) (b : Nat → Nat) (v : TV) : CT E m_X6_clear [.ref t] ([wTw E t a b (tR v) (tN v), wSv E a (tA v), wSv E b (tB v)].flatten) none ([wTw E t a b (tR (tClear v)) (tN (tClear v)), wSv E a (tA (tClear v)), wSv E b (tB (tClear v))].flatten) := by
  refine CT.intro (by decide +kernel) (Nat.le_of_ble_eq_true rfl) (fun Γ X hx => ?_)
  refine GG.lv [0] (lv' := [(0, .ref t)]) rfl ?_
  refine g_aload_n X 0 dX6_clear_0 rfl ?_
  refine g_getf (v := .ref (a 0)) X fs_X6_12 0 rfl rfl dX6_clear_1 ?_
  refine g_callV (st2 := []) (S' := [wTw E t a b (tR v) (tN v), wSv E a (sKd (tA v), sX (tA v), sY (tA v), sU (tA v), sV (tA v), sNm (tA v), 0, 0), wSv E b (tB v)]) (q0 := 0) X (c_X4_clear E a (tA v)) cs_X6_21 rfl [1] [0, 2] 3 rfl rfl (by decide) [wTw E t a b (tR v) (tN v), wSv E b (tB v)] rfl rfl rfl rfl (by simp only [List.map_cons, List.map_nil, fsSv, fsTw]) rfl rfl rfl rfl (Nat.le_of_ble_eq_true rfl) dX6_clear_4 rfl ?_
  refine g_aload_n X 0 dX6_clear_7 rfl ?_
  refine g_getf (v := .ref (b 0)) X fs_X6_18 0 rfl rfl dX6_clear_8 ?_
  refine g_callV (st2 := []) (S' := [wTw E t a b (tR v) (tN v), wSv E a (sKd (tA v), sX (tA v), sY (tA v), sU (tA v), sV (tA v), sNm (tA v), 0, 0), wSv E b (sKd (tB v), sX (tB v), sY (tB v), sU (tB v), sV (tB v), sNm (tB v), 0, 0)]) (q0 := 0) X (c_X4_clear E b (tB v)) cs_X6_21 rfl [2] [0, 1] 3 rfl rfl (by decide) [wTw E t a b (tR v) (tN v), wSv E a (sKd (tA v), sX (tA v), sY (tA v), sU (tA v), sV (tA v), sNm (tA v), 0, 0)] rfl rfl rfl rfl (by simp only [List.map_cons, List.map_nil, fsSv, fsTw]) rfl rfl rfl rfl (Nat.le_of_ble_eq_true rfl) dX6_clear_11 rfl ?_
  refine g_aload_n X 0 dX6_clear_14 rfl ?_
  refine g_bipush (v := (nI 10)) X dX6_clear_15 rfl ?_
  refine g_putf (ws' := [wTw E t a b (nI 10) (tN v), wSv E a (sKd (tA v), sX (tA v), sY (tA v), sU (tA v), sV (tA v), sNm (tA v), 0, 0), wSv E b (sKd (tB v), sX (tB v), sY (tB v), sU (tB v), sV (tB v), sNm (tB v), 0, 0)].flatten) X ps_X6_24 0 rfl rfl rfl (Nat.le_of_ble_eq_true rfl) rfl dX6_clear_17 ?_
  refine g_aload_n X 0 dX6_clear_20 rfl ?_
  refine g_iconst (v := (nI 2)) X dX6_clear_21 rfl ?_
  refine g_putf (ws' := [wTw E t a b (nI 10) 2, wSv E a (sKd (tA v), sX (tA v), sY (tA v), sU (tA v), sV (tA v), sNm (tA v), 0, 0), wSv E b (sKd (tB v), sX (tB v), sY (tB v), sU (tB v), sV (tB v), sNm (tB v), 0, 0)].flatten) X ps_X6_28 0 rfl rfl rfl (Nat.le_of_ble_eq_true rfl) rfl dX6_clear_22 ?_
  exact g_vret X hx rfl rfl (by rfl) dX6_clear_25
set_option maxHeartbeats 4000000 in
set_option maxRecDepth 100000 in
theorem c_X6_copy (E : GE) (t : Nat) (a : Nat → Nat) (b : Nat → Nat) (t2 : Nat) (a2 : Nat → Nat) (b2 : Nat → Nat) (v : TV) (o : TV) : CT E m_X6_copy [.ref t, .ref t2] ([wTw E t a b (tR v) (tN v), wSv E a (tA v), wSv E b (tB v), wTw E t2 a2 b2 (tR o) (tN o), wSv E a2 (tA o), wSv E b2 (tB o)].flatten) none ([wTw E t a b (tR (tCopy o v)) (tN (tCopy o v)), wSv E a (tA (tCopy o v)), wSv E b (tB (tCopy o v)), wTw E t2 a2 b2 (tR o) (tN o), wSv E a2 (tA o), wSv E b2 (tB o)].flatten) := by
  refine CT.intro (by decide +kernel) (Nat.le_of_ble_eq_true rfl) (fun Γ X hx => ?_)
  refine GG.lv [0, 1] (lv' := [(0, .ref t), (1, .ref t2)]) rfl ?_
  refine g_aload_n X 0 dX6_copy_0 rfl ?_
  refine g_getf (v := .ref (a 0)) X fs_X6_12 0 rfl rfl dX6_copy_1 ?_
  refine g_aload_n X 1 dX6_copy_4 rfl ?_
  refine g_getf (v := .ref (a2 0)) X fs_X6_12 15 rfl rfl dX6_copy_5 ?_
  refine g_callV (st2 := []) (S' := [wTw E t a b (tR v) (tN v), wSv E a (svCopy (tA o) (tA v)), wSv E b (tB v), wTw E t2 a2 b2 (tR o) (tN o), wSv E a2 (tA o), wSv E b2 (tB o)]) (q0 := 0) X (c_X4_copy E a a2 (tA v) (tA o)) cs_X6_31 rfl [1, 4] [0, 2, 3, 5] 6 rfl rfl (by decide) [wTw E t a b (tR v) (tN v), wSv E b (tB v), wTw E t2 a2 b2 (tR o) (tN o), wSv E b2 (tB o)] rfl rfl rfl rfl (by simp only [List.map_cons, List.map_nil, fsSv, fsTw]) rfl rfl rfl rfl (Nat.le_of_ble_eq_true rfl) dX6_copy_8 rfl ?_
  refine g_aload_n X 0 dX6_copy_11 rfl ?_
  refine g_getf (v := .ref (b 0)) X fs_X6_18 0 rfl rfl dX6_copy_12 ?_
  refine g_aload_n X 1 dX6_copy_15 rfl ?_
  refine g_getf (v := .ref (b2 0)) X fs_X6_18 15 rfl rfl dX6_copy_16 ?_
  refine g_callV (st2 := []) (S' := [wTw E t a b (tR v) (tN v), wSv E a (svCopy (tA o) (tA v)), wSv E b (svCopy (tB o) (tB v)), wTw E t2 a2 b2 (tR o) (tN o), wSv E a2 (tA o), wSv E b2 (tB o)]) (q0 := 0) X (c_X4_copy E b b2 (tB v) (tB o)) cs_X6_31 rfl [2, 5] [0, 1, 3, 4] 6 rfl rfl (by decide) [wTw E t a b (tR v) (tN v), wSv E a (svCopy (tA o) (tA v)), wTw E t2 a2 b2 (tR o) (tN o), wSv E a2 (tA o)] rfl rfl rfl rfl (by simp only [List.map_cons, List.map_nil, fsSv, fsTw]) rfl rfl rfl rfl (Nat.le_of_ble_eq_true rfl) dX6_copy_19 rfl ?_
  refine g_aload_n X 0 dX6_copy_22 rfl ?_
  refine g_aload_n X 1 dX6_copy_23 rfl ?_
  refine g_getf (v := .int (tR o)) X fs_X6_24 15 rfl rfl dX6_copy_24 ?_
  refine g_putf (ws' := [wTw E t a b (tR o) (tN v), wSv E a (svCopy (tA o) (tA v)), wSv E b (svCopy (tB o) (tB v)), wTw E t2 a2 b2 (tR o) (tN o), wSv E a2 (tA o), wSv E b2 (tB o)].flatten) X ps_X6_24 0 rfl rfl rfl (Nat.le_of_ble_eq_true rfl) rfl dX6_copy_27 ?_
  refine g_aload_n X 0 dX6_copy_30 rfl ?_
  refine g_aload_n X 1 dX6_copy_31 rfl ?_
  refine g_getf (v := .int (nI (tN o))) X fs_X6_28 15 rfl rfl dX6_copy_32 ?_
  refine g_putf (ws' := [wTw E t a b (tR o) (tN o), wSv E a (svCopy (tA o) (tA v)), wSv E b (svCopy (tB o) (tB v)), wTw E t2 a2 b2 (tR o) (tN o), wSv E a2 (tA o), wSv E b2 (tB o)].flatten) X ps_X6_28 0 rfl rfl rfl (Nat.le_of_ble_eq_true rfl) rfl dX6_copy_35 ?_
  exact g_vret X hx rfl rfl (by rfl) dX6_copy_38
set_option maxHeartbeats 4000000 in
set_option maxRecDepth 100000 in
theorem c_X5_length (E : GE) (a : Nat → Nat) (w : (Nat → Int32) × Nat) : CT E m_X5_length [.ref (a 0)] ([wTx E a w].flatten) (some (.int (nI w.2))) ([wTx E a w].flatten) := by
  refine CT.intro (by decide +kernel) (Nat.le_of_ble_eq_true rfl) (fun Γ X hx => ?_)
  refine GG.lv [0] (lv' := [(0, .ref (a 0))]) rfl ?_
  refine g_aload_n X 0 dX5_length_0 rfl ?_
  refine g_getf (v := .int (nI w.2)) X fs_X5_15 0 rfl rfl dX5_length_1 ?_
  exact g_iretv (r := (nI w.2)) X hx rfl (by rfl) (by rfl) dX5_length_4
set_option maxHeartbeats 4000000 in
set_option maxRecDepth 100000 in
theorem c_X5_add (E : GE) (a : Nat → Nat) (w : (Nat → Int32) × Nat) (x : Int32) (hw : w.2 ≤ 200) : CT E m_X5_add [.ref (a 0), .int x] ([wTx E a w].flatten) (some (.int (b2i (decide (w.2 < 200))))) ([wTx E a (txAdd w x)].flatten) := by
  refine CT.intro (by decide +kernel) (Nat.le_of_ble_eq_true rfl) (fun Γ X hx => ?_)
  refine GG.lv [0, 1] (lv' := [(0, .ref (a 0)), (1, .int x)]) rfl ?_
  refine g_aload_n X 0 dX5_add_0 rfl ?_
  refine g_getf (v := .int (nI w.2)) X fs_X5_15 0 rfl rfl dX5_add_1 ?_
  refine g_aload_n X 0 dX5_add_4 rfl ?_
  refine g_getf (v := .ref (a 1)) X fs_X5_9 0 rfl rfl dX5_add_5 ?_
  refine g_alen (v := nI 200) X 1 1 rfl rfl rfl dX5_add_8 ?_
  refine g_icmp_lt (tgt := 14) X dX5_add_9 (by decide) (fun c_9 => ?_) (fun c_9 => ?_)
  · have f_c_9 : w.2 < 200 := n_lt (by omega) (by omega) c_9
    have fn_c_9 := Nat.not_le.mpr f_c_9
    refine g_aload_n X 0 dX5_add_14 rfl ?_
    refine g_getf (v := .ref (a 1)) X fs_X5_9 0 rfl rfl dX5_add_15 ?_
    refine g_aload_n X 0 dX5_add_18 rfl ?_
    refine g_getf (v := .int (nI w.2)) X fs_X5_15 0 rfl rfl dX5_add_19 ?_
    refine g_iload_n X 1 dX5_add_22 rfl ?_
    refine g_i2c X dX5_add_23 ?_
    refine g_cast (ws' := [wTx E a (upd w.1 w.2 (vp_nar .char ((x.toUInt32 % 65536).toInt32)), w.2)].flatten) X 1 rfl w.2 (ix_nI (by omega) (by decide)) rfl dX5_add_24 ?_
    refine g_aload_n X 0 dX5_add_25 rfl ?_
    refine g_dup X dX5_add_26 rfl ?_
    refine g_getf (v := .int (nI w.2)) X fs_X5_15 0 rfl rfl dX5_add_27 ?_
    refine g_iconst (v := (nI 1)) X dX5_add_30 rfl ?_
    refine g_iaddN X dX5_add_31 ?_
    refine g_putf (ws' := [wTx E a (upd w.1 w.2 (vp_nar .char ((x.toUInt32 % 65536).toInt32)), w.2 + 1)].flatten) X ps_X5_15 0 rfl rfl rfl (Nat.le_of_ble_eq_true rfl) rfl dX5_add_32 ?_
    refine g_iconst (v := (nI 1)) X dX5_add_35 rfl ?_
    exact g_zretv (r := (nI 1)) X hx rfl (by simp [b2i, c_9, f_c_9, fn_c_9]; try rfl) (by simp [txAdd, chr, c_9, f_c_9, fn_c_9]) dX5_add_36
  · have f_c_9 : 200 ≤ w.2 := n_nlt (by omega) (by omega) c_9
    have fn_c_9 := Nat.not_lt.mpr f_c_9
    refine g_iconst (v := (nI 0)) X dX5_add_12 rfl ?_
    exact g_zretv (r := (nI 0)) X hx rfl (by simp [b2i, c_9, f_c_9, fn_c_9]; try rfl) (by simp [txAdd, chr, c_9, f_c_9, fn_c_9]) dX5_add_13
set_option maxHeartbeats 4000000 in
set_option maxRecDepth 100000 in
theorem c_X5_clear (E : GE) (a : Nat → Nat) (w : (Nat → Int32) × Nat) : CT E m_X5_clear [.ref (a 0)] ([wTx E a w].flatten) none ([wTx E a (w.1, 0)].flatten) := by
  refine CT.intro (by decide +kernel) (Nat.le_of_ble_eq_true rfl) (fun Γ X hx => ?_)
  refine GG.lv [0] (lv' := [(0, .ref (a 0))]) rfl ?_
  refine g_aload_n X 0 dX5_clear_0 rfl ?_
  refine g_iconst (v := (nI 0)) X dX5_clear_1 rfl ?_
  refine g_putf (ws' := [wTx E a (w.1, 0)].flatten) X ps_X5_15 0 rfl rfl rfl (Nat.le_of_ble_eq_true rfl) rfl dX5_clear_2 ?_
  exact g_vret X hx rfl rfl (by rfl) dX5_clear_5
set_option maxHeartbeats 4000000 in
set_option maxRecDepth 100000 in
theorem c_X5_letterAt (E : GE) (a : Nat → Nat) (w : (Nat → Int32) × Nat) (k : Nat) (hw : w.2 ≤ 200) (hk : k < 2 ^ 31) : CT E m_X5_letterAt [.ref (a 0), .int (nI k)] ([wTx E a w].flatten) (some (.int (txAt w k))) ([wTx E a w].flatten) := by
  refine CT.intro (by decide +kernel) (Nat.le_of_ble_eq_true rfl) (fun Γ X hx => ?_)
  refine GG.lv [0, 1] (lv' := [(0, .ref (a 0)), (1, .int (nI k))]) rfl ?_
  refine g_iload_n X 1 dX5_letterAt_0 rfl ?_
  refine g_if_lt (tgt := 21) X dX5_letterAt_1 (by decide) (fun c_1 => absurd c_1 (nI_pos (by omega))) (fun c_1 => ?_)
  refine g_iload_n X 1 dX5_letterAt_4 rfl ?_
  refine g_aload_n X 0 dX5_letterAt_5 rfl ?_
  refine g_getf (v := .int (nI w.2)) X fs_X5_15 0 rfl rfl dX5_letterAt_6 ?_
  refine g_icmp_ge (tgt := 21) X dX5_letterAt_9 (by decide) (fun c_9 => ?_) (fun c_9 => ?_)
  · have f_c_9 : w.2 ≤ k := n_le (by omega) (by omega) c_9
    have fn_c_9 := Nat.not_lt.mpr f_c_9
    refine g_iconst (v := (nI 0)) X dX5_letterAt_21 rfl ?_
    exact g_iretv (r := (nI 0)) X hx rfl (by simp [txAt, c_9, f_c_9, fn_c_9]) (by rfl) dX5_letterAt_22
  · have f_c_9 : k < w.2 := n_nle (by omega) (by omega) c_9
    have fn_c_9 := Nat.not_le.mpr f_c_9
    refine g_aload_n X 0 dX5_letterAt_12 rfl ?_
    refine g_getf (v := .ref (a 1)) X fs_X5_9 0 rfl rfl dX5_letterAt_13 ?_
    refine g_iload_n X 1 dX5_letterAt_16 rfl ?_
    refine g_cald X 1 rfl k (ix_nI (by omega) (by decide)) dX5_letterAt_17 ?_
    refine g_goto (tgt := 22) X dX5_letterAt_18 (by decide) ?_
    exact g_iretv (r := (w.1 k)) X hx rfl (by simp [txAt, c_9, f_c_9, fn_c_9]) (by rfl) dX5_letterAt_22
set_option maxHeartbeats 4000000 in
set_option maxRecDepth 100000 in
theorem c_X3_hasPlace (E : GE) (a : Nat → Nat) (f : Nat → Int32) (x : Int32) (y : Int32) : CT E m_X3_hasPlace [.ref (a 0), .int x, .int y] ([wSh E a f].flatten) (some (.int (b2i (inR x (nI 0) (nI 2) && inR y (nI 0) (nI 3))))) ([wSh E a f].flatten) := by
  refine CT.intro (by decide +kernel) (Nat.le_of_ble_eq_true rfl) (fun Γ X hx => ?_)
  refine GG.lv [0, 1, 2] (lv' := [(0, .ref (a 0)), (1, .int x), (2, .int y)]) rfl ?_
  refine g_iload_n X 1 dX3_hasPlace_0 rfl ?_
  refine g_iconst (v := (nI 0)) X dX3_hasPlace_1 rfl ?_
  refine g_iconst (v := (nI 2)) X dX3_hasPlace_2 rfl ?_
  refine g_callN (st2 := [.int (b2i (inR x (nI 0) (nI 2)))]) X (c_X9_isWithin E x (nI 0) (nI 2)) cs_X3_18 rfl rfl rfl (Nat.le_of_ble_eq_true rfl) dX3_hasPlace_3 rfl ?_
  refine g_bif_eq (tgt := 22) X dX3_hasPlace_6 (by decide) (fun c_6 => ?_) (fun c_6 => ?_)
  · refine g_iconst (v := (nI 0)) X dX3_hasPlace_22 rfl ?_
    exact g_zretv (r := (nI 0)) X hx rfl (by simp [b2i, c_6]; try rfl) (by rfl) dX3_hasPlace_23
  · refine g_iload_n X 2 dX3_hasPlace_9 rfl ?_
    refine g_iconst (v := (nI 0)) X dX3_hasPlace_10 rfl ?_
    refine g_iconst (v := (nI 3)) X dX3_hasPlace_11 rfl ?_
    refine g_callN (st2 := [.int (b2i (inR y (nI 0) (nI 3)))]) X (c_X9_isWithin E y (nI 0) (nI 3)) cs_X3_18 rfl rfl rfl (Nat.le_of_ble_eq_true rfl) dX3_hasPlace_12 rfl ?_
    refine g_bif_eq (tgt := 22) X dX3_hasPlace_15 (by decide) (fun c_15 => ?_) (fun c_15 => ?_)
    · refine g_iconst (v := (nI 0)) X dX3_hasPlace_22 rfl ?_
      exact g_zretv (r := (nI 0)) X hx rfl (by simp [b2i, c_6, c_15]; try rfl) (by rfl) dX3_hasPlace_23
    · refine g_iconst (v := (nI 1)) X dX3_hasPlace_18 rfl ?_
      refine g_goto (tgt := 23) X dX3_hasPlace_19 (by decide) ?_
      exact g_zretv (r := (nI 1)) X hx rfl (by simp [b2i, c_6, c_15]; try rfl) (by rfl) dX3_hasPlace_23
set_option maxHeartbeats 4000000 in
set_option maxRecDepth 100000 in
theorem c_X3_takes (E : GE) (s : Int32) (x : Int32) : CT E m_X3_takes [.int s, .int x] ([]) (some (.int (b2i (shTakes s x)))) ([]) := by
  refine CT.intro (by decide +kernel) (Nat.le_of_ble_eq_true rfl) (fun Γ X hx => ?_)
  refine GG.lv [0, 1] (lv' := [(0, .int s), (1, .int x)]) rfl ?_
  refine g_iload_n X 1 dX3_takes_0 rfl ?_
  refine g_bipush (v := (nI 8)) X dX3_takes_1 rfl ?_
  refine g_icmp_lt (tgt := 10) X dX3_takes_3 (by decide) (fun c_3 => ?_) (fun c_3 => ?_)
  · refine g_iconst (v := (nI 0)) X dX3_takes_10 rfl ?_
    refine g_istore_n (lv' := [(2, .int (nI 0)), (0, .int s), (1, .int x)]) X dX3_takes_11 (by decide) rfl ?_
    refine g_iload_n X 1 dX3_takes_12 rfl ?_
    refine g_iconst (v := (nI 2)) X dX3_takes_13 rfl ?_
    refine g_icmp_eq (tgt := 31) X dX3_takes_14 (by decide) (fun c_14 => ?_) (fun c_14 => ?_)
    · refine g_iconst (v := (nI 1)) X dX3_takes_31 rfl ?_
      refine g_goto (tgt := 36) X dX3_takes_32 (by decide) ?_
      exact g_zretv (r := (nI 1)) X hx rfl (by simp [shTakes, b2i, nI_eq, c_3, c_14]; try rfl) (by rfl) dX3_takes_36
    · refine g_iload_n X 0 dX3_takes_17 rfl ?_
      refine g_iload_n X 1 dX3_takes_18 rfl ?_
      refine g_iconst (v := (nI 1)) X dX3_takes_19 rfl ?_
      refine g_icmp_ne (tgt := 27) X dX3_takes_20 (by decide) (fun c_20 => ?_) (fun c_20 => ?_)
      · refine g_iconst (v := (nI 0)) X dX3_takes_27 rfl ?_
        refine g_icmp_ne (tgt := 35) X dX3_takes_28 (by decide) (fun c_28 => absurd c_28 (by decide)) (fun c_28 => ?_)
        refine g_iconst (v := (nI 1)) X dX3_takes_31 rfl ?_
        refine g_goto (tgt := 36) X dX3_takes_32 (by decide) ?_
        exact g_zretv (r := (nI 1)) X hx rfl (by simp [shTakes, b2i, nI_eq, c_3, c_14, c_20]; try rfl) (by rfl) dX3_takes_36
      · refine g_iconst (v := (nI 1)) X dX3_takes_23 rfl ?_
        refine g_goto (tgt := 28) X dX3_takes_24 (by decide) ?_
        refine g_icmp_ne (tgt := 35) X dX3_takes_28 (by decide) (fun c_28 => ?_) (fun c_28 => absurd c_28 (by decide))
        refine g_iconst (v := (nI 0)) X dX3_takes_35 rfl ?_
        exact g_zretv (r := (nI 0)) X hx rfl (by simp [shTakes, b2i, nI_eq, c_3, c_14, c_20]; try rfl) (by rfl) dX3_takes_36
  · refine g_iconst (v := (nI 1)) X dX3_takes_6 rfl ?_
    refine g_goto (tgt := 11) X dX3_takes_7 (by decide) ?_
    refine g_istore_n (lv' := [(2, .int (nI 1)), (0, .int s), (1, .int x)]) X dX3_takes_11 (by decide) rfl ?_
    refine g_iload_n X 1 dX3_takes_12 rfl ?_
    refine g_iconst (v := (nI 2)) X dX3_takes_13 rfl ?_
    refine g_icmp_eq (tgt := 31) X dX3_takes_14 (by decide) (fun c_14 => ?_) (fun c_14 => ?_)
    · refine g_iconst (v := (nI 1)) X dX3_takes_31 rfl ?_
      refine g_goto (tgt := 36) X dX3_takes_32 (by decide) ?_
      exact g_zretv (r := (nI 1)) X hx rfl (by simp [shTakes, b2i, nI_eq, c_3, c_14]; try rfl) (by rfl) dX3_takes_36
    · refine g_iload_n X 0 dX3_takes_17 rfl ?_
      refine g_iload_n X 1 dX3_takes_18 rfl ?_
      refine g_iconst (v := (nI 1)) X dX3_takes_19 rfl ?_
      refine g_icmp_ne (tgt := 27) X dX3_takes_20 (by decide) (fun c_20 => ?_) (fun c_20 => ?_)
      · refine g_iconst (v := (nI 0)) X dX3_takes_27 rfl ?_
        refine g_icmp_ne (tgt := 35) X dX3_takes_28 (by decide) (fun c_28 => ?_) (fun c_28 => absurd c_28 (by decide))
        refine g_iconst (v := (nI 0)) X dX3_takes_35 rfl ?_
        exact g_zretv (r := (nI 0)) X hx rfl (by simp [shTakes, b2i, nI_eq, c_3, c_14, c_20]; try rfl) (by rfl) dX3_takes_36
      · refine g_iconst (v := (nI 1)) X dX3_takes_23 rfl ?_
        refine g_goto (tgt := 28) X dX3_takes_24 (by decide) ?_
        refine g_icmp_ne (tgt := 35) X dX3_takes_28 (by decide) (fun c_28 => absurd c_28 (by decide)) (fun c_28 => ?_)
        refine g_iconst (v := (nI 1)) X dX3_takes_31 rfl ?_
        refine g_goto (tgt := 36) X dX3_takes_32 (by decide) ?_
        exact g_zretv (r := (nI 1)) X hx rfl (by simp [shTakes, b2i, nI_eq, c_3, c_14, c_20]; try rfl) (by rfl) dX3_takes_36
set_option maxHeartbeats 4000000 in
set_option maxRecDepth 100000 in
theorem c_X3_put (E : GE) (a : Nat → Nat) (f : Nat → Int32) (p : Nat) (q : Nat) (x : Int32) (hp : p < 3) (hq : q < 4) : CT E m_X3_put [.ref (a 0), .int (nI p), .int (nI q), .int x] ([wSh E a f].flatten) none ([wSh E a (upd f (p * 4 + q) x)].flatten) := by
  refine CT.intro (by decide +kernel) (Nat.le_of_ble_eq_true rfl) (fun Γ X hx => ?_)
  refine GG.lv [0, 1, 2, 3] (lv' := [(0, .ref (a 0)), (1, .int (nI p)), (2, .int (nI q)), (3, .int x)]) rfl ?_
  refine g_aload_n X 0 dX3_put_0 rfl ?_
  refine g_iload_n X 1 dX3_put_1 rfl ?_
  refine g_iload_n X 2 dX3_put_2 rfl ?_
  refine g_callVr (st2 := [.int (b2i (inR (nI p) (nI 0) (nI 2) && inR (nI q) (nI 0) (nI 3)))]) (q0 := 0) X (c_X3_hasPlace E a f (nI p) (nI q)) cs_X3_22 rfl [0] [] 1 rfl (by decide) rfl rfl rfl rfl rfl (Nat.le_of_ble_eq_true rfl) dX3_put_3 rfl ?_
  refine g_bif_eq (tgt := 20) X dX3_put_6 (by decide) (fun c_6 => absurd (by rw [inR_t (by omega) (by decide), inR_t (by omega) (by decide)]; rfl) (Bool.eq_false_iff.mp c_6)) (fun c_6 => ?_)
  refine g_aload_n X 0 dX3_put_9 rfl ?_
  refine g_getf (v := .ref (a 1)) X fs_X3_9 0 rfl rfl dX3_put_10 ?_
  refine g_iload_n X 1 dX3_put_13 rfl ?_
  refine g_iconst (v := (nI 4)) X dX3_put_14 rfl ?_
  refine g_imulN X dX3_put_15 ?_
  refine g_iload_n X 2 dX3_put_16 rfl ?_
  refine g_iaddN X dX3_put_17 ?_
  refine g_iload_n X 3 dX3_put_18 rfl ?_
  refine g_iast (ws' := [wSh E a (upd f ((p * 4) + q) x)].flatten) X 1 rfl ((p * 4) + q) (ix_nI (by omega) (by decide)) rfl dX3_put_19 ?_
  exact g_vret X hx rfl rfl (by rfl) dX3_put_20
set_option maxHeartbeats 4000000 in
set_option maxRecDepth 100000 in
theorem c_X3_thingAt (E : GE) (a : Nat → Nat) (f : Nat → Int32) (p : Nat) (q : Nat) (hp : p < 3) (hq : q < 4) : CT E m_X3_thingAt [.ref (a 0), .int (nI p), .int (nI q)] ([wSh E a f].flatten) (some (.int (f (p * 4 + q)))) ([wSh E a f].flatten) := by
  refine CT.intro (by decide +kernel) (Nat.le_of_ble_eq_true rfl) (fun Γ X hx => ?_)
  refine GG.lv [0, 1, 2] (lv' := [(0, .ref (a 0)), (1, .int (nI p)), (2, .int (nI q))]) rfl ?_
  refine g_aload_n X 0 dX3_thingAt_0 rfl ?_
  refine g_iload_n X 1 dX3_thingAt_1 rfl ?_
  refine g_iload_n X 2 dX3_thingAt_2 rfl ?_
  refine g_callVr (st2 := [.int (b2i (inR (nI p) (nI 0) (nI 2) && inR (nI q) (nI 0) (nI 3)))]) (q0 := 0) X (c_X3_hasPlace E a f (nI p) (nI q)) cs_X3_22 rfl [0] [] 1 rfl (by decide) rfl rfl rfl rfl rfl (Nat.le_of_ble_eq_true rfl) dX3_thingAt_3 rfl ?_
  refine g_bif_eq (tgt := 22) X dX3_thingAt_6 (by decide) (fun c_6 => absurd (by rw [inR_t (by omega) (by decide), inR_t (by omega) (by decide)]; rfl) (Bool.eq_false_iff.mp c_6)) (fun c_6 => ?_)
  refine g_aload_n X 0 dX3_thingAt_9 rfl ?_
  refine g_getf (v := .ref (a 1)) X fs_X3_9 0 rfl rfl dX3_thingAt_10 ?_
  refine g_iload_n X 1 dX3_thingAt_13 rfl ?_
  refine g_iconst (v := (nI 4)) X dX3_thingAt_14 rfl ?_
  refine g_imulN X dX3_thingAt_15 ?_
  refine g_iload_n X 2 dX3_thingAt_16 rfl ?_
  refine g_iaddN X dX3_thingAt_17 ?_
  refine g_iald X 1 rfl ((p * 4) + q) (ix_nI (by omega) (by decide)) dX3_thingAt_18 ?_
  refine g_goto (tgt := 24) X dX3_thingAt_19 (by decide) ?_
  exact g_iretv (r := (f ((p * 4) + q))) X hx rfl (by rfl) (by rfl) dX3_thingAt_24
set_option maxHeartbeats 4000000 in
set_option maxRecDepth 100000 in
theorem c_X3_things (E : GE) (a : Nat → Nat) (f : Nat → Int32) : CT E m_X3_things [.ref (a 0)] ([wSh E a f].flatten) (some (.int (nI (cntB (fun k => decide (¬ f k = -4)) 12)))) ([wSh E a f].flatten) := by
  refine CT.intro (by decide +kernel) (Nat.le_of_ble_eq_true rfl) (fun Γ X hx => ?_)
  refine GG.lv [0] (lv' := [(0, .ref (a 0))]) rfl ?_
  refine g_iconst (v := (nI 0)) X dX3_things_0 rfl ?_
  refine g_istore_n (lv' := [(1, .int (nI 0)), (0, .ref (a 0))]) X dX3_things_1 (by decide) rfl ?_
  refine g_iconst (v := (nI 0)) X dX3_things_2 rfl ?_
  refine g_istore_n (lv' := [(2, .int (nI 0)), (1, .int (nI 0)), (0, .ref (a 0))]) X dX3_things_3 (by decide) rfl ?_
  have L_4 : ∀ (n_4 : Nat) (k : Nat) (hk : k ≤ 12) (hm_4 : 12 - k < n_4) (x_1 : Int32) (ex_1 : x_1 = (nI (cntB (fun k => decide (¬ f k = -4)) k))) (x_2 : Int32) (ex_2 : x_2 = (nI k)), GG E m_X3_things Γ 0 0 ([wSh E a f].flatten) [(0, .ref (a 0)), (1, .int x_1), (2, .int x_2)] 4 [] := by
    intro n_4
    induction n_4 with
    | zero => intro k hk hm_4; exact absurd hm_4 (Nat.not_lt_zero _)
    | succ n_4 ih_4 =>
      intro k hk hm_4 x_1 ex_1 x_2 ex_2
      subst ex_1
      subst ex_2
      refine g_iload_n X 2 dX3_things_4 rfl ?_
      refine g_aload_n X 0 dX3_things_5 rfl ?_
      refine g_getf (v := .ref (a 1)) X fs_X3_9 0 rfl rfl dX3_things_6 ?_
      refine g_alen (v := nI 12) X 1 0 rfl rfl rfl dX3_things_9 ?_
      refine g_icmp_ge (tgt := 33) X dX3_things_10 (by decide) (fun c_10 => ?_) (fun c_10 => ?_)
      · have f_c_10 : 12 ≤ k := n_le (by omega) (by omega) c_10
        have fn_c_10 := Nat.not_lt.mpr f_c_10
        refine g_iload_n X 1 dX3_things_33 rfl ?_
        exact g_iretv (r := (nI (cntB (fun k => decide (¬ f k = -4)) k))) X hx rfl (by rw [show 12 = k by omega]) (by rfl) dX3_things_34
      · have f_c_10 : k < 12 := n_nle (by omega) (by omega) c_10
        have fn_c_10 := Nat.not_le.mpr f_c_10
        refine g_aload_n X 0 dX3_things_13 rfl ?_
        refine g_getf (v := .ref (a 1)) X fs_X3_9 0 rfl rfl dX3_things_14 ?_
        refine g_iload_n X 2 dX3_things_17 rfl ?_
        refine g_iald X 1 rfl k (ix_nI (by omega) (by decide)) dX3_things_18 ?_
        refine g_bipush (v := (-4)) X dX3_things_19 rfl ?_
        refine g_icmp_eq (tgt := 27) X dX3_things_21 (by decide) (fun c_21 => ?_) (fun c_21 => ?_)
        · refine g_iincN (lv' := [(2, .int (nI (k + 1))), (0, .ref (a 0)), (1, .int (nI (cntB (fun k => decide (¬ f k = -4)) k)))]) X 2 dX3_things_27 rfl (by decide) rfl ?_
          refine g_goto (tgt := 4) X dX3_things_30 (by decide) ?_
          refine GG.lv [1, 2, 0] rfl ?_
          exact ih_4 (k + 1) (by omega) (by omega) (nI (cntB (fun k => decide (¬ f k = -4)) k)) (by first | rw [cntB_t (by simp [c_10, f_c_10, fn_c_10, c_21])] | rw [← cntB_f (by simp [c_10, f_c_10, fn_c_10, c_21])]) (nI (k + 1)) (by rfl)
        · refine g_iincN (lv' := [(1, .int (nI (cntB (fun k => decide (¬ f k = -4)) k + 1))), (0, .ref (a 0)), (2, .int (nI k))]) X 1 dX3_things_24 rfl (by decide) rfl ?_
          refine g_iincN (lv' := [(2, .int (nI (k + 1))), (1, .int (nI (cntB (fun k => decide (¬ f k = -4)) k + 1))), (0, .ref (a 0))]) X 2 dX3_things_27 rfl (by decide) rfl ?_
          refine g_goto (tgt := 4) X dX3_things_30 (by decide) ?_
          refine GG.lv [2, 1, 0] rfl ?_
          exact ih_4 (k + 1) (by omega) (by omega) (nI (cntB (fun k => decide (¬ f k = -4)) k + 1)) (by first | rw [cntB_t (by simp [c_10, f_c_10, fn_c_10, c_21])] | rw [← cntB_f (by simp [c_10, f_c_10, fn_c_10, c_21])]) (nI (k + 1)) (by rfl)
  refine GG.lv [2, 1, 0] rfl ?_
  exact L_4 (13) 0 (by omega) (by omega) (nI 0) (by rfl) (nI 0) (by rfl)
set_option maxHeartbeats 4000000 in
set_option maxRecDepth 100000 in
theorem c_X3_clear (E : GE) (a : Nat → Nat) (f : Nat → Int32) : CT E m_X3_clear [.ref (a 0)] ([wSh E a f].flatten) none ([wSh E a (clrF f 12)].flatten) := by
  refine CT.intro (by decide +kernel) (Nat.le_of_ble_eq_true rfl) (fun Γ X hx => ?_)
  refine GG.lv [0] (lv' := [(0, .ref (a 0))]) rfl ?_
  refine g_iconst (v := (nI 0)) X dX3_clear_0 rfl ?_
  refine g_istore_n (lv' := [(1, .int (nI 0)), (0, .ref (a 0))]) X dX3_clear_1 (by decide) rfl ?_
  have L_2 : ∀ (n_2 : Nat) (k : Nat) (hk : k ≤ 12) (hm_2 : 12 - k < n_2) (x_1 : Int32) (ex_1 : x_1 = (nI k)) (u_0 : Nat → Int32) (eu_0 : u_0 = clrF f k), GG E m_X3_clear Γ 0 0 ([wSh E a u_0].flatten) [(0, .ref (a 0)), (1, .int x_1)] 2 [] := by
    intro n_2
    induction n_2 with
    | zero => intro k hk hm_2; exact absurd hm_2 (Nat.not_lt_zero _)
    | succ n_2 ih_2 =>
      intro k hk hm_2 x_1 ex_1 u_0 eu_0
      subst ex_1
      subst eu_0
      refine g_iload_n X 1 dX3_clear_2 rfl ?_
      refine g_aload_n X 0 dX3_clear_3 rfl ?_
      refine g_getf (v := .ref (a 1)) X fs_X3_9 0 rfl rfl dX3_clear_4 ?_
      refine g_alen (v := nI 12) X 1 0 rfl rfl rfl dX3_clear_7 ?_
      refine g_icmp_ge (tgt := 25) X dX3_clear_8 (by decide) (fun c_8 => ?_) (fun c_8 => ?_)
      · have f_c_8 : 12 ≤ k := n_le (by omega) (by omega) c_8
        have fn_c_8 := Nat.not_lt.mpr f_c_8
        exact g_vret X hx rfl rfl (by rw [show 12 = k by omega]) dX3_clear_25
      · have f_c_8 : k < 12 := n_nle (by omega) (by omega) c_8
        have fn_c_8 := Nat.not_le.mpr f_c_8
        refine g_aload_n X 0 dX3_clear_11 rfl ?_
        refine g_getf (v := .ref (a 1)) X fs_X3_9 0 rfl rfl dX3_clear_12 ?_
        refine g_iload_n X 1 dX3_clear_15 rfl ?_
        refine g_bipush (v := (-4)) X dX3_clear_16 rfl ?_
        refine g_iast (ws' := [wSh E a (upd (clrF f k) k (-4))].flatten) X 1 rfl k (ix_nI (by omega) (by decide)) rfl dX3_clear_18 ?_
        refine g_iincN (lv' := [(1, .int (nI (k + 1))), (0, .ref (a 0))]) X 1 dX3_clear_19 rfl (by decide) rfl ?_
        refine g_goto (tgt := 2) X dX3_clear_22 (by decide) ?_
        refine GG.lv [1, 0] rfl ?_
        exact ih_2 (k + 1) (by omega) (by omega) (nI (k + 1)) (by rfl) (upd (clrF f k) k (-4)) (by exact clrF_s _ _)
  refine GG.lv [1, 0] rfl ?_
  exact L_2 (13) 0 (by omega) (by omega) (nI 0) (by rfl) f (by exact (clrF_0 _).symm)
