set_option maxHeartbeats 4000000 in
set_option maxRecDepth 100000 in
theorem c_X9_hasMeeting (E : GE) (O : Nat → Nat → Nat) (v : TV) (s : Int32) (i : Int32) (hv : okT v) : CT E m_X9_hasMeeting [.ref (O 0 0), .int s, .int i] ([wTS E O, wTw E (O 3 0) (O 4) (O 5) (tR v) (tN v), wSv E (O 4) (tA v), wSv E (O 5) (tB v)].flatten) (some (.int (b2i (hasM v s i)))) ([wTS E O, wTw E (O 3 0) (O 4) (O 5) (tR v) (tN v), wSv E (O 4) (tA v), wSv E (O 5) (tB v)].flatten) := by
  refine CT.intro (by decide +kernel) (Nat.le_of_ble_eq_true rfl) (fun Γ X hx => ?_)
  refine GG.lv [0, 1, 2] (lv' := [(0, .ref (O 0 0)), (1, .int s), (2, .int i)]) rfl ?_
  have hA : okS (tA v) := hv.1
  have hB : okS (tB v) := hv.2.1
  have hv1 : sM (tA v) ≤ 8 := hA.1
  have hv2 : sS (tA v) ≤ 8 := hA.2
  have hv3 : sM (tB v) ≤ 8 := hB.1
  have hv4 : sS (tB v) ≤ 8 := hB.2
  have hv5 : tN v ≤ 3 := hv.2.2
  refine g_iload_n X 1 dX9_hasMeeting_0 rfl ?_
  refine g_iconst (v := (nI 0)) X dX9_hasMeeting_1 rfl ?_
  refine g_iconst (v := (nI 1)) X dX9_hasMeeting_2 rfl ?_
  refine g_callSP (st2 := [.int (b2i (inR s (nI 0) (nI 1)))]) (ws' := [wTS E O, wTw E (O 3 0) (O 4) (O 5) (tR v) (tN v), wSv E (O 4) (tA v), wSv E (O 5) (tB v)].flatten) (wr := [wTS E O, wTw E (O 3 0) (O 4) (O 5) (tR v) (tN v), wSv E (O 4) (tA v), wSv E (O 5) (tB v)].flatten) X (c_X9_isWithin E s (nI 0) (nI 1)) cs_X9_140 rfl (List.Perm.refl _) rfl (List.Perm.refl _) rfl rfl (Nat.le_of_ble_eq_true rfl) dX9_hasMeeting_3 rfl ?_
  refine g_bif_eq (tgt := 28) X dX9_hasMeeting_6 (by decide) (fun c_6 => ?_) (fun c_6 => ?_)
  · obtain ⟨n0, n1⟩ := inR01f c_6
    refine g_iconst (v := (nI 0)) X dX9_hasMeeting_28 rfl ?_
    exact g_zretv (r := (nI 0)) X hx rfl (by simp [hasM, b2i, n0, n1]; try rfl) (by rfl) dX9_hasMeeting_29
  · rcases inR01 c_6 with rfl | rfl
    · refine g_aload_n X 0 dX9_hasMeeting_9 rfl ?_
      refine g_getf (v := .ref (O 3 0)) X fs_X9_74 0 rfl rfl dX9_hasMeeting_10 ?_
      refine g_iload_n X 1 dX9_hasMeeting_13 rfl ?_
      refine g_callVr (st2 := [.ref ((O 4) 0)]) (q0 := 0) X (c_X6_surveyOf_0 E (O 3 0) (O 4) (O 5) v) cs_X9_92 rfl [1, 2, 3] [0] 4 rfl (by decide) rfl rfl rfl rfl rfl (Nat.le_of_ble_eq_true rfl) dX9_hasMeeting_14 rfl ?_
      refine g_iload_n X 2 dX9_hasMeeting_17 rfl ?_
      refine g_callVr (st2 := [.int (b2i (hasN (sM (tA v)) i))]) (q0 := 0) X (c_X4_hasMeeting E (O 4) (tA v) i) cs_X9_273 rfl [2] [0, 1, 3] 4 rfl (by decide) rfl rfl rfl rfl rfl (Nat.le_of_ble_eq_true rfl) dX9_hasMeeting_18 rfl ?_
      refine g_bif_eq (tgt := 28) X dX9_hasMeeting_21 (by decide) (fun c_21 => ?_) (fun c_21 => ?_)
      · refine g_iconst (v := (nI 0)) X dX9_hasMeeting_28 rfl ?_
        exact g_zretv (r := (nI 0)) X hx rfl (by simp [hasM, b2i, nI_eq, c_6, c_21]; try rfl) (by rfl) dX9_hasMeeting_29
      · refine g_iconst (v := (nI 1)) X dX9_hasMeeting_24 rfl ?_
        refine g_goto (tgt := 29) X dX9_hasMeeting_25 (by decide) ?_
        exact g_zretv (r := (nI 1)) X hx rfl (by simp [hasM, b2i, nI_eq, c_6, c_21]; try rfl) (by rfl) dX9_hasMeeting_29
    · refine g_aload_n X 0 dX9_hasMeeting_9 rfl ?_
      refine g_getf (v := .ref (O 3 0)) X fs_X9_74 0 rfl rfl dX9_hasMeeting_10 ?_
      refine g_iload_n X 1 dX9_hasMeeting_13 rfl ?_
      refine g_callVr (st2 := [.ref ((O 5) 0)]) (q0 := 0) X (c_X6_surveyOf_1 E (O 3 0) (O 4) (O 5) v) cs_X9_92 rfl [1, 2, 3] [0] 4 rfl (by decide) rfl rfl rfl rfl rfl (Nat.le_of_ble_eq_true rfl) dX9_hasMeeting_14 rfl ?_
      refine g_iload_n X 2 dX9_hasMeeting_17 rfl ?_
      refine g_callVr (st2 := [.int (b2i (hasN (sM (tB v)) i))]) (q0 := 0) X (c_X4_hasMeeting E (O 5) (tB v) i) cs_X9_273 rfl [3] [0, 1, 2] 4 rfl (by decide) rfl rfl rfl rfl rfl (Nat.le_of_ble_eq_true rfl) dX9_hasMeeting_18 rfl ?_
      refine g_bif_eq (tgt := 28) X dX9_hasMeeting_21 (by decide) (fun c_21 => ?_) (fun c_21 => ?_)
      · refine g_iconst (v := (nI 0)) X dX9_hasMeeting_28 rfl ?_
        exact g_zretv (r := (nI 0)) X hx rfl (by simp [hasM, b2i, nI_eq, c_6, c_21]; try rfl) (by rfl) dX9_hasMeeting_29
      · refine g_iconst (v := (nI 1)) X dX9_hasMeeting_24 rfl ?_
        refine g_goto (tgt := 29) X dX9_hasMeeting_25 (by decide) ?_
        exact g_zretv (r := (nI 1)) X hx rfl (by simp [hasM, b2i, nI_eq, c_6, c_21]; try rfl) (by rfl) dX9_hasMeeting_29
set_option maxHeartbeats 4000000 in
set_option maxRecDepth 100000 in
theorem c_X9_hasStreet (E : GE) (O : Nat → Nat → Nat) (v : TV) (s : Int32) (i : Int32) (hv : okT v) : CT E m_X9_hasStreet [.ref (O 0 0), .int s, .int i] ([wTS E O, wTw E (O 3 0) (O 4) (O 5) (tR v) (tN v), wSv E (O 4) (tA v), wSv E (O 5) (tB v)].flatten) (some (.int (b2i (hasS v s i)))) ([wTS E O, wTw E (O 3 0) (O 4) (O 5) (tR v) (tN v), wSv E (O 4) (tA v), wSv E (O 5) (tB v)].flatten) := by
  refine CT.intro (by decide +kernel) (Nat.le_of_ble_eq_true rfl) (fun Γ X hx => ?_)
  refine GG.lv [0, 1, 2] (lv' := [(0, .ref (O 0 0)), (1, .int s), (2, .int i)]) rfl ?_
  have hA : okS (tA v) := hv.1
  have hB : okS (tB v) := hv.2.1
  have hv1 : sM (tA v) ≤ 8 := hA.1
  have hv2 : sS (tA v) ≤ 8 := hA.2
  have hv3 : sM (tB v) ≤ 8 := hB.1
  have hv4 : sS (tB v) ≤ 8 := hB.2
  have hv5 : tN v ≤ 3 := hv.2.2
  refine g_iload_n X 1 dX9_hasStreet_0 rfl ?_
  refine g_iconst (v := (nI 0)) X dX9_hasStreet_1 rfl ?_
  refine g_iconst (v := (nI 1)) X dX9_hasStreet_2 rfl ?_
  refine g_callSP (st2 := [.int (b2i (inR s (nI 0) (nI 1)))]) (ws' := [wTS E O, wTw E (O 3 0) (O 4) (O 5) (tR v) (tN v), wSv E (O 4) (tA v), wSv E (O 5) (tB v)].flatten) (wr := [wTS E O, wTw E (O 3 0) (O 4) (O 5) (tR v) (tN v), wSv E (O 4) (tA v), wSv E (O 5) (tB v)].flatten) X (c_X9_isWithin E s (nI 0) (nI 1)) cs_X9_140 rfl (List.Perm.refl _) rfl (List.Perm.refl _) rfl rfl (Nat.le_of_ble_eq_true rfl) dX9_hasStreet_3 rfl ?_
  refine g_bif_eq (tgt := 28) X dX9_hasStreet_6 (by decide) (fun c_6 => ?_) (fun c_6 => ?_)
  · obtain ⟨n0, n1⟩ := inR01f c_6
    refine g_iconst (v := (nI 0)) X dX9_hasStreet_28 rfl ?_
    exact g_zretv (r := (nI 0)) X hx rfl (by simp [hasS, b2i, n0, n1]; try rfl) (by rfl) dX9_hasStreet_29
  · rcases inR01 c_6 with rfl | rfl
    · refine g_aload_n X 0 dX9_hasStreet_9 rfl ?_
      refine g_getf (v := .ref (O 3 0)) X fs_X9_74 0 rfl rfl dX9_hasStreet_10 ?_
      refine g_iload_n X 1 dX9_hasStreet_13 rfl ?_
      refine g_callVr (st2 := [.ref ((O 4) 0)]) (q0 := 0) X (c_X6_surveyOf_0 E (O 3 0) (O 4) (O 5) v) cs_X9_92 rfl [1, 2, 3] [0] 4 rfl (by decide) rfl rfl rfl rfl rfl (Nat.le_of_ble_eq_true rfl) dX9_hasStreet_14 rfl ?_
      refine g_iload_n X 2 dX9_hasStreet_17 rfl ?_
      refine g_callVr (st2 := [.int (b2i (hasN (sS (tA v)) i))]) (q0 := 0) X (c_X4_hasStreet E (O 4) (tA v) i) cs_X9_275 rfl [2] [0, 1, 3] 4 rfl (by decide) rfl rfl rfl rfl rfl (Nat.le_of_ble_eq_true rfl) dX9_hasStreet_18 rfl ?_
      refine g_bif_eq (tgt := 28) X dX9_hasStreet_21 (by decide) (fun c_21 => ?_) (fun c_21 => ?_)
      · refine g_iconst (v := (nI 0)) X dX9_hasStreet_28 rfl ?_
        exact g_zretv (r := (nI 0)) X hx rfl (by simp [hasS, b2i, nI_eq, c_6, c_21]; try rfl) (by rfl) dX9_hasStreet_29
      · refine g_iconst (v := (nI 1)) X dX9_hasStreet_24 rfl ?_
        refine g_goto (tgt := 29) X dX9_hasStreet_25 (by decide) ?_
        exact g_zretv (r := (nI 1)) X hx rfl (by simp [hasS, b2i, nI_eq, c_6, c_21]; try rfl) (by rfl) dX9_hasStreet_29
    · refine g_aload_n X 0 dX9_hasStreet_9 rfl ?_
      refine g_getf (v := .ref (O 3 0)) X fs_X9_74 0 rfl rfl dX9_hasStreet_10 ?_
      refine g_iload_n X 1 dX9_hasStreet_13 rfl ?_
      refine g_callVr (st2 := [.ref ((O 5) 0)]) (q0 := 0) X (c_X6_surveyOf_1 E (O 3 0) (O 4) (O 5) v) cs_X9_92 rfl [1, 2, 3] [0] 4 rfl (by decide) rfl rfl rfl rfl rfl (Nat.le_of_ble_eq_true rfl) dX9_hasStreet_14 rfl ?_
      refine g_iload_n X 2 dX9_hasStreet_17 rfl ?_
      refine g_callVr (st2 := [.int (b2i (hasN (sS (tB v)) i))]) (q0 := 0) X (c_X4_hasStreet E (O 5) (tB v) i) cs_X9_275 rfl [3] [0, 1, 2] 4 rfl (by decide) rfl rfl rfl rfl rfl (Nat.le_of_ble_eq_true rfl) dX9_hasStreet_18 rfl ?_
      refine g_bif_eq (tgt := 28) X dX9_hasStreet_21 (by decide) (fun c_21 => ?_) (fun c_21 => ?_)
      · refine g_iconst (v := (nI 0)) X dX9_hasStreet_28 rfl ?_
        exact g_zretv (r := (nI 0)) X hx rfl (by simp [hasS, b2i, nI_eq, c_6, c_21]; try rfl) (by rfl) dX9_hasStreet_29
      · refine g_iconst (v := (nI 1)) X dX9_hasStreet_24 rfl ?_
        refine g_goto (tgt := 29) X dX9_hasStreet_25 (by decide) ?_
        exact g_zretv (r := (nI 1)) X hx rfl (by simp [hasS, b2i, nI_eq, c_6, c_21]; try rfl) (by rfl) dX9_hasStreet_29
set_option maxHeartbeats 4000000 in
set_option maxRecDepth 100000 in
theorem c_X9_write (E : GE) (O : Nat → Nat → Nat) (w : (Nat → Int32) × Nat) (x : Int32) (hw : w.2 ≤ 200) : CT E m_X9_write [.ref (O 0 0), .int x] ([wTS E O, wTx E (O 1) w].flatten) (some (.int (wrV w x))) ([wTS E O, wTx E (O 1) (if inR x (nI 32) (nI 126) then txAdd w x else w)].flatten) := by
  refine CT.intro (by decide +kernel) (Nat.le_of_ble_eq_true rfl) (fun Γ X hx => ?_)
  refine GG.lv [0, 1] (lv' := [(0, .ref (O 0 0)), (1, .int x)]) rfl ?_
  refine g_iload_n X 1 dX9_write_0 rfl ?_
  refine g_bipush (v := (nI 32)) X dX9_write_1 rfl ?_
  refine g_icmp_lt (tgt := 12) X dX9_write_3 (by decide) (fun c_3 => ?_) (fun c_3 => ?_)
  · refine g_iconst (v := (-1)) X dX9_write_12 rfl ?_
    exact g_iretv (r := (-1)) X hx rfl (by simp [wrV, txAdd, inR, c_3]) (by simp [txAdd, inR, c_3]) dX9_write_13
  · refine g_iload_n X 1 dX9_write_6 rfl ?_
    refine g_bipush (v := (nI 126)) X dX9_write_7 rfl ?_
    refine g_icmp_le (tgt := 14) X dX9_write_9 (by decide) (fun c_9 => ?_) (fun c_9 => ?_)
    · refine g_aload_n X 0 dX9_write_14 rfl ?_
      refine g_getf (v := .ref (O 1 0)) X fs_X9_10 0 rfl rfl dX9_write_15 ?_
      refine g_iload_n X 1 dX9_write_18 rfl ?_
      refine g_callV (st2 := [.int (b2i (decide (w.2 < 200)))]) (S' := [wTS E O, wTx E (O 1) (txAdd w x)]) (q0 := 0) X (c_X5_add E (O 1) w x (by first | assumption | omega)) cs_X9_77 rfl [1] [0] 2 rfl rfl (by decide) [wTS E O] rfl rfl rfl rfl (by simp only [List.map_cons, List.map_nil, fsTS, fsTx]) rfl rfl rfl rfl (Nat.le_of_ble_eq_true rfl) dX9_write_19 rfl ?_
      refine g_bif_eq (tgt := 35) X dX9_write_22 (by decide) (fun c_22 => ?_) (fun c_22 => ?_)
      · have e22 : ¬ w.2 < 200 := of_decide_eq_false c_22
        refine g_bipush (v := (-3)) X dX9_write_35 rfl ?_
        exact g_iretv (r := (-3)) X hx rfl (by simp [wrV, txAdd, inR, e22, c_3, c_9, c_22]) (by simp [txAdd, inR, e22, c_3, c_9, c_22]) dX9_write_37
      · have e22 : w.2 < 200 := of_decide_eq_true c_22
        refine g_aload_n X 0 dX9_write_25 rfl ?_
        refine g_getf (v := .ref (O 1 0)) X fs_X9_10 0 rfl rfl dX9_write_26 ?_
        refine g_callVr (st2 := [.int (nI ((txAdd w x).2))]) (q0 := 0) X (c_X5_length E (O 1) (txAdd w x)) cs_X9_81 rfl [1] [0] 2 rfl (by decide) rfl rfl rfl rfl rfl (Nat.le_of_ble_eq_true rfl) dX9_write_29 rfl ?_
        refine g_goto (tgt := 37) X dX9_write_32 (by decide) ?_
        exact g_iretv (r := (nI ((txAdd w x).2))) X hx rfl (by simp [wrV, txAdd, inR, e22, c_3, c_9, c_22]) (by simp [txAdd, inR, e22, c_3, c_9, c_22]) dX9_write_37
    · refine g_iconst (v := (-1)) X dX9_write_12 rfl ?_
      exact g_iretv (r := (-1)) X hx rfl (by simp [wrV, txAdd, inR, c_3, c_9]) (by simp [txAdd, inR, c_3, c_9]) dX9_write_13
set_option maxHeartbeats 4000000 in
set_option maxRecDepth 100000 in
theorem c_X9_wipe (E : GE) (O : Nat → Nat → Nat) (w : (Nat → Int32) × Nat) : CT E m_X9_wipe [.ref (O 0 0)] ([wTS E O, wTx E (O 1) w].flatten) (some (.int (nI w.2))) ([wTS E O, wTx E (O 1) (w.1, 0)].flatten) := by
  refine CT.intro (by decide +kernel) (Nat.le_of_ble_eq_true rfl) (fun Γ X hx => ?_)
  refine GG.lv [0] (lv' := [(0, .ref (O 0 0))]) rfl ?_
  refine g_aload_n X 0 dX9_wipe_0 rfl ?_
  refine g_getf (v := .ref (O 1 0)) X fs_X9_10 0 rfl rfl dX9_wipe_1 ?_
  refine g_callVr (st2 := [.int (nI w.2)]) (q0 := 0) X (c_X5_length E (O 1) w) cs_X9_81 rfl [1] [0] 2 rfl (by decide) rfl rfl rfl rfl rfl (Nat.le_of_ble_eq_true rfl) dX9_wipe_4 rfl ?_
  refine g_istore_n (lv' := [(1, .int (nI w.2)), (0, .ref (O 0 0))]) X dX9_wipe_7 (by decide) rfl ?_
  refine g_aload_n X 1 dX9_wipe_8 rfl ?_
  refine g_getf (v := .ref (O 1 0)) X fs_X9_10 0 rfl rfl dX9_wipe_9 ?_
  refine g_callV (st2 := []) (S' := [wTS E O, wTx E (O 1) (w.1, 0)]) (q0 := 0) X (c_X5_clear E (O 1) w) cs_X9_85 rfl [1] [0] 2 rfl rfl (by decide) [wTS E O] rfl rfl rfl rfl (by simp only [List.map_cons, List.map_nil, fsTS, fsTx]) rfl rfl rfl rfl (Nat.le_of_ble_eq_true rfl) dX9_wipe_12 rfl ?_
  refine g_iload_n X 0 dX9_wipe_15 rfl ?_
  exact g_iretv (r := (nI w.2)) X hx rfl (by rfl) (by rfl) dX9_wipe_16
set_option maxHeartbeats 4000000 in
set_option maxRecDepth 100000 in
theorem c_X9_fault (E : GE) (O : Nat → Nat → Nat) (u : (Nat → Int32) × Nat) (w : (Nat → Int32) × Nat) (dv : TV) (hw : w.2 ≤ 200) : CT E m_X9_fault [.ref (O 0 0)] ([wTS E O, wRd E (O 2) u, wTx E (O 1) w, wTw E (O 6 0) (O 7) (O 8) (tR dv) (tN dv), wSv E (O 7) (tA dv), wSv E (O 8) (tB dv)].flatten) (some (.int ((rdAll (txAt w) w.2 200 0 u.1 (tClear dv)).1))) ([wTS E O, wRd E (O 2) ((rdAll (txAt w) w.2 200 0 u.1 (tClear dv)).2.2.1, (rdAll (txAt w) w.2 200 0 u.1 (tClear dv)).2.1), wTx E (O 1) w, wTw E (O 6 0) (O 7) (O 8) (tR ((rdAll (txAt w) w.2 200 0 u.1 (tClear dv)).2.2.2)) (tN ((rdAll (txAt w) w.2 200 0 u.1 (tClear dv)).2.2.2)), wSv E (O 7) (tA ((rdAll (txAt w) w.2 200 0 u.1 (tClear dv)).2.2.2)), wSv E (O 8) (tB ((rdAll (txAt w) w.2 200 0 u.1 (tClear dv)).2.2.2))].flatten) := by
  refine CT.intro (by decide +kernel) (Nat.le_of_ble_eq_true rfl) (fun Γ X hx => ?_)
  refine GG.lv [0] (lv' := [(0, .ref (O 0 0))]) rfl ?_
  refine g_aload_n X 0 dX9_fault_0 rfl ?_
  refine g_getf (v := .ref (O 2 0)) X fs_X9_19 0 rfl rfl dX9_fault_1 ?_
  refine g_aload_n X 0 dX9_fault_4 rfl ?_
  refine g_getf (v := .ref (O 1 0)) X fs_X9_10 0 rfl rfl dX9_fault_5 ?_
  refine g_aload_n X 0 dX9_fault_8 rfl ?_
  refine g_getf (v := .ref (O 6 0)) X fs_X9_26 0 rfl rfl dX9_fault_9 ?_
  refine g_callV (st2 := [.int ((rdAll (txAt w) w.2 200 0 u.1 (tClear dv)).1)]) (S' := [wTS E O, wRd E (O 2) ((rdAll (txAt w) w.2 200 0 u.1 (tClear dv)).2.2.1, (rdAll (txAt w) w.2 200 0 u.1 (tClear dv)).2.1), wTx E (O 1) w, wTw E (O 6 0) (O 7) (O 8) (tR ((rdAll (txAt w) w.2 200 0 u.1 (tClear dv)).2.2.2)) (tN ((rdAll (txAt w) w.2 200 0 u.1 (tClear dv)).2.2.2)), wSv E (O 7) (tA ((rdAll (txAt w) w.2 200 0 u.1 (tClear dv)).2.2.2)), wSv E (O 8) (tB ((rdAll (txAt w) w.2 200 0 u.1 (tClear dv)).2.2.2))]) (q0 := 0) X (c_X2_read E (O 2) u (O 1) w (O 6 0) (O 7) (O 8) dv (by first | assumption | omega)) cs_X9_88 rfl [1, 2, 3, 4, 5] [0] 6 rfl rfl (by decide) [wTS E O] rfl rfl rfl rfl (by simp only [List.map_cons, List.map_nil, fsRd, fsSv, fsTS, fsTw, fsTx]) rfl rfl rfl rfl (Nat.le_of_ble_eq_true rfl) dX9_fault_12 rfl ?_
  exact g_iretv (r := ((rdAll (txAt w) w.2 200 0 u.1 (tClear dv)).1)) X hx rfl (by rfl) (by rfl) dX9_fault_15
set_option maxHeartbeats 4000000 in
set_option maxRecDepth 100000 in
theorem c_X9_lay (E : GE) (O : Nat → Nat → Nat) (u : (Nat → Int32) × Nat) (w : (Nat → Int32) × Nat) (v : TV) (dv : TV) (f : Nat → Int32) (oa : PO) (ok : PO) (hw : w.2 ≤ 200) : CT E m_X9_lay [.ref (O 0 0)] ([wTS E O, wRd E (O 2) u, wTx E (O 1) w, wTw E (O 3 0) (O 4) (O 5) (tR v) (tN v), wSv E (O 4) (tA v), wSv E (O 5) (tB v), wTw E (O 6 0) (O 7) (O 8) (tR dv) (tN dv), wSv E (O 7) (tA dv), wSv E (O 8) (tB dv), wSh E (O 11) f, wPo E (O 9) (O 17) 8 oa, wPo E (O 10) (O 18) 2 ok].flatten) (some (.int (if layOk (rdAll (txAt w) w.2 200 0 u.1 (tClear dv)) then nI (sM (tA (rdAll (txAt w) w.2 200 0 u.1 (tClear dv)).2.2.2) + sM (tB (rdAll (txAt w) w.2 200 0 u.1 (tClear dv)).2.2.2)) else -2))) ([wTS E O, wRd E (O 2) ((rdAll (txAt w) w.2 200 0 u.1 (tClear dv)).2.2.1, (rdAll (txAt w) w.2 200 0 u.1 (tClear dv)).2.1), wTx E (O 1) w, wTw E (O 3 0) (O 4) (O 5) (tR (if layOk (rdAll (txAt w) w.2 200 0 u.1 (tClear dv)) then tCopy (rdAll (txAt w) w.2 200 0 u.1 (tClear dv)).2.2.2 v else v)) (tN (if layOk (rdAll (txAt w) w.2 200 0 u.1 (tClear dv)) then tCopy (rdAll (txAt w) w.2 200 0 u.1 (tClear dv)).2.2.2 v else v)), wSv E (O 4) (tA (if layOk (rdAll (txAt w) w.2 200 0 u.1 (tClear dv)) then tCopy (rdAll (txAt w) w.2 200 0 u.1 (tClear dv)).2.2.2 v else v)), wSv E (O 5) (tB (if layOk (rdAll (txAt w) w.2 200 0 u.1 (tClear dv)) then tCopy (rdAll (txAt w) w.2 200 0 u.1 (tClear dv)).2.2.2 v else v)), wTw E (O 6 0) (O 7) (O 8) (tR ((rdAll (txAt w) w.2 200 0 u.1 (tClear dv)).2.2.2)) (tN ((rdAll (txAt w) w.2 200 0 u.1 (tClear dv)).2.2.2)), wSv E (O 7) (tA ((rdAll (txAt w) w.2 200 0 u.1 (tClear dv)).2.2.2)), wSv E (O 8) (tB ((rdAll (txAt w) w.2 200 0 u.1 (tClear dv)).2.2.2)), wSh E (O 11) (if layOk (rdAll (txAt w) w.2 200 0 u.1 (tClear dv)) then clrF f 12 else f), wPo E (O 9) (O 17) 8 (if layOk (rdAll (txAt w) w.2 200 0 u.1 (tClear dv)) then (oa.1, 0) else oa), wPo E (O 10) (O 18) 2 (if layOk (rdAll (txAt w) w.2 200 0 u.1 (tClear dv)) then (ok.1, 0) else ok)].flatten) := by
  refine CT.intro (by decide +kernel) (Nat.le_of_ble_eq_true rfl) (fun Γ X hx => ?_)
  refine GG.lv [0] (lv' := [(0, .ref (O 0 0))]) rfl ?_
  have hD : okT (rdAll (txAt w) w.2 200 0 u.1 (tClear dv)).2.2.2 := okT_all _ _ _ _ _ _ (okT_clear dv)
  have hd1 := hD.1.1
  have hd2 := hD.2.1.1
  refine g_aload_n X 0 dX9_lay_0 rfl ?_
  refine g_getf (v := .ref (O 2 0)) X fs_X9_19 0 rfl rfl dX9_lay_1 ?_
  refine g_aload_n X 0 dX9_lay_4 rfl ?_
  refine g_getf (v := .ref (O 1 0)) X fs_X9_10 0 rfl rfl dX9_lay_5 ?_
  refine g_aload_n X 0 dX9_lay_8 rfl ?_
  refine g_getf (v := .ref (O 6 0)) X fs_X9_26 0 rfl rfl dX9_lay_9 ?_
  refine g_callV (st2 := [.int ((rdAll (txAt w) w.2 200 0 u.1 (tClear dv)).1)]) (S' := [wTS E O, wRd E (O 2) ((rdAll (txAt w) w.2 200 0 u.1 (tClear dv)).2.2.1, (rdAll (txAt w) w.2 200 0 u.1 (tClear dv)).2.1), wTx E (O 1) w, wTw E (O 3 0) (O 4) (O 5) (tR v) (tN v), wSv E (O 4) (tA v), wSv E (O 5) (tB v), wTw E (O 6 0) (O 7) (O 8) (tR ((rdAll (txAt w) w.2 200 0 u.1 (tClear dv)).2.2.2)) (tN ((rdAll (txAt w) w.2 200 0 u.1 (tClear dv)).2.2.2)), wSv E (O 7) (tA ((rdAll (txAt w) w.2 200 0 u.1 (tClear dv)).2.2.2)), wSv E (O 8) (tB ((rdAll (txAt w) w.2 200 0 u.1 (tClear dv)).2.2.2)), wSh E (O 11) f, wPo E (O 9) (O 17) 8 oa, wPo E (O 10) (O 18) 2 ok]) (q0 := 0) X (c_X2_read E (O 2) u (O 1) w (O 6 0) (O 7) (O 8) dv (by first | assumption | omega)) cs_X9_88 rfl [1, 2, 6, 7, 8] [0, 3, 4, 5, 9, 10, 11] 12 rfl rfl (by decide) [wTS E O, wTw E (O 3 0) (O 4) (O 5) (tR v) (tN v), wSv E (O 4) (tA v), wSv E (O 5) (tB v), wSh E (O 11) f, wPo E (O 9) (O 17) 8 oa, wPo E (O 10) (O 18) 2 ok] rfl rfl rfl rfl (by simp only [List.map_cons, List.map_nil, fsPo, fsRd, fsSh, fsSv, fsTS, fsTw, fsTx]) rfl rfl rfl rfl (Nat.le_of_ble_eq_true rfl) dX9_lay_12 rfl ?_
  refine g_bipush (v := (-4)) X dX9_lay_15 rfl ?_
  refine g_icmp_eq (tgt := 23) X dX9_lay_17 (by decide) (fun c_17 => ?_) (fun c_17 => ?_)
  · refine g_aload_n X 0 dX9_lay_23 rfl ?_
    refine g_getf (v := .ref (O 6 0)) X fs_X9_26 0 rfl rfl dX9_lay_24 ?_
    refine g_iconst (v := (nI 0)) X dX9_lay_27 rfl ?_
    refine g_callVr (st2 := [.ref ((O 7) 0)]) (q0 := 0) X (c_X6_surveyOf_0 E (O 6 0) (O 7) (O 8) ((rdAll (txAt w) w.2 200 0 u.1 (tClear dv)).2.2.2)) cs_X9_92 rfl [6, 7, 8] [0, 1, 2, 3, 4, 5, 9, 10, 11] 12 rfl (by decide) rfl rfl rfl rfl rfl (Nat.le_of_ble_eq_true rfl) dX9_lay_28 rfl ?_
    refine g_callVr (st2 := [.int (nI (sM (tA ((rdAll (txAt w) w.2 200 0 u.1 (tClear dv)).2.2.2))))]) (q0 := 0) X (c_X4_meetings E (O 7) (tA ((rdAll (txAt w) w.2 200 0 u.1 (tClear dv)).2.2.2))) cs_X9_96 rfl [7] [0, 1, 2, 3, 4, 5, 6, 8, 9, 10, 11] 12 rfl (by decide) rfl rfl rfl rfl rfl (Nat.le_of_ble_eq_true rfl) dX9_lay_31 rfl ?_
    refine g_istore_n (lv' := [(1, .int (nI (sM (tA ((rdAll (txAt w) w.2 200 0 u.1 (tClear dv)).2.2.2))))), (0, .ref (O 0 0))]) X dX9_lay_34 (by decide) rfl ?_
    refine g_aload_n X 1 dX9_lay_35 rfl ?_
    refine g_getf (v := .ref (O 6 0)) X fs_X9_26 0 rfl rfl dX9_lay_36 ?_
    refine g_iconst (v := (nI 1)) X dX9_lay_39 rfl ?_
    refine g_callVr (st2 := [.ref ((O 8) 0)]) (q0 := 0) X (c_X6_surveyOf_1 E (O 6 0) (O 7) (O 8) ((rdAll (txAt w) w.2 200 0 u.1 (tClear dv)).2.2.2)) cs_X9_92 rfl [6, 7, 8] [0, 1, 2, 3, 4, 5, 9, 10, 11] 12 rfl (by decide) rfl rfl rfl rfl rfl (Nat.le_of_ble_eq_true rfl) dX9_lay_40 rfl ?_
    refine g_callVr (st2 := [.int (nI (sM (tB ((rdAll (txAt w) w.2 200 0 u.1 (tClear dv)).2.2.2))))]) (q0 := 0) X (c_X4_meetings E (O 8) (tB ((rdAll (txAt w) w.2 200 0 u.1 (tClear dv)).2.2.2))) cs_X9_96 rfl [8] [0, 1, 2, 3, 4, 5, 6, 7, 9, 10, 11] 12 rfl (by decide) rfl rfl rfl rfl rfl (Nat.le_of_ble_eq_true rfl) dX9_lay_43 rfl ?_
    refine g_istore_n (lv' := [(2, .int (nI (sM (tB ((rdAll (txAt w) w.2 200 0 u.1 (tClear dv)).2.2.2))))), (1, .int (nI (sM (tA ((rdAll (txAt w) w.2 200 0 u.1 (tClear dv)).2.2.2))))), (0, .ref (O 0 0))]) X dX9_lay_46 (by decide) rfl ?_
    refine g_iload_n X 1 dX9_lay_47 rfl ?_
    refine g_if_eq (tgt := 55) X dX9_lay_48 (by decide) (fun c_48 => ?_) (fun c_48 => ?_)
    · have f_c_48 : sM (tA ((rdAll (txAt w) w.2 200 0 u.1 (tClear dv)).2.2.2)) = 0 := n_eq (by omega) (by omega) c_48
      refine g_bipush (v := (-2)) X dX9_lay_55 rfl ?_
      exact g_iretv (r := (-2)) X hx rfl (by rw [if_neg (show ¬ layOk (rdAll (txAt w) w.2 200 0 u.1 (tClear dv)) = true by simp only [layOk, c_17, c_48, f_c_48, decide_true, decide_false, not_true_eq_false, not_false_eq_true, Bool.true_and, Bool.false_and, Bool.and_true, Bool.and_false, Bool.true_or, Bool.false_or, Bool.or_true, Bool.or_false, and_true, true_and, and_false, false_and, or_true, true_or, or_false, false_or, if_true, if_false, Bool.false_eq_true, decide_eq_true_eq])]) (by simp only [show layOk (rdAll (txAt w) w.2 200 0 u.1 (tClear dv)) = false by simp only [layOk, c_17, c_48, f_c_48, decide_true, decide_false, not_true_eq_false, not_false_eq_true, Bool.true_and, Bool.false_and, Bool.and_true, Bool.and_false, Bool.true_or, Bool.false_or, Bool.or_true, Bool.or_false, and_true, true_and, and_false, false_and, or_true, true_or, or_false, false_or, if_true, if_false, Bool.false_eq_true, decide_eq_true_eq], decide_true, decide_false, not_true_eq_false, not_false_eq_true, Bool.true_and, Bool.false_and, Bool.and_true, Bool.and_false, Bool.true_or, Bool.false_or, Bool.or_true, Bool.or_false, and_true, true_and, and_false, false_and, or_true, true_or, or_false, false_or, if_true, if_false, Bool.false_eq_true, decide_eq_true_eq]) dX9_lay_57
    · have f_c_48 : ¬ sM (tA ((rdAll (txAt w) w.2 200 0 u.1 (tClear dv)).2.2.2)) = 0 := n_ne (by omega) (by omega) c_48
      refine g_iload_n X 0 dX9_lay_51 rfl ?_
      refine g_if_ne (tgt := 58) X dX9_lay_52 (by decide) (fun c_52 => ?_) (fun c_52 => ?_)
      · have f_c_52 : ¬ sM (tB ((rdAll (txAt w) w.2 200 0 u.1 (tClear dv)).2.2.2)) = 0 := n_ne (by omega) (by omega) c_52
        refine g_aload_n X 2 dX9_lay_58 rfl ?_
        refine g_getf (v := .ref (O 3 0)) X fs_X9_74 0 rfl rfl dX9_lay_59 ?_
        refine g_aload_n X 2 dX9_lay_62 rfl ?_
        refine g_getf (v := .ref (O 6 0)) X fs_X9_26 0 rfl rfl dX9_lay_63 ?_
        refine g_callV (st2 := []) (S' := [wTS E O, wRd E (O 2) ((rdAll (txAt w) w.2 200 0 u.1 (tClear dv)).2.2.1, (rdAll (txAt w) w.2 200 0 u.1 (tClear dv)).2.1), wTx E (O 1) w, wTw E (O 3 0) (O 4) (O 5) (tR (tCopy ((rdAll (txAt w) w.2 200 0 u.1 (tClear dv)).2.2.2) v)) (tN (tCopy ((rdAll (txAt w) w.2 200 0 u.1 (tClear dv)).2.2.2) v)), wSv E (O 4) (tA (tCopy ((rdAll (txAt w) w.2 200 0 u.1 (tClear dv)).2.2.2) v)), wSv E (O 5) (tB (tCopy ((rdAll (txAt w) w.2 200 0 u.1 (tClear dv)).2.2.2) v)), wTw E (O 6 0) (O 7) (O 8) (tR ((rdAll (txAt w) w.2 200 0 u.1 (tClear dv)).2.2.2)) (tN ((rdAll (txAt w) w.2 200 0 u.1 (tClear dv)).2.2.2)), wSv E (O 7) (tA ((rdAll (txAt w) w.2 200 0 u.1 (tClear dv)).2.2.2)), wSv E (O 8) (tB ((rdAll (txAt w) w.2 200 0 u.1 (tClear dv)).2.2.2)), wSh E (O 11) f, wPo E (O 9) (O 17) 8 oa, wPo E (O 10) (O 18) 2 ok]) (q0 := 0) X (c_X6_copy E (O 3 0) (O 4) (O 5) (O 6 0) (O 7) (O 8) v ((rdAll (txAt w) w.2 200 0 u.1 (tClear dv)).2.2.2)) cs_X9_101 rfl [3, 4, 5, 6, 7, 8] [0, 1, 2, 9, 10, 11] 12 rfl rfl (by decide) [wTS E O, wRd E (O 2) ((rdAll (txAt w) w.2 200 0 u.1 (tClear dv)).2.2.1, (rdAll (txAt w) w.2 200 0 u.1 (tClear dv)).2.1), wTx E (O 1) w, wSh E (O 11) f, wPo E (O 9) (O 17) 8 oa, wPo E (O 10) (O 18) 2 ok] rfl rfl rfl rfl (by simp only [List.map_cons, List.map_nil, fsPo, fsRd, fsSh, fsSv, fsTS, fsTw, fsTx]) rfl rfl rfl rfl (Nat.le_of_ble_eq_true rfl) dX9_lay_66 rfl ?_
        refine g_aload_n X 2 dX9_lay_69 rfl ?_
        refine g_getf (v := .ref (O 11 0)) X fs_X9_45 0 rfl rfl dX9_lay_70 ?_
        refine g_callV (st2 := []) (S' := [wTS E O, wRd E (O 2) ((rdAll (txAt w) w.2 200 0 u.1 (tClear dv)).2.2.1, (rdAll (txAt w) w.2 200 0 u.1 (tClear dv)).2.1), wTx E (O 1) w, wTw E (O 3 0) (O 4) (O 5) (tR (tCopy ((rdAll (txAt w) w.2 200 0 u.1 (tClear dv)).2.2.2) v)) (tN (tCopy ((rdAll (txAt w) w.2 200 0 u.1 (tClear dv)).2.2.2) v)), wSv E (O 4) (tA (tCopy ((rdAll (txAt w) w.2 200 0 u.1 (tClear dv)).2.2.2) v)), wSv E (O 5) (tB (tCopy ((rdAll (txAt w) w.2 200 0 u.1 (tClear dv)).2.2.2) v)), wTw E (O 6 0) (O 7) (O 8) (tR ((rdAll (txAt w) w.2 200 0 u.1 (tClear dv)).2.2.2)) (tN ((rdAll (txAt w) w.2 200 0 u.1 (tClear dv)).2.2.2)), wSv E (O 7) (tA ((rdAll (txAt w) w.2 200 0 u.1 (tClear dv)).2.2.2)), wSv E (O 8) (tB ((rdAll (txAt w) w.2 200 0 u.1 (tClear dv)).2.2.2)), wSh E (O 11) (clrF f 12), wPo E (O 9) (O 17) 8 oa, wPo E (O 10) (O 18) 2 ok]) (q0 := 0) X (c_X3_clear E (O 11) f) cs_X9_105 rfl [9] [0, 1, 2, 3, 4, 5, 6, 7, 8, 10, 11] 12 rfl rfl (by decide) [wTS E O, wRd E (O 2) ((rdAll (txAt w) w.2 200 0 u.1 (tClear dv)).2.2.1, (rdAll (txAt w) w.2 200 0 u.1 (tClear dv)).2.1), wTx E (O 1) w, wTw E (O 3 0) (O 4) (O 5) (tR (tCopy ((rdAll (txAt w) w.2 200 0 u.1 (tClear dv)).2.2.2) v)) (tN (tCopy ((rdAll (txAt w) w.2 200 0 u.1 (tClear dv)).2.2.2) v)), wSv E (O 4) (tA (tCopy ((rdAll (txAt w) w.2 200 0 u.1 (tClear dv)).2.2.2) v)), wSv E (O 5) (tB (tCopy ((rdAll (txAt w) w.2 200 0 u.1 (tClear dv)).2.2.2) v)), wTw E (O 6 0) (O 7) (O 8) (tR ((rdAll (txAt w) w.2 200 0 u.1 (tClear dv)).2.2.2)) (tN ((rdAll (txAt w) w.2 200 0 u.1 (tClear dv)).2.2.2)), wSv E (O 7) (tA ((rdAll (txAt w) w.2 200 0 u.1 (tClear dv)).2.2.2)), wSv E (O 8) (tB ((rdAll (txAt w) w.2 200 0 u.1 (tClear dv)).2.2.2)), wPo E (O 9) (O 17) 8 oa, wPo E (O 10) (O 18) 2 ok] rfl rfl rfl rfl (by simp only [List.map_cons, List.map_nil, fsPo, fsRd, fsSh, fsSv, fsTS, fsTw, fsTx]) rfl rfl rfl rfl (Nat.le_of_ble_eq_true rfl) dX9_lay_73 rfl ?_
        refine g_aload_n X 2 dX9_lay_76 rfl ?_
        refine g_getf (v := .ref (O 9 0)) X fs_X9_35 0 rfl rfl dX9_lay_77 ?_
        refine g_callV (st2 := []) (S' := [wTS E O, wRd E (O 2) ((rdAll (txAt w) w.2 200 0 u.1 (tClear dv)).2.2.1, (rdAll (txAt w) w.2 200 0 u.1 (tClear dv)).2.1), wTx E (O 1) w, wTw E (O 3 0) (O 4) (O 5) (tR (tCopy ((rdAll (txAt w) w.2 200 0 u.1 (tClear dv)).2.2.2) v)) (tN (tCopy ((rdAll (txAt w) w.2 200 0 u.1 (tClear dv)).2.2.2) v)), wSv E (O 4) (tA (tCopy ((rdAll (txAt w) w.2 200 0 u.1 (tClear dv)).2.2.2) v)), wSv E (O 5) (tB (tCopy ((rdAll (txAt w) w.2 200 0 u.1 (tClear dv)).2.2.2) v)), wTw E (O 6 0) (O 7) (O 8) (tR ((rdAll (txAt w) w.2 200 0 u.1 (tClear dv)).2.2.2)) (tN ((rdAll (txAt w) w.2 200 0 u.1 (tClear dv)).2.2.2)), wSv E (O 7) (tA ((rdAll (txAt w) w.2 200 0 u.1 (tClear dv)).2.2.2)), wSv E (O 8) (tB ((rdAll (txAt w) w.2 200 0 u.1 (tClear dv)).2.2.2)), wSh E (O 11) (clrF f 12), wPo E (O 9) (O 17) 8 (oa.1, 0), wPo E (O 10) (O 18) 2 ok]) (q0 := 0) X (c_X1_clear E (O 9) (O 17) 8 oa) cs_X9_106 rfl [10] [0, 1, 2, 3, 4, 5, 6, 7, 8, 9, 11] 12 rfl rfl (by decide) [wTS E O, wRd E (O 2) ((rdAll (txAt w) w.2 200 0 u.1 (tClear dv)).2.2.1, (rdAll (txAt w) w.2 200 0 u.1 (tClear dv)).2.1), wTx E (O 1) w, wTw E (O 3 0) (O 4) (O 5) (tR (tCopy ((rdAll (txAt w) w.2 200 0 u.1 (tClear dv)).2.2.2) v)) (tN (tCopy ((rdAll (txAt w) w.2 200 0 u.1 (tClear dv)).2.2.2) v)), wSv E (O 4) (tA (tCopy ((rdAll (txAt w) w.2 200 0 u.1 (tClear dv)).2.2.2) v)), wSv E (O 5) (tB (tCopy ((rdAll (txAt w) w.2 200 0 u.1 (tClear dv)).2.2.2) v)), wTw E (O 6 0) (O 7) (O 8) (tR ((rdAll (txAt w) w.2 200 0 u.1 (tClear dv)).2.2.2)) (tN ((rdAll (txAt w) w.2 200 0 u.1 (tClear dv)).2.2.2)), wSv E (O 7) (tA ((rdAll (txAt w) w.2 200 0 u.1 (tClear dv)).2.2.2)), wSv E (O 8) (tB ((rdAll (txAt w) w.2 200 0 u.1 (tClear dv)).2.2.2)), wSh E (O 11) (clrF f 12), wPo E (O 10) (O 18) 2 ok] rfl rfl rfl rfl (by simp only [List.map_cons, List.map_nil, fsPo, fsRd, fsSh, fsSv, fsTS, fsTw, fsTx]) rfl rfl rfl rfl (Nat.le_of_ble_eq_true rfl) dX9_lay_80 rfl ?_
        refine g_aload_n X 2 dX9_lay_83 rfl ?_
        refine g_getf (v := .ref (O 10 0)) X fs_X9_39 0 rfl rfl dX9_lay_84 ?_
        refine g_callV (st2 := []) (S' := [wTS E O, wRd E (O 2) ((rdAll (txAt w) w.2 200 0 u.1 (tClear dv)).2.2.1, (rdAll (txAt w) w.2 200 0 u.1 (tClear dv)).2.1), wTx E (O 1) w, wTw E (O 3 0) (O 4) (O 5) (tR (tCopy ((rdAll (txAt w) w.2 200 0 u.1 (tClear dv)).2.2.2) v)) (tN (tCopy ((rdAll (txAt w) w.2 200 0 u.1 (tClear dv)).2.2.2) v)), wSv E (O 4) (tA (tCopy ((rdAll (txAt w) w.2 200 0 u.1 (tClear dv)).2.2.2) v)), wSv E (O 5) (tB (tCopy ((rdAll (txAt w) w.2 200 0 u.1 (tClear dv)).2.2.2) v)), wTw E (O 6 0) (O 7) (O 8) (tR ((rdAll (txAt w) w.2 200 0 u.1 (tClear dv)).2.2.2)) (tN ((rdAll (txAt w) w.2 200 0 u.1 (tClear dv)).2.2.2)), wSv E (O 7) (tA ((rdAll (txAt w) w.2 200 0 u.1 (tClear dv)).2.2.2)), wSv E (O 8) (tB ((rdAll (txAt w) w.2 200 0 u.1 (tClear dv)).2.2.2)), wSh E (O 11) (clrF f 12), wPo E (O 9) (O 17) 8 (oa.1, 0), wPo E (O 10) (O 18) 2 (ok.1, 0)]) (q0 := 0) X (c_X1_clear E (O 10) (O 18) 2 ok) cs_X9_106 rfl [11] [0, 1, 2, 3, 4, 5, 6, 7, 8, 9, 10] 12 rfl rfl (by decide) [wTS E O, wRd E (O 2) ((rdAll (txAt w) w.2 200 0 u.1 (tClear dv)).2.2.1, (rdAll (txAt w) w.2 200 0 u.1 (tClear dv)).2.1), wTx E (O 1) w, wTw E (O 3 0) (O 4) (O 5) (tR (tCopy ((rdAll (txAt w) w.2 200 0 u.1 (tClear dv)).2.2.2) v)) (tN (tCopy ((rdAll (txAt w) w.2 200 0 u.1 (tClear dv)).2.2.2) v)), wSv E (O 4) (tA (tCopy ((rdAll (txAt w) w.2 200 0 u.1 (tClear dv)).2.2.2) v)), wSv E (O 5) (tB (tCopy ((rdAll (txAt w) w.2 200 0 u.1 (tClear dv)).2.2.2) v)), wTw E (O 6 0) (O 7) (O 8) (tR ((rdAll (txAt w) w.2 200 0 u.1 (tClear dv)).2.2.2)) (tN ((rdAll (txAt w) w.2 200 0 u.1 (tClear dv)).2.2.2)), wSv E (O 7) (tA ((rdAll (txAt w) w.2 200 0 u.1 (tClear dv)).2.2.2)), wSv E (O 8) (tB ((rdAll (txAt w) w.2 200 0 u.1 (tClear dv)).2.2.2)), wSh E (O 11) (clrF f 12), wPo E (O 9) (O 17) 8 (oa.1, 0)] rfl rfl rfl rfl (by simp only [List.map_cons, List.map_nil, fsPo, fsRd, fsSh, fsSv, fsTS, fsTw, fsTx]) rfl rfl rfl rfl (Nat.le_of_ble_eq_true rfl) dX9_lay_87 rfl ?_
        refine g_iload_n X 1 dX9_lay_90 rfl ?_
        refine g_iload_n X 0 dX9_lay_91 rfl ?_
        refine g_iaddN X dX9_lay_92 ?_
        exact g_iretv (r := (nI ((sM (tA ((rdAll (txAt w) w.2 200 0 u.1 (tClear dv)).2.2.2))) + (sM (tB ((rdAll (txAt w) w.2 200 0 u.1 (tClear dv)).2.2.2)))))) X hx rfl (by rw [if_pos (show layOk (rdAll (txAt w) w.2 200 0 u.1 (tClear dv)) = true by simp only [layOk, c_17, c_48, f_c_48, c_52, f_c_52, decide_true, decide_false, not_true_eq_false, not_false_eq_true, Bool.true_and, Bool.false_and, Bool.and_true, Bool.and_false, Bool.true_or, Bool.false_or, Bool.or_true, Bool.or_false, and_true, true_and, and_false, false_and, or_true, true_or, or_false, false_or, if_true, if_false, Bool.false_eq_true, decide_eq_true_eq])]) (by simp only [show layOk (rdAll (txAt w) w.2 200 0 u.1 (tClear dv)) = true by simp only [layOk, c_17, c_48, f_c_48, c_52, f_c_52, decide_true, decide_false, not_true_eq_false, not_false_eq_true, Bool.true_and, Bool.false_and, Bool.and_true, Bool.and_false, Bool.true_or, Bool.false_or, Bool.or_true, Bool.or_false, and_true, true_and, and_false, false_and, or_true, true_or, or_false, false_or, if_true, if_false, Bool.false_eq_true, decide_eq_true_eq], if_true]) dX9_lay_93
      · have f_c_52 : sM (tB ((rdAll (txAt w) w.2 200 0 u.1 (tClear dv)).2.2.2)) = 0 := n_eq (by omega) (by omega) c_52
        refine g_bipush (v := (-2)) X dX9_lay_55 rfl ?_
        exact g_iretv (r := (-2)) X hx rfl (by rw [if_neg (show ¬ layOk (rdAll (txAt w) w.2 200 0 u.1 (tClear dv)) = true by simp only [layOk, c_17, c_48, f_c_48, c_52, f_c_52, decide_true, decide_false, not_true_eq_false, not_false_eq_true, Bool.true_and, Bool.false_and, Bool.and_true, Bool.and_false, Bool.true_or, Bool.false_or, Bool.or_true, Bool.or_false, and_true, true_and, and_false, false_and, or_true, true_or, or_false, false_or, if_true, if_false, Bool.false_eq_true, decide_eq_true_eq])]) (by simp only [show layOk (rdAll (txAt w) w.2 200 0 u.1 (tClear dv)) = false by simp only [layOk, c_17, c_48, f_c_48, c_52, f_c_52, decide_true, decide_false, not_true_eq_false, not_false_eq_true, Bool.true_and, Bool.false_and, Bool.and_true, Bool.and_false, Bool.true_or, Bool.false_or, Bool.or_true, Bool.or_false, and_true, true_and, and_false, false_and, or_true, true_or, or_false, false_or, if_true, if_false, Bool.false_eq_true, decide_eq_true_eq], decide_true, decide_false, not_true_eq_false, not_false_eq_true, Bool.true_and, Bool.false_and, Bool.and_true, Bool.and_false, Bool.true_or, Bool.false_or, Bool.or_true, Bool.or_false, and_true, true_and, and_false, false_and, or_true, true_or, or_false, false_or, if_true, if_false, Bool.false_eq_true, decide_eq_true_eq]) dX9_lay_57
  · refine g_bipush (v := (-2)) X dX9_lay_20 rfl ?_
    exact g_iretv (r := (-2)) X hx rfl (by rw [if_neg (show ¬ layOk (rdAll (txAt w) w.2 200 0 u.1 (tClear dv)) = true by simp only [layOk, c_17, decide_true, decide_false, not_true_eq_false, not_false_eq_true, Bool.true_and, Bool.false_and, Bool.and_true, Bool.and_false, Bool.true_or, Bool.false_or, Bool.or_true, Bool.or_false, and_true, true_and, and_false, false_and, or_true, true_or, or_false, false_or, if_true, if_false, Bool.false_eq_true, decide_eq_true_eq])]) (by simp only [show layOk (rdAll (txAt w) w.2 200 0 u.1 (tClear dv)) = false by simp only [layOk, c_17, decide_true, decide_false, not_true_eq_false, not_false_eq_true, Bool.true_and, Bool.false_and, Bool.and_true, Bool.and_false, Bool.true_or, Bool.false_or, Bool.or_true, Bool.or_false, and_true, true_and, and_false, false_and, or_true, true_or, or_false, false_or, if_true, if_false, Bool.false_eq_true, decide_eq_true_eq], decide_true, decide_false, not_true_eq_false, not_false_eq_true, Bool.true_and, Bool.false_and, Bool.and_true, Bool.and_false, Bool.true_or, Bool.false_or, Bool.or_true, Bool.or_false, and_true, true_and, and_false, false_and, or_true, true_or, or_false, false_or, if_true, if_false, Bool.false_eq_true, decide_eq_true_eq]) dX9_lay_22
set_option maxHeartbeats 4000000 in
set_option maxRecDepth 100000 in
theorem c_X9_meeting (E : GE) (O : Nat → Nat → Nat) (v : TV) (s : Int32) (i : Int32) (q : Int32) (hv : okT v) : CT E m_X9_meeting [.ref (O 0 0), .int s, .int i, .int q] ([wTS E O, wTw E (O 3 0) (O 4) (O 5) (tR v) (tN v), wSv E (O 4) (tA v), wSv E (O 5) (tB v)].flatten) (some (.int (meetV v s i q))) ([wTS E O, wTw E (O 3 0) (O 4) (O 5) (tR v) (tN v), wSv E (O 4) (tA v), wSv E (O 5) (tB v)].flatten) := by
  refine CT.intro (by decide +kernel) (Nat.le_of_ble_eq_true rfl) (fun Γ X hx => ?_)
  refine GG.lv [0, 1, 2, 3] (lv' := [(0, .ref (O 0 0)), (1, .int s), (2, .int i), (3, .int q)]) rfl ?_
  have hA : okS (tA v) := hv.1
  have hB : okS (tB v) := hv.2.1
  have hv1 : sM (tA v) ≤ 8 := hA.1
  have hv2 : sS (tA v) ≤ 8 := hA.2
  have hv3 : sM (tB v) ≤ 8 := hB.1
  have hv4 : sS (tB v) ≤ 8 := hB.2
  have hv5 : tN v ≤ 3 := hv.2.2
  refine g_aload_n X 0 dX9_meeting_0 rfl ?_
  refine g_iload_n X 1 dX9_meeting_1 rfl ?_
  refine g_iload_n X 2 dX9_meeting_2 rfl ?_
  refine g_callVr (st2 := [.int (b2i (hasM v s i))]) (q0 := 0) X (c_X9_hasMeeting E O v s i (by first | assumption | omega)) cs_X9_107 rfl [0, 1, 2, 3] [] 4 rfl (by decide) rfl rfl rfl rfl rfl (Nat.le_of_ble_eq_true rfl) dX9_meeting_3 rfl ?_
  refine g_bif_ne (tgt := 11) X dX9_meeting_6 (by decide) (fun c_6 => ?_) (fun c_6 => ?_)
  · rcases hasM_or hv c_6 with ⟨rfl, j, hj, rfl⟩ | ⟨rfl, j, hj, rfl⟩
    · refine g_aload_n X 0 dX9_meeting_11 rfl ?_
      refine g_getf (v := .ref (O 3 0)) X fs_X9_74 0 rfl rfl dX9_meeting_12 ?_
      refine g_iload_n X 1 dX9_meeting_15 rfl ?_
      refine g_callVr (st2 := [.ref ((O 4) 0)]) (q0 := 0) X (c_X6_surveyOf_0 E (O 3 0) (O 4) (O 5) v) cs_X9_92 rfl [1, 2, 3] [0] 4 rfl (by decide) rfl rfl rfl rfl rfl (Nat.le_of_ble_eq_true rfl) dX9_meeting_16 rfl ?_
      refine g_astore (lv' := [(4, .ref ((O 4) 0)), (0, .ref (O 0 0)), (1, .int (nI 0)), (2, .int (nI j)), (3, .int q)]) X dX9_meeting_19 (by decide) rfl ?_
      refine g_iload_n X 4 dX9_meeting_21 rfl ?_
      by_cases w_22_0 : q = nI 0
      · subst w_22_0
        refine g_tsIn (tgt := 56) X 0 dX9_meeting_22 rfl (by decide) (by decide) rfl (by decide) ?_
        refine g_aload X 0 dX9_meeting_56 rfl ?_
        refine g_iload_n X 3 dX9_meeting_58 rfl ?_
        refine g_callVr (st2 := [.int (sKd (tA v) j)]) (q0 := 0) X (c_X4_kindOf E (O 4) (tA v) j (by first | assumption | omega) (by first | assumption | omega)) cs_X9_111 rfl [2] [0, 1, 3] 4 rfl (by decide) rfl rfl rfl rfl rfl (Nat.le_of_ble_eq_true rfl) dX9_meeting_59 rfl ?_
        exact g_iretv (r := (sKd (tA v) j)) X hx rfl (by simp [meetV, svOf_0, svOf_1, tPut_0, tPut_1, nI_clamp (show j < 2 ^ 31 by omega), nI_eq, c_6]) (by rfl) dX9_meeting_62
      by_cases w_22_1 : q = nI 1
      · subst w_22_1
        refine g_tsIn (tgt := 63) X 1 dX9_meeting_22 rfl (by decide) (by decide) rfl (by decide) ?_
        refine g_aload X 0 dX9_meeting_63 rfl ?_
        refine g_iload_n X 3 dX9_meeting_65 rfl ?_
        refine g_callVr (st2 := [.int (sX (tA v) j)]) (q0 := 0) X (c_X4_xOf E (O 4) (tA v) j (by first | assumption | omega) (by first | assumption | omega)) cs_X9_115 rfl [2] [0, 1, 3] 4 rfl (by decide) rfl rfl rfl rfl rfl (Nat.le_of_ble_eq_true rfl) dX9_meeting_66 rfl ?_
        exact g_iretv (r := (sX (tA v) j)) X hx rfl (by simp [meetV, svOf_0, svOf_1, tPut_0, tPut_1, nI_clamp (show j < 2 ^ 31 by omega), nI_eq, c_6]) (by rfl) dX9_meeting_69
      by_cases w_22_2 : q = nI 2
      · subst w_22_2
        refine g_tsIn (tgt := 70) X 2 dX9_meeting_22 rfl (by decide) (by decide) rfl (by decide) ?_
        refine g_aload X 0 dX9_meeting_70 rfl ?_
        refine g_iload_n X 3 dX9_meeting_72 rfl ?_
        refine g_callVr (st2 := [.int (sY (tA v) j)]) (q0 := 0) X (c_X4_yOf E (O 4) (tA v) j (by first | assumption | omega) (by first | assumption | omega)) cs_X9_118 rfl [2] [0, 1, 3] 4 rfl (by decide) rfl rfl rfl rfl rfl (Nat.le_of_ble_eq_true rfl) dX9_meeting_73 rfl ?_
        exact g_iretv (r := (sY (tA v) j)) X hx rfl (by simp [meetV, svOf_0, svOf_1, tPut_0, tPut_1, nI_clamp (show j < 2 ^ 31 by omega), nI_eq, c_6]) (by rfl) dX9_meeting_76
      by_cases w_22_3 : q = nI 3
      · subst w_22_3
        refine g_tsIn (tgt := 77) X 3 dX9_meeting_22 rfl (by decide) (by decide) rfl (by decide) ?_
        refine g_aload_n X 1 dX9_meeting_77 rfl ?_
        refine g_getf (v := .ref (O 3 0)) X fs_X9_74 0 rfl rfl dX9_meeting_78 ?_
        refine g_iload_n X 2 dX9_meeting_81 rfl ?_
        refine g_iload_n X 3 dX9_meeting_82 rfl ?_
        refine g_callVr (st2 := [.int (reachV (tR v) (sKd (tA v) j))]) (q0 := 0) X (c_X6_reachOf_0 E (O 3 0) (O 4) (O 5) v j (by first | assumption | omega) (by first | assumption | omega)) cs_X9_121 rfl [1, 2, 3] [0] 4 rfl (by decide) rfl rfl rfl rfl rfl (Nat.le_of_ble_eq_true rfl) dX9_meeting_83 rfl ?_
        exact g_iretv (r := (reachV (tR v) (sKd (tA v) j))) X hx rfl (by simp [meetV, svOf_0, svOf_1, tPut_0, tPut_1, nI_clamp (show j < 2 ^ 31 by omega), nI_eq, c_6]) (by rfl) dX9_meeting_86
      by_cases w_22_4 : q = nI 4
      · subst w_22_4
        refine g_tsIn (tgt := 87) X 4 dX9_meeting_22 rfl (by decide) (by decide) rfl (by decide) ?_
        refine g_aload X 0 dX9_meeting_87 rfl ?_
        refine g_iload_n X 3 dX9_meeting_89 rfl ?_
        refine g_callVr (st2 := [.int (nI (cntB (fun k => decide (¬ svOther (tA v) k (nI j) = -1)) (sS (tA v))))]) (q0 := 0) X (c_X4_streetsAt E (O 4) (tA v) (nI j) (by first | assumption | omega)) cs_X9_125 rfl [2] [0, 1, 3] 4 rfl (by decide) rfl rfl rfl rfl rfl (Nat.le_of_ble_eq_true rfl) dX9_meeting_90 rfl ?_
        exact g_iretv (r := (nI (cntB (fun k => decide (¬ svOther (tA v) k (nI j) = -1)) (sS (tA v))))) X hx rfl (by simp [meetV, svOf_0, svOf_1, tPut_0, tPut_1, nI_clamp (show j < 2 ^ 31 by omega), nI_eq, c_6]) (by rfl) dX9_meeting_93
      refine g_tsOut (tgt := 94) X dX9_meeting_22 (by have t0 := lv_neT w_22_0 (a := 0) rfl; have t1 := lv_neT w_22_1 (a := 1) rfl; have t2 := lv_neT w_22_2 (a := 2) rfl; have t3 := lv_neT w_22_3 (a := 3) rfl; have t4 := lv_neT w_22_4 (a := 4) rfl; omega) (by decide) ?_
      refine g_iconst (v := (-1)) X dX9_meeting_94 rfl ?_
      exact g_iretv (r := (-1)) X hx rfl (by simp [meetV, svOf_0, svOf_1, tPut_0, tPut_1, nI_clamp (show j < 2 ^ 31 by omega), nI_eq, c_6, w_22_0, w_22_1, w_22_2, w_22_3, w_22_4]) (by rfl) dX9_meeting_95
    · refine g_aload_n X 0 dX9_meeting_11 rfl ?_
      refine g_getf (v := .ref (O 3 0)) X fs_X9_74 0 rfl rfl dX9_meeting_12 ?_
      refine g_iload_n X 1 dX9_meeting_15 rfl ?_
      refine g_callVr (st2 := [.ref ((O 5) 0)]) (q0 := 0) X (c_X6_surveyOf_1 E (O 3 0) (O 4) (O 5) v) cs_X9_92 rfl [1, 2, 3] [0] 4 rfl (by decide) rfl rfl rfl rfl rfl (Nat.le_of_ble_eq_true rfl) dX9_meeting_16 rfl ?_
      refine g_astore (lv' := [(4, .ref ((O 5) 0)), (0, .ref (O 0 0)), (1, .int (nI 1)), (2, .int (nI j)), (3, .int q)]) X dX9_meeting_19 (by decide) rfl ?_
      refine g_iload_n X 4 dX9_meeting_21 rfl ?_
      by_cases w_22_0 : q = nI 0
      · subst w_22_0
        refine g_tsIn (tgt := 56) X 0 dX9_meeting_22 rfl (by decide) (by decide) rfl (by decide) ?_
        refine g_aload X 0 dX9_meeting_56 rfl ?_
        refine g_iload_n X 3 dX9_meeting_58 rfl ?_
        refine g_callVr (st2 := [.int (sKd (tB v) j)]) (q0 := 0) X (c_X4_kindOf E (O 5) (tB v) j (by first | assumption | omega) (by first | assumption | omega)) cs_X9_111 rfl [3] [0, 1, 2] 4 rfl (by decide) rfl rfl rfl rfl rfl (Nat.le_of_ble_eq_true rfl) dX9_meeting_59 rfl ?_
        exact g_iretv (r := (sKd (tB v) j)) X hx rfl (by simp [meetV, svOf_0, svOf_1, tPut_0, tPut_1, nI_clamp (show j < 2 ^ 31 by omega), nI_eq, c_6]) (by rfl) dX9_meeting_62
      by_cases w_22_1 : q = nI 1
      · subst w_22_1
        refine g_tsIn (tgt := 63) X 1 dX9_meeting_22 rfl (by decide) (by decide) rfl (by decide) ?_
        refine g_aload X 0 dX9_meeting_63 rfl ?_
        refine g_iload_n X 3 dX9_meeting_65 rfl ?_
        refine g_callVr (st2 := [.int (sX (tB v) j)]) (q0 := 0) X (c_X4_xOf E (O 5) (tB v) j (by first | assumption | omega) (by first | assumption | omega)) cs_X9_115 rfl [3] [0, 1, 2] 4 rfl (by decide) rfl rfl rfl rfl rfl (Nat.le_of_ble_eq_true rfl) dX9_meeting_66 rfl ?_
        exact g_iretv (r := (sX (tB v) j)) X hx rfl (by simp [meetV, svOf_0, svOf_1, tPut_0, tPut_1, nI_clamp (show j < 2 ^ 31 by omega), nI_eq, c_6]) (by rfl) dX9_meeting_69
      by_cases w_22_2 : q = nI 2
      · subst w_22_2
        refine g_tsIn (tgt := 70) X 2 dX9_meeting_22 rfl (by decide) (by decide) rfl (by decide) ?_
        refine g_aload X 0 dX9_meeting_70 rfl ?_
        refine g_iload_n X 3 dX9_meeting_72 rfl ?_
        refine g_callVr (st2 := [.int (sY (tB v) j)]) (q0 := 0) X (c_X4_yOf E (O 5) (tB v) j (by first | assumption | omega) (by first | assumption | omega)) cs_X9_118 rfl [3] [0, 1, 2] 4 rfl (by decide) rfl rfl rfl rfl rfl (Nat.le_of_ble_eq_true rfl) dX9_meeting_73 rfl ?_
        exact g_iretv (r := (sY (tB v) j)) X hx rfl (by simp [meetV, svOf_0, svOf_1, tPut_0, tPut_1, nI_clamp (show j < 2 ^ 31 by omega), nI_eq, c_6]) (by rfl) dX9_meeting_76
      by_cases w_22_3 : q = nI 3
      · subst w_22_3
        refine g_tsIn (tgt := 77) X 3 dX9_meeting_22 rfl (by decide) (by decide) rfl (by decide) ?_
        refine g_aload_n X 1 dX9_meeting_77 rfl ?_
        refine g_getf (v := .ref (O 3 0)) X fs_X9_74 0 rfl rfl dX9_meeting_78 ?_
        refine g_iload_n X 2 dX9_meeting_81 rfl ?_
        refine g_iload_n X 3 dX9_meeting_82 rfl ?_
        refine g_callVr (st2 := [.int (reachV (tR v) (sKd (tB v) j))]) (q0 := 0) X (c_X6_reachOf_1 E (O 3 0) (O 4) (O 5) v j (by first | assumption | omega) (by first | assumption | omega)) cs_X9_121 rfl [1, 2, 3] [0] 4 rfl (by decide) rfl rfl rfl rfl rfl (Nat.le_of_ble_eq_true rfl) dX9_meeting_83 rfl ?_
        exact g_iretv (r := (reachV (tR v) (sKd (tB v) j))) X hx rfl (by simp [meetV, svOf_0, svOf_1, tPut_0, tPut_1, nI_clamp (show j < 2 ^ 31 by omega), nI_eq, c_6]) (by rfl) dX9_meeting_86
      by_cases w_22_4 : q = nI 4
      · subst w_22_4
        refine g_tsIn (tgt := 87) X 4 dX9_meeting_22 rfl (by decide) (by decide) rfl (by decide) ?_
        refine g_aload X 0 dX9_meeting_87 rfl ?_
        refine g_iload_n X 3 dX9_meeting_89 rfl ?_
        refine g_callVr (st2 := [.int (nI (cntB (fun k => decide (¬ svOther (tB v) k (nI j) = -1)) (sS (tB v))))]) (q0 := 0) X (c_X4_streetsAt E (O 5) (tB v) (nI j) (by first | assumption | omega)) cs_X9_125 rfl [3] [0, 1, 2] 4 rfl (by decide) rfl rfl rfl rfl rfl (Nat.le_of_ble_eq_true rfl) dX9_meeting_90 rfl ?_
        exact g_iretv (r := (nI (cntB (fun k => decide (¬ svOther (tB v) k (nI j) = -1)) (sS (tB v))))) X hx rfl (by simp [meetV, svOf_0, svOf_1, tPut_0, tPut_1, nI_clamp (show j < 2 ^ 31 by omega), nI_eq, c_6]) (by rfl) dX9_meeting_93
      refine g_tsOut (tgt := 94) X dX9_meeting_22 (by have t0 := lv_neT w_22_0 (a := 0) rfl; have t1 := lv_neT w_22_1 (a := 1) rfl; have t2 := lv_neT w_22_2 (a := 2) rfl; have t3 := lv_neT w_22_3 (a := 3) rfl; have t4 := lv_neT w_22_4 (a := 4) rfl; omega) (by decide) ?_
      refine g_iconst (v := (-1)) X dX9_meeting_94 rfl ?_
      exact g_iretv (r := (-1)) X hx rfl (by simp [meetV, svOf_0, svOf_1, tPut_0, tPut_1, nI_clamp (show j < 2 ^ 31 by omega), nI_eq, c_6, w_22_0, w_22_1, w_22_2, w_22_3, w_22_4]) (by rfl) dX9_meeting_95
  · refine g_iconst (v := (-1)) X dX9_meeting_9 rfl ?_
    exact g_iretv (r := (-1)) X hx rfl (by simp [meetV, c_6]) (by rfl) dX9_meeting_10
set_option maxHeartbeats 4000000 in
set_option maxRecDepth 100000 in
theorem c_X9_street (E : GE) (O : Nat → Nat → Nat) (v : TV) (s : Int32) (i : Int32) (q : Int32) (hv : okT v) : CT E m_X9_street [.ref (O 0 0), .int s, .int i, .int q] ([wTS E O, wTw E (O 3 0) (O 4) (O 5) (tR v) (tN v), wSv E (O 4) (tA v), wSv E (O 5) (tB v)].flatten) (some (.int (strtV v s i q))) ([wTS E O, wTw E (O 3 0) (O 4) (O 5) (tR v) (tN v), wSv E (O 4) (tA v), wSv E (O 5) (tB v)].flatten) := by
  refine CT.intro (by decide +kernel) (Nat.le_of_ble_eq_true rfl) (fun Γ X hx => ?_)
  refine GG.lv [0, 1, 2, 3] (lv' := [(0, .ref (O 0 0)), (1, .int s), (2, .int i), (3, .int q)]) rfl ?_
  have hA : okS (tA v) := hv.1
  have hB : okS (tB v) := hv.2.1
  have hv1 : sM (tA v) ≤ 8 := hA.1
  have hv2 : sS (tA v) ≤ 8 := hA.2
  have hv3 : sM (tB v) ≤ 8 := hB.1
  have hv4 : sS (tB v) ≤ 8 := hB.2
  have hv5 : tN v ≤ 3 := hv.2.2
  refine g_aload_n X 0 dX9_street_0 rfl ?_
  refine g_iload_n X 1 dX9_street_1 rfl ?_
  refine g_iload_n X 2 dX9_street_2 rfl ?_
  refine g_callVr (st2 := [.int (b2i (hasS v s i))]) (q0 := 0) X (c_X9_hasStreet E O v s i (by first | assumption | omega)) cs_X9_128 rfl [0, 1, 2, 3] [] 4 rfl (by decide) rfl rfl rfl rfl rfl (Nat.le_of_ble_eq_true rfl) dX9_street_3 rfl ?_
  refine g_bif_ne (tgt := 11) X dX9_street_6 (by decide) (fun c_6 => ?_) (fun c_6 => ?_)
  · rcases hasS_or hv c_6 with ⟨rfl, j, hj, rfl⟩ | ⟨rfl, j, hj, rfl⟩
    · refine g_aload_n X 0 dX9_street_11 rfl ?_
      refine g_getf (v := .ref (O 3 0)) X fs_X9_74 0 rfl rfl dX9_street_12 ?_
      refine g_iload_n X 1 dX9_street_15 rfl ?_
      refine g_callVr (st2 := [.ref ((O 4) 0)]) (q0 := 0) X (c_X6_surveyOf_0 E (O 3 0) (O 4) (O 5) v) cs_X9_92 rfl [1, 2, 3] [0] 4 rfl (by decide) rfl rfl rfl rfl rfl (Nat.le_of_ble_eq_true rfl) dX9_street_16 rfl ?_
      refine g_astore (lv' := [(4, .ref ((O 4) 0)), (0, .ref (O 0 0)), (1, .int (nI 0)), (2, .int (nI j)), (3, .int q)]) X dX9_street_19 (by decide) rfl ?_
      refine g_iload_n X 4 dX9_street_21 rfl ?_
      by_cases w_22_0 : q = nI 0
      · subst w_22_0
        refine g_tsIn (tgt := 48) X 0 dX9_street_22 rfl (by decide) (by decide) rfl (by decide) ?_
        refine g_aload X 0 dX9_street_48 rfl ?_
        refine g_iload_n X 3 dX9_street_50 rfl ?_
        refine g_callVr (st2 := [.int (sU (tA v) j)]) (q0 := 0) X (c_X4_startOf E (O 4) (tA v) j (by first | assumption | omega) (by first | assumption | omega)) cs_X9_131 rfl [2] [0, 1, 3] 4 rfl (by decide) rfl rfl rfl rfl rfl (Nat.le_of_ble_eq_true rfl) dX9_street_51 rfl ?_
        exact g_iretv (r := (sU (tA v) j)) X hx rfl (by simp [strtV, svOf_0, svOf_1, tPut_0, tPut_1, nI_clamp (show j < 2 ^ 31 by omega), nI_eq, c_6]) (by rfl) dX9_street_54
      by_cases w_22_1 : q = nI 1
      · subst w_22_1
        refine g_tsIn (tgt := 55) X 1 dX9_street_22 rfl (by decide) (by decide) rfl (by decide) ?_
        refine g_aload X 0 dX9_street_55 rfl ?_
        refine g_iload_n X 3 dX9_street_57 rfl ?_
        refine g_callVr (st2 := [.int (sV (tA v) j)]) (q0 := 0) X (c_X4_endOf E (O 4) (tA v) j (by first | assumption | omega) (by first | assumption | omega)) cs_X9_134 rfl [2] [0, 1, 3] 4 rfl (by decide) rfl rfl rfl rfl rfl (Nat.le_of_ble_eq_true rfl) dX9_street_58 rfl ?_
        exact g_iretv (r := (sV (tA v) j)) X hx rfl (by simp [strtV, svOf_0, svOf_1, tPut_0, tPut_1, nI_clamp (show j < 2 ^ 31 by omega), nI_eq, c_6]) (by rfl) dX9_street_61
      by_cases w_22_2 : q = nI 2
      · subst w_22_2
        refine g_tsIn (tgt := 62) X 2 dX9_street_22 rfl (by decide) (by decide) rfl (by decide) ?_
        refine g_aload X 0 dX9_street_62 rfl ?_
        refine g_iload_n X 3 dX9_street_64 rfl ?_
        refine g_callVr (st2 := [.int (sNm (tA v) j)]) (q0 := 0) X (c_X4_nameOf E (O 4) (tA v) j (by first | assumption | omega) (by first | assumption | omega)) cs_X9_137 rfl [2] [0, 1, 3] 4 rfl (by decide) rfl rfl rfl rfl rfl (Nat.le_of_ble_eq_true rfl) dX9_street_65 rfl ?_
        exact g_iretv (r := (sNm (tA v) j)) X hx rfl (by simp [strtV, svOf_0, svOf_1, tPut_0, tPut_1, nI_clamp (show j < 2 ^ 31 by omega), nI_eq, c_6]) (by rfl) dX9_street_68
      refine g_tsOut (tgt := 69) X dX9_street_22 (by have t0 := lv_neT w_22_0 (a := 0) rfl; have t1 := lv_neT w_22_1 (a := 1) rfl; have t2 := lv_neT w_22_2 (a := 2) rfl; omega) (by decide) ?_
      refine g_iconst (v := (-1)) X dX9_street_69 rfl ?_
      exact g_iretv (r := (-1)) X hx rfl (by simp [strtV, svOf_0, svOf_1, tPut_0, tPut_1, nI_clamp (show j < 2 ^ 31 by omega), nI_eq, c_6, w_22_0, w_22_1, w_22_2]) (by rfl) dX9_street_70
    · refine g_aload_n X 0 dX9_street_11 rfl ?_
      refine g_getf (v := .ref (O 3 0)) X fs_X9_74 0 rfl rfl dX9_street_12 ?_
      refine g_iload_n X 1 dX9_street_15 rfl ?_
      refine g_callVr (st2 := [.ref ((O 5) 0)]) (q0 := 0) X (c_X6_surveyOf_1 E (O 3 0) (O 4) (O 5) v) cs_X9_92 rfl [1, 2, 3] [0] 4 rfl (by decide) rfl rfl rfl rfl rfl (Nat.le_of_ble_eq_true rfl) dX9_street_16 rfl ?_
      refine g_astore (lv' := [(4, .ref ((O 5) 0)), (0, .ref (O 0 0)), (1, .int (nI 1)), (2, .int (nI j)), (3, .int q)]) X dX9_street_19 (by decide) rfl ?_
      refine g_iload_n X 4 dX9_street_21 rfl ?_
      by_cases w_22_0 : q = nI 0
      · subst w_22_0
        refine g_tsIn (tgt := 48) X 0 dX9_street_22 rfl (by decide) (by decide) rfl (by decide) ?_
        refine g_aload X 0 dX9_street_48 rfl ?_
        refine g_iload_n X 3 dX9_street_50 rfl ?_
        refine g_callVr (st2 := [.int (sU (tB v) j)]) (q0 := 0) X (c_X4_startOf E (O 5) (tB v) j (by first | assumption | omega) (by first | assumption | omega)) cs_X9_131 rfl [3] [0, 1, 2] 4 rfl (by decide) rfl rfl rfl rfl rfl (Nat.le_of_ble_eq_true rfl) dX9_street_51 rfl ?_
        exact g_iretv (r := (sU (tB v) j)) X hx rfl (by simp [strtV, svOf_0, svOf_1, tPut_0, tPut_1, nI_clamp (show j < 2 ^ 31 by omega), nI_eq, c_6]) (by rfl) dX9_street_54
      by_cases w_22_1 : q = nI 1
      · subst w_22_1
        refine g_tsIn (tgt := 55) X 1 dX9_street_22 rfl (by decide) (by decide) rfl (by decide) ?_
        refine g_aload X 0 dX9_street_55 rfl ?_
        refine g_iload_n X 3 dX9_street_57 rfl ?_
        refine g_callVr (st2 := [.int (sV (tB v) j)]) (q0 := 0) X (c_X4_endOf E (O 5) (tB v) j (by first | assumption | omega) (by first | assumption | omega)) cs_X9_134 rfl [3] [0, 1, 2] 4 rfl (by decide) rfl rfl rfl rfl rfl (Nat.le_of_ble_eq_true rfl) dX9_street_58 rfl ?_
        exact g_iretv (r := (sV (tB v) j)) X hx rfl (by simp [strtV, svOf_0, svOf_1, tPut_0, tPut_1, nI_clamp (show j < 2 ^ 31 by omega), nI_eq, c_6]) (by rfl) dX9_street_61
      by_cases w_22_2 : q = nI 2
      · subst w_22_2
        refine g_tsIn (tgt := 62) X 2 dX9_street_22 rfl (by decide) (by decide) rfl (by decide) ?_
        refine g_aload X 0 dX9_street_62 rfl ?_
        refine g_iload_n X 3 dX9_street_64 rfl ?_
        refine g_callVr (st2 := [.int (sNm (tB v) j)]) (q0 := 0) X (c_X4_nameOf E (O 5) (tB v) j (by first | assumption | omega) (by first | assumption | omega)) cs_X9_137 rfl [3] [0, 1, 2] 4 rfl (by decide) rfl rfl rfl rfl rfl (Nat.le_of_ble_eq_true rfl) dX9_street_65 rfl ?_
        exact g_iretv (r := (sNm (tB v) j)) X hx rfl (by simp [strtV, svOf_0, svOf_1, tPut_0, tPut_1, nI_clamp (show j < 2 ^ 31 by omega), nI_eq, c_6]) (by rfl) dX9_street_68
      refine g_tsOut (tgt := 69) X dX9_street_22 (by have t0 := lv_neT w_22_0 (a := 0) rfl; have t1 := lv_neT w_22_1 (a := 1) rfl; have t2 := lv_neT w_22_2 (a := 2) rfl; omega) (by decide) ?_
      refine g_iconst (v := (-1)) X dX9_street_69 rfl ?_
      exact g_iretv (r := (-1)) X hx rfl (by simp [strtV, svOf_0, svOf_1, tPut_0, tPut_1, nI_clamp (show j < 2 ^ 31 by omega), nI_eq, c_6, w_22_0, w_22_1, w_22_2]) (by rfl) dX9_street_70
  · refine g_iconst (v := (-1)) X dX9_street_9 rfl ?_
    exact g_iretv (r := (-1)) X hx rfl (by simp [strtV, c_6]) (by rfl) dX9_street_10
set_option maxHeartbeats 4000000 in
set_option maxRecDepth 100000 in
theorem c_X9_move (E : GE) (O : Nat → Nat → Nat) (Q : Nat → Nat → Nat → Nat) (v : TV) (oa : PO) (ta : Nat → TV) (s : Int32) (i : Int32) (x : Int32) (y : Int32) (hv : okT v) (hra : ∀ k, k < 8 → oa.1 k < 8) (hha : oa.2 ≤ 8) : CT E m_X9_move [.ref (O 0 0), .int s, .int i, .int x, .int y] ([wTS E O, wTw E (O 3 0) (O 4) (O 5) (tR v) (tN v), wSv E (O 4) (tA v), wSv E (O 5) (tB v), wPo E (O 9) (O 17) 8 oa, wPt E (O 17) (Q 0) (Q 1) 8 ta].flatten) (some (.int (mvV v s i x y))) ([wTS E O, wTw E (O 3 0) (O 4) (O 5) (tR (if mvB v s i x y then tPut v s (svPut (svOf v s) i.toNatClampNeg x y) else v)) (tN (if mvB v s i x y then tPut v s (svPut (svOf v s) i.toNatClampNeg x y) else v)), wSv E (O 4) (tA (if mvB v s i x y then tPut v s (svPut (svOf v s) i.toNatClampNeg x y) else v)), wSv E (O 5) (tB (if mvB v s i x y then tPut v s (svPut (svOf v s) i.toNatClampNeg x y) else v)), wPo E (O 9) (O 17) 8 (if mvB v s i x y then pushO 8 oa else oa), wPt E (O 17) (Q 0) (Q 1) 8 (if mvB v s i x y then pushT 8 oa ta v else ta)].flatten) := by
  refine CT.intro (by decide +kernel) (Nat.le_of_ble_eq_true rfl) (fun Γ X hx => ?_)
  refine GG.lv [0, 1, 2, 3, 4] (lv' := [(0, .ref (O 0 0)), (1, .int s), (2, .int i), (3, .int x), (4, .int y)]) rfl ?_
  have hA : okS (tA v) := hv.1
  have hB : okS (tB v) := hv.2.1
  have hv1 : sM (tA v) ≤ 8 := hA.1
  have hv2 : sS (tA v) ≤ 8 := hA.2
  have hv3 : sM (tB v) ≤ 8 := hB.1
  have hv4 : sS (tB v) ≤ 8 := hB.2
  have hv5 : tN v ≤ 3 := hv.2.2
  refine g_aload_n X 0 dX9_move_0 rfl ?_
  refine g_iload_n X 1 dX9_move_1 rfl ?_
  refine g_iload_n X 2 dX9_move_2 rfl ?_
  refine g_callVr (st2 := [.int (b2i (hasM v s i))]) (q0 := 0) X (c_X9_hasMeeting E O v s i (by first | assumption | omega)) cs_X9_107 rfl [0, 1, 2, 3] [4, 5] 6 rfl (by decide) rfl rfl rfl rfl rfl (Nat.le_of_ble_eq_true rfl) dX9_move_3 rfl ?_
  refine g_bif_eq (tgt := 30) X dX9_move_6 (by decide) (fun c_6 => ?_) (fun c_6 => ?_)
  · refine g_iconst (v := (-1)) X dX9_move_30 rfl ?_
    exact g_iretv (r := (-1)) X hx rfl (by simp [mvV, mvB, mvA, c_6]) (by simp [mvB, mvA, c_6]) dX9_move_31
  · refine g_iload_n X 3 dX9_move_9 rfl ?_
    refine g_iconst (v := (nI 0)) X dX9_move_10 rfl ?_
    refine g_bipush (v := (nI 60)) X dX9_move_11 rfl ?_
    refine g_callSP (st2 := [.int (b2i (inR x (nI 0) (nI 60)))]) (ws' := [wTS E O, wTw E (O 3 0) (O 4) (O 5) (tR v) (tN v), wSv E (O 4) (tA v), wSv E (O 5) (tB v), wPo E (O 9) (O 17) 8 oa, wPt E (O 17) (Q 0) (Q 1) 8 ta].flatten) (wr := [wTS E O, wTw E (O 3 0) (O 4) (O 5) (tR v) (tN v), wSv E (O 4) (tA v), wSv E (O 5) (tB v), wPo E (O 9) (O 17) 8 oa, wPt E (O 17) (Q 0) (Q 1) 8 ta].flatten) X (c_X9_isWithin E x (nI 0) (nI 60)) cs_X9_140 rfl (List.Perm.refl _) rfl (List.Perm.refl _) rfl rfl (Nat.le_of_ble_eq_true rfl) dX9_move_13 rfl ?_
    refine g_bif_eq (tgt := 30) X dX9_move_16 (by decide) (fun c_16 => ?_) (fun c_16 => ?_)
    · refine g_iconst (v := (-1)) X dX9_move_30 rfl ?_
      exact g_iretv (r := (-1)) X hx rfl (by simp [mvV, mvB, mvA, c_6, c_16]) (by simp [mvB, mvA, c_6, c_16]) dX9_move_31
    · refine g_iload X 4 dX9_move_19 rfl ?_
      refine g_iconst (v := (nI 0)) X dX9_move_21 rfl ?_
      refine g_bipush (v := (nI 60)) X dX9_move_22 rfl ?_
      refine g_callSP (st2 := [.int (b2i (inR y (nI 0) (nI 60)))]) (ws' := [wTS E O, wTw E (O 3 0) (O 4) (O 5) (tR v) (tN v), wSv E (O 4) (tA v), wSv E (O 5) (tB v), wPo E (O 9) (O 17) 8 oa, wPt E (O 17) (Q 0) (Q 1) 8 ta].flatten) (wr := [wTS E O, wTw E (O 3 0) (O 4) (O 5) (tR v) (tN v), wSv E (O 4) (tA v), wSv E (O 5) (tB v), wPo E (O 9) (O 17) 8 oa, wPt E (O 17) (Q 0) (Q 1) 8 ta].flatten) X (c_X9_isWithin E y (nI 0) (nI 60)) cs_X9_140 rfl (List.Perm.refl _) rfl (List.Perm.refl _) rfl rfl (Nat.le_of_ble_eq_true rfl) dX9_move_24 rfl ?_
      refine g_bif_ne (tgt := 32) X dX9_move_27 (by decide) (fun c_27 => ?_) (fun c_27 => ?_)
      · rcases hasM_or hv c_6 with ⟨rfl, j, hj, rfl⟩ | ⟨rfl, j, hj, rfl⟩
        · refine g_aload_n X 0 dX9_move_32 rfl ?_
          refine g_getf (v := .ref (O 3 0)) X fs_X9_74 0 rfl rfl dX9_move_33 ?_
          refine g_iload_n X 1 dX9_move_36 rfl ?_
          refine g_callVr (st2 := [.ref ((O 4) 0)]) (q0 := 0) X (c_X6_surveyOf_0 E (O 3 0) (O 4) (O 5) v) cs_X9_92 rfl [1, 2, 3] [0, 4, 5] 6 rfl (by decide) rfl rfl rfl rfl rfl (Nat.le_of_ble_eq_true rfl) dX9_move_37 rfl ?_
          refine g_astore (lv' := [(5, .ref ((O 4) 0)), (0, .ref (O 0 0)), (1, .int (nI 0)), (2, .int (nI j)), (3, .int x), (4, .int y)]) X dX9_move_40 (by decide) rfl ?_
          refine g_aload X 0 dX9_move_42 rfl ?_
          refine g_iload_n X 3 dX9_move_44 rfl ?_
          refine g_callVr (st2 := [.int (sX (tA v) j)]) (q0 := 0) X (c_X4_xOf E (O 4) (tA v) j (by first | assumption | omega) (by first | assumption | omega)) cs_X9_115 rfl [2] [0, 1, 3, 4, 5] 6 rfl (by decide) rfl rfl rfl rfl rfl (Nat.le_of_ble_eq_true rfl) dX9_move_45 rfl ?_
          refine g_iload_n X 4 dX9_move_48 rfl ?_
          refine g_icmp_ne (tgt := 66) X dX9_move_49 (by decide) (fun c_49 => ?_) (fun c_49 => ?_)
          · refine g_aload_n X 1 dX9_move_66 rfl ?_
            refine g_getf (v := .ref (O 9 0)) X fs_X9_35 0 rfl rfl dX9_move_67 ?_
            refine g_aload_n X 1 dX9_move_70 rfl ?_
            refine g_getf (v := .ref (O 3 0)) X fs_X9_74 0 rfl rfl dX9_move_71 ?_
            refine g_callV (st2 := []) (S' := [wTS E O, wTw E (O 3 0) (O 4) (O 5) (tR v) (tN v), wSv E (O 4) (tA v), wSv E (O 5) (tB v), wPo E (O 9) (O 17) 8 (plR oa.1 oa.2 8, plH oa.2 8), wPt E (O 17) (Q 0) (Q 1) 8 (upT ta (plK oa.1 oa.2 8) (tCopy v (ta (plK oa.1 oa.2 8))))]) (q0 := 15) X (c_X1_push E (O 9) (O 17) 8 oa (Q 0) (Q 1) ta (O 3 0) (O 4) (O 5) v (by decide) (by decide) hra hha) cs_X9_144 rfl [1, 2, 3, 4, 5] [0] 6 rfl rfl (by decide) [wTS E O] rfl rfl rfl rfl (by simp only [List.map_cons, List.map_nil, fsPo, fsPt, fsSv, fsTS, fsTw]) rfl rfl rfl rfl (Nat.le_of_ble_eq_true rfl) dX9_move_74 rfl ?_
            refine g_aload X 0 dX9_move_77 rfl ?_
            refine g_iload_n X 3 dX9_move_79 rfl ?_
            refine g_iload_n X 4 dX9_move_80 rfl ?_
            refine g_iload X 5 dX9_move_81 rfl ?_
            refine g_callV (st2 := []) (S' := [wTS E O, wTw E (O 3 0) (O 4) (O 5) (tR v) (tN v), wSv E (O 4) (svPut (tA v) j x y), wSv E (O 5) (tB v), wPo E (O 9) (O 17) 8 (plR oa.1 oa.2 8, plH oa.2 8), wPt E (O 17) (Q 0) (Q 1) 8 (upT ta (plK oa.1 oa.2 8) (tCopy v (ta (plK oa.1 oa.2 8))))]) (q0 := 0) X (c_X4_put E (O 4) (tA v) j x y (by first | assumption | omega) (by first | assumption | omega)) cs_X9_147 rfl [2] [0, 1, 3, 4, 5] 6 rfl rfl (by decide) [wTS E O, wTw E (O 3 0) (O 4) (O 5) (tR v) (tN v), wSv E (O 5) (tB v), wPo E (O 9) (O 17) 8 (plR oa.1 oa.2 8, plH oa.2 8), wPt E (O 17) (Q 0) (Q 1) 8 (upT ta (plK oa.1 oa.2 8) (tCopy v (ta (plK oa.1 oa.2 8))))] rfl rfl rfl rfl (by simp only [List.map_cons, List.map_nil, fsPo, fsPt, fsSv, fsTS, fsTw]) rfl rfl rfl rfl (Nat.le_of_ble_eq_true rfl) dX9_move_83 rfl ?_
            refine g_iconst (v := (nI 1)) X dX9_move_86 rfl ?_
            exact g_iretv (r := (nI 1)) X hx rfl (by simp [mvV, mvB, mvA, svOf_0, svOf_1, tPut_0, tPut_1, nI_clamp (show j < 2 ^ 31 by omega), nI_eq, c_6, c_16, c_27, c_49]) (by simp [mvB, mvA, pushO, pushT, svOf_0, svOf_1, tPut_0, tPut_1, nI_clamp (show j < 2 ^ 31 by omega), nI_eq, c_6, c_16, c_27, c_49]) dX9_move_87
          · refine g_aload X 0 dX9_move_52 rfl ?_
            refine g_iload_n X 3 dX9_move_54 rfl ?_
            refine g_callVr (st2 := [.int (sY (tA v) j)]) (q0 := 0) X (c_X4_yOf E (O 4) (tA v) j (by first | assumption | omega) (by first | assumption | omega)) cs_X9_118 rfl [2] [0, 1, 3, 4, 5] 6 rfl (by decide) rfl rfl rfl rfl rfl (Nat.le_of_ble_eq_true rfl) dX9_move_55 rfl ?_
            refine g_iload X 5 dX9_move_58 rfl ?_
            refine g_icmp_ne (tgt := 66) X dX9_move_60 (by decide) (fun c_60 => ?_) (fun c_60 => ?_)
            · refine g_aload_n X 1 dX9_move_66 rfl ?_
              refine g_getf (v := .ref (O 9 0)) X fs_X9_35 0 rfl rfl dX9_move_67 ?_
              refine g_aload_n X 1 dX9_move_70 rfl ?_
              refine g_getf (v := .ref (O 3 0)) X fs_X9_74 0 rfl rfl dX9_move_71 ?_
              refine g_callV (st2 := []) (S' := [wTS E O, wTw E (O 3 0) (O 4) (O 5) (tR v) (tN v), wSv E (O 4) (tA v), wSv E (O 5) (tB v), wPo E (O 9) (O 17) 8 (plR oa.1 oa.2 8, plH oa.2 8), wPt E (O 17) (Q 0) (Q 1) 8 (upT ta (plK oa.1 oa.2 8) (tCopy v (ta (plK oa.1 oa.2 8))))]) (q0 := 15) X (c_X1_push E (O 9) (O 17) 8 oa (Q 0) (Q 1) ta (O 3 0) (O 4) (O 5) v (by decide) (by decide) hra hha) cs_X9_144 rfl [1, 2, 3, 4, 5] [0] 6 rfl rfl (by decide) [wTS E O] rfl rfl rfl rfl (by simp only [List.map_cons, List.map_nil, fsPo, fsPt, fsSv, fsTS, fsTw]) rfl rfl rfl rfl (Nat.le_of_ble_eq_true rfl) dX9_move_74 rfl ?_
              refine g_aload X 0 dX9_move_77 rfl ?_
              refine g_iload_n X 3 dX9_move_79 rfl ?_
              refine g_iload_n X 4 dX9_move_80 rfl ?_
              refine g_iload X 5 dX9_move_81 rfl ?_
              refine g_callV (st2 := []) (S' := [wTS E O, wTw E (O 3 0) (O 4) (O 5) (tR v) (tN v), wSv E (O 4) (svPut (tA v) j x y), wSv E (O 5) (tB v), wPo E (O 9) (O 17) 8 (plR oa.1 oa.2 8, plH oa.2 8), wPt E (O 17) (Q 0) (Q 1) 8 (upT ta (plK oa.1 oa.2 8) (tCopy v (ta (plK oa.1 oa.2 8))))]) (q0 := 0) X (c_X4_put E (O 4) (tA v) j x y (by first | assumption | omega) (by first | assumption | omega)) cs_X9_147 rfl [2] [0, 1, 3, 4, 5] 6 rfl rfl (by decide) [wTS E O, wTw E (O 3 0) (O 4) (O 5) (tR v) (tN v), wSv E (O 5) (tB v), wPo E (O 9) (O 17) 8 (plR oa.1 oa.2 8, plH oa.2 8), wPt E (O 17) (Q 0) (Q 1) 8 (upT ta (plK oa.1 oa.2 8) (tCopy v (ta (plK oa.1 oa.2 8))))] rfl rfl rfl rfl (by simp only [List.map_cons, List.map_nil, fsPo, fsPt, fsSv, fsTS, fsTw]) rfl rfl rfl rfl (Nat.le_of_ble_eq_true rfl) dX9_move_83 rfl ?_
              refine g_iconst (v := (nI 1)) X dX9_move_86 rfl ?_
              exact g_iretv (r := (nI 1)) X hx rfl (by simp [mvV, mvB, mvA, svOf_0, svOf_1, tPut_0, tPut_1, nI_clamp (show j < 2 ^ 31 by omega), nI_eq, c_6, c_16, c_27, c_49, c_60]) (by simp [mvB, mvA, pushO, pushT, svOf_0, svOf_1, tPut_0, tPut_1, nI_clamp (show j < 2 ^ 31 by omega), nI_eq, c_6, c_16, c_27, c_49, c_60]) dX9_move_87
            · refine g_bipush (v := (-2)) X dX9_move_63 rfl ?_
              exact g_iretv (r := (-2)) X hx rfl (by simp [mvV, mvB, mvA, svOf_0, svOf_1, tPut_0, tPut_1, nI_clamp (show j < 2 ^ 31 by omega), nI_eq, c_6, c_16, c_27, c_49, c_60]) (by simp [mvB, mvA, pushO, pushT, svOf_0, svOf_1, tPut_0, tPut_1, nI_clamp (show j < 2 ^ 31 by omega), nI_eq, c_6, c_16, c_27, c_49, c_60]) dX9_move_65
        · refine g_aload_n X 0 dX9_move_32 rfl ?_
          refine g_getf (v := .ref (O 3 0)) X fs_X9_74 0 rfl rfl dX9_move_33 ?_
          refine g_iload_n X 1 dX9_move_36 rfl ?_
          refine g_callVr (st2 := [.ref ((O 5) 0)]) (q0 := 0) X (c_X6_surveyOf_1 E (O 3 0) (O 4) (O 5) v) cs_X9_92 rfl [1, 2, 3] [0, 4, 5] 6 rfl (by decide) rfl rfl rfl rfl rfl (Nat.le_of_ble_eq_true rfl) dX9_move_37 rfl ?_
          refine g_astore (lv' := [(5, .ref ((O 5) 0)), (0, .ref (O 0 0)), (1, .int (nI 1)), (2, .int (nI j)), (3, .int x), (4, .int y)]) X dX9_move_40 (by decide) rfl ?_
          refine g_aload X 0 dX9_move_42 rfl ?_
          refine g_iload_n X 3 dX9_move_44 rfl ?_
          refine g_callVr (st2 := [.int (sX (tB v) j)]) (q0 := 0) X (c_X4_xOf E (O 5) (tB v) j (by first | assumption | omega) (by first | assumption | omega)) cs_X9_115 rfl [3] [0, 1, 2, 4, 5] 6 rfl (by decide) rfl rfl rfl rfl rfl (Nat.le_of_ble_eq_true rfl) dX9_move_45 rfl ?_
          refine g_iload_n X 4 dX9_move_48 rfl ?_
          refine g_icmp_ne (tgt := 66) X dX9_move_49 (by decide) (fun c_49 => ?_) (fun c_49 => ?_)
          · refine g_aload_n X 1 dX9_move_66 rfl ?_
            refine g_getf (v := .ref (O 9 0)) X fs_X9_35 0 rfl rfl dX9_move_67 ?_
            refine g_aload_n X 1 dX9_move_70 rfl ?_
            refine g_getf (v := .ref (O 3 0)) X fs_X9_74 0 rfl rfl dX9_move_71 ?_
            refine g_callV (st2 := []) (S' := [wTS E O, wTw E (O 3 0) (O 4) (O 5) (tR v) (tN v), wSv E (O 4) (tA v), wSv E (O 5) (tB v), wPo E (O 9) (O 17) 8 (plR oa.1 oa.2 8, plH oa.2 8), wPt E (O 17) (Q 0) (Q 1) 8 (upT ta (plK oa.1 oa.2 8) (tCopy v (ta (plK oa.1 oa.2 8))))]) (q0 := 15) X (c_X1_push E (O 9) (O 17) 8 oa (Q 0) (Q 1) ta (O 3 0) (O 4) (O 5) v (by decide) (by decide) hra hha) cs_X9_144 rfl [1, 2, 3, 4, 5] [0] 6 rfl rfl (by decide) [wTS E O] rfl rfl rfl rfl (by simp only [List.map_cons, List.map_nil, fsPo, fsPt, fsSv, fsTS, fsTw]) rfl rfl rfl rfl (Nat.le_of_ble_eq_true rfl) dX9_move_74 rfl ?_
            refine g_aload X 0 dX9_move_77 rfl ?_
            refine g_iload_n X 3 dX9_move_79 rfl ?_
            refine g_iload_n X 4 dX9_move_80 rfl ?_
            refine g_iload X 5 dX9_move_81 rfl ?_
            refine g_callV (st2 := []) (S' := [wTS E O, wTw E (O 3 0) (O 4) (O 5) (tR v) (tN v), wSv E (O 4) (tA v), wSv E (O 5) (svPut (tB v) j x y), wPo E (O 9) (O 17) 8 (plR oa.1 oa.2 8, plH oa.2 8), wPt E (O 17) (Q 0) (Q 1) 8 (upT ta (plK oa.1 oa.2 8) (tCopy v (ta (plK oa.1 oa.2 8))))]) (q0 := 0) X (c_X4_put E (O 5) (tB v) j x y (by first | assumption | omega) (by first | assumption | omega)) cs_X9_147 rfl [3] [0, 1, 2, 4, 5] 6 rfl rfl (by decide) [wTS E O, wTw E (O 3 0) (O 4) (O 5) (tR v) (tN v), wSv E (O 4) (tA v), wPo E (O 9) (O 17) 8 (plR oa.1 oa.2 8, plH oa.2 8), wPt E (O 17) (Q 0) (Q 1) 8 (upT ta (plK oa.1 oa.2 8) (tCopy v (ta (plK oa.1 oa.2 8))))] rfl rfl rfl rfl (by simp only [List.map_cons, List.map_nil, fsPo, fsPt, fsSv, fsTS, fsTw]) rfl rfl rfl rfl (Nat.le_of_ble_eq_true rfl) dX9_move_83 rfl ?_
            refine g_iconst (v := (nI 1)) X dX9_move_86 rfl ?_
            exact g_iretv (r := (nI 1)) X hx rfl (by simp [mvV, mvB, mvA, svOf_0, svOf_1, tPut_0, tPut_1, nI_clamp (show j < 2 ^ 31 by omega), nI_eq, c_6, c_16, c_27, c_49]) (by simp [mvB, mvA, pushO, pushT, svOf_0, svOf_1, tPut_0, tPut_1, nI_clamp (show j < 2 ^ 31 by omega), nI_eq, c_6, c_16, c_27, c_49]) dX9_move_87
          · refine g_aload X 0 dX9_move_52 rfl ?_
            refine g_iload_n X 3 dX9_move_54 rfl ?_
            refine g_callVr (st2 := [.int (sY (tB v) j)]) (q0 := 0) X (c_X4_yOf E (O 5) (tB v) j (by first | assumption | omega) (by first | assumption | omega)) cs_X9_118 rfl [3] [0, 1, 2, 4, 5] 6 rfl (by decide) rfl rfl rfl rfl rfl (Nat.le_of_ble_eq_true rfl) dX9_move_55 rfl ?_
            refine g_iload X 5 dX9_move_58 rfl ?_
            refine g_icmp_ne (tgt := 66) X dX9_move_60 (by decide) (fun c_60 => ?_) (fun c_60 => ?_)
            · refine g_aload_n X 1 dX9_move_66 rfl ?_
              refine g_getf (v := .ref (O 9 0)) X fs_X9_35 0 rfl rfl dX9_move_67 ?_
              refine g_aload_n X 1 dX9_move_70 rfl ?_
              refine g_getf (v := .ref (O 3 0)) X fs_X9_74 0 rfl rfl dX9_move_71 ?_
              refine g_callV (st2 := []) (S' := [wTS E O, wTw E (O 3 0) (O 4) (O 5) (tR v) (tN v), wSv E (O 4) (tA v), wSv E (O 5) (tB v), wPo E (O 9) (O 17) 8 (plR oa.1 oa.2 8, plH oa.2 8), wPt E (O 17) (Q 0) (Q 1) 8 (upT ta (plK oa.1 oa.2 8) (tCopy v (ta (plK oa.1 oa.2 8))))]) (q0 := 15) X (c_X1_push E (O 9) (O 17) 8 oa (Q 0) (Q 1) ta (O 3 0) (O 4) (O 5) v (by decide) (by decide) hra hha) cs_X9_144 rfl [1, 2, 3, 4, 5] [0] 6 rfl rfl (by decide) [wTS E O] rfl rfl rfl rfl (by simp only [List.map_cons, List.map_nil, fsPo, fsPt, fsSv, fsTS, fsTw]) rfl rfl rfl rfl (Nat.le_of_ble_eq_true rfl) dX9_move_74 rfl ?_
              refine g_aload X 0 dX9_move_77 rfl ?_
              refine g_iload_n X 3 dX9_move_79 rfl ?_
              refine g_iload_n X 4 dX9_move_80 rfl ?_
              refine g_iload X 5 dX9_move_81 rfl ?_
              refine g_callV (st2 := []) (S' := [wTS E O, wTw E (O 3 0) (O 4) (O 5) (tR v) (tN v), wSv E (O 4) (tA v), wSv E (O 5) (svPut (tB v) j x y), wPo E (O 9) (O 17) 8 (plR oa.1 oa.2 8, plH oa.2 8), wPt E (O 17) (Q 0) (Q 1) 8 (upT ta (plK oa.1 oa.2 8) (tCopy v (ta (plK oa.1 oa.2 8))))]) (q0 := 0) X (c_X4_put E (O 5) (tB v) j x y (by first | assumption | omega) (by first | assumption | omega)) cs_X9_147 rfl [3] [0, 1, 2, 4, 5] 6 rfl rfl (by decide) [wTS E O, wTw E (O 3 0) (O 4) (O 5) (tR v) (tN v), wSv E (O 4) (tA v), wPo E (O 9) (O 17) 8 (plR oa.1 oa.2 8, plH oa.2 8), wPt E (O 17) (Q 0) (Q 1) 8 (upT ta (plK oa.1 oa.2 8) (tCopy v (ta (plK oa.1 oa.2 8))))] rfl rfl rfl rfl (by simp only [List.map_cons, List.map_nil, fsPo, fsPt, fsSv, fsTS, fsTw]) rfl rfl rfl rfl (Nat.le_of_ble_eq_true rfl) dX9_move_83 rfl ?_
              refine g_iconst (v := (nI 1)) X dX9_move_86 rfl ?_
              exact g_iretv (r := (nI 1)) X hx rfl (by simp [mvV, mvB, mvA, svOf_0, svOf_1, tPut_0, tPut_1, nI_clamp (show j < 2 ^ 31 by omega), nI_eq, c_6, c_16, c_27, c_49, c_60]) (by simp [mvB, mvA, pushO, pushT, svOf_0, svOf_1, tPut_0, tPut_1, nI_clamp (show j < 2 ^ 31 by omega), nI_eq, c_6, c_16, c_27, c_49, c_60]) dX9_move_87
            · refine g_bipush (v := (-2)) X dX9_move_63 rfl ?_
              exact g_iretv (r := (-2)) X hx rfl (by simp [mvV, mvB, mvA, svOf_0, svOf_1, tPut_0, tPut_1, nI_clamp (show j < 2 ^ 31 by omega), nI_eq, c_6, c_16, c_27, c_49, c_60]) (by simp [mvB, mvA, pushO, pushT, svOf_0, svOf_1, tPut_0, tPut_1, nI_clamp (show j < 2 ^ 31 by omega), nI_eq, c_6, c_16, c_27, c_49, c_60]) dX9_move_65
      · refine g_iconst (v := (-1)) X dX9_move_30 rfl ?_
        exact g_iretv (r := (-1)) X hx rfl (by simp [mvV, mvB, mvA, c_6, c_16, c_27]) (by simp [mvB, mvA, c_6, c_16, c_27]) dX9_move_31
set_option maxHeartbeats 4000000 in
set_option maxRecDepth 100000 in
theorem c_X9_rename (E : GE) (O : Nat → Nat → Nat) (Q : Nat → Nat → Nat → Nat) (v : TV) (oa : PO) (ta : Nat → TV) (s : Int32) (i : Int32) (k : Int32) (hv : okT v) (hra : ∀ k, k < 8 → oa.1 k < 8) (hha : oa.2 ≤ 8) : CT E m_X9_rename [.ref (O 0 0), .int s, .int i, .int k] ([wTS E O, wTw E (O 3 0) (O 4) (O 5) (tR v) (tN v), wSv E (O 4) (tA v), wSv E (O 5) (tB v), wPo E (O 9) (O 17) 8 oa, wPt E (O 17) (Q 0) (Q 1) 8 ta].flatten) (some (.int (rnV v s i k))) ([wTS E O, wTw E (O 3 0) (O 4) (O 5) (tR (if rnB v s i k then tPut v s (svKind (svOf v s) i.toNatClampNeg k) else v)) (tN (if rnB v s i k then tPut v s (svKind (svOf v s) i.toNatClampNeg k) else v)), wSv E (O 4) (tA (if rnB v s i k then tPut v s (svKind (svOf v s) i.toNatClampNeg k) else v)), wSv E (O 5) (tB (if rnB v s i k then tPut v s (svKind (svOf v s) i.toNatClampNeg k) else v)), wPo E (O 9) (O 17) 8 (if rnB v s i k then pushO 8 oa else oa), wPt E (O 17) (Q 0) (Q 1) 8 (if rnB v s i k then pushT 8 oa ta v else ta)].flatten) := by
  refine CT.intro (by decide +kernel) (Nat.le_of_ble_eq_true rfl) (fun Γ X hx => ?_)
  refine GG.lv [0, 1, 2, 3] (lv' := [(0, .ref (O 0 0)), (1, .int s), (2, .int i), (3, .int k)]) rfl ?_
  have hA : okS (tA v) := hv.1
  have hB : okS (tB v) := hv.2.1
  have hv1 : sM (tA v) ≤ 8 := hA.1
  have hv2 : sS (tA v) ≤ 8 := hA.2
  have hv3 : sM (tB v) ≤ 8 := hB.1
  have hv4 : sS (tB v) ≤ 8 := hB.2
  have hv5 : tN v ≤ 3 := hv.2.2
  refine g_aload_n X 0 dX9_rename_0 rfl ?_
  refine g_iload_n X 1 dX9_rename_1 rfl ?_
  refine g_iload_n X 2 dX9_rename_2 rfl ?_
  refine g_callVr (st2 := [.int (b2i (hasM v s i))]) (q0 := 0) X (c_X9_hasMeeting E O v s i (by first | assumption | omega)) cs_X9_107 rfl [0, 1, 2, 3] [4, 5] 6 rfl (by decide) rfl rfl rfl rfl rfl (Nat.le_of_ble_eq_true rfl) dX9_rename_3 rfl ?_
  refine g_bif_eq (tgt := 18) X dX9_rename_6 (by decide) (fun c_6 => ?_) (fun c_6 => ?_)
  · refine g_iconst (v := (-1)) X dX9_rename_18 rfl ?_
    exact g_iretv (r := (-1)) X hx rfl (by simp [rnV, rnB, rnA, c_6]) (by simp [rnB, rnA, c_6]) dX9_rename_19
  · refine g_iload_n X 3 dX9_rename_9 rfl ?_
    refine g_iconst (v := (nI 0)) X dX9_rename_10 rfl ?_
    refine g_iconst (v := (nI 3)) X dX9_rename_11 rfl ?_
    refine g_callSP (st2 := [.int (b2i (inR k (nI 0) (nI 3)))]) (ws' := [wTS E O, wTw E (O 3 0) (O 4) (O 5) (tR v) (tN v), wSv E (O 4) (tA v), wSv E (O 5) (tB v), wPo E (O 9) (O 17) 8 oa, wPt E (O 17) (Q 0) (Q 1) 8 ta].flatten) (wr := [wTS E O, wTw E (O 3 0) (O 4) (O 5) (tR v) (tN v), wSv E (O 4) (tA v), wSv E (O 5) (tB v), wPo E (O 9) (O 17) 8 oa, wPt E (O 17) (Q 0) (Q 1) 8 ta].flatten) X (c_X9_isWithin E k (nI 0) (nI 3)) cs_X9_140 rfl (List.Perm.refl _) rfl (List.Perm.refl _) rfl rfl (Nat.le_of_ble_eq_true rfl) dX9_rename_12 rfl ?_
    refine g_bif_ne (tgt := 20) X dX9_rename_15 (by decide) (fun c_15 => ?_) (fun c_15 => ?_)
    · rcases hasM_or hv c_6 with ⟨rfl, j, hj, rfl⟩ | ⟨rfl, j, hj, rfl⟩
      · refine g_aload_n X 0 dX9_rename_20 rfl ?_
        refine g_getf (v := .ref (O 3 0)) X fs_X9_74 0 rfl rfl dX9_rename_21 ?_
        refine g_iload_n X 1 dX9_rename_24 rfl ?_
        refine g_callVr (st2 := [.ref ((O 4) 0)]) (q0 := 0) X (c_X6_surveyOf_0 E (O 3 0) (O 4) (O 5) v) cs_X9_92 rfl [1, 2, 3] [0, 4, 5] 6 rfl (by decide) rfl rfl rfl rfl rfl (Nat.le_of_ble_eq_true rfl) dX9_rename_25 rfl ?_
        refine g_astore (lv' := [(4, .ref ((O 4) 0)), (0, .ref (O 0 0)), (1, .int (nI 0)), (2, .int (nI j)), (3, .int k)]) X dX9_rename_28 (by decide) rfl ?_
        refine g_aload X 0 dX9_rename_30 rfl ?_
        refine g_iload_n X 3 dX9_rename_32 rfl ?_
        refine g_callVr (st2 := [.int (sKd (tA v) j)]) (q0 := 0) X (c_X4_kindOf E (O 4) (tA v) j (by first | assumption | omega) (by first | assumption | omega)) cs_X9_111 rfl [2] [0, 1, 3, 4, 5] 6 rfl (by decide) rfl rfl rfl rfl rfl (Nat.le_of_ble_eq_true rfl) dX9_rename_33 rfl ?_
        refine g_istore (lv' := [(5, .int (sKd (tA v) j)), (4, .ref ((O 4) 0)), (0, .ref (O 0 0)), (1, .int (nI 0)), (2, .int (nI j)), (3, .int k)]) X dX9_rename_36 (by decide) rfl ?_
        refine g_iload X 0 dX9_rename_38 rfl ?_
        refine g_iload_n X 5 dX9_rename_40 rfl ?_
        refine g_icmp_ne (tgt := 47) X dX9_rename_41 (by decide) (fun c_41 => ?_) (fun c_41 => ?_)
        · refine g_aload_n X 2 dX9_rename_47 rfl ?_
          refine g_getf (v := .ref (O 9 0)) X fs_X9_35 0 rfl rfl dX9_rename_48 ?_
          refine g_aload_n X 2 dX9_rename_51 rfl ?_
          refine g_getf (v := .ref (O 3 0)) X fs_X9_74 0 rfl rfl dX9_rename_52 ?_
          refine g_callV (st2 := []) (S' := [wTS E O, wTw E (O 3 0) (O 4) (O 5) (tR v) (tN v), wSv E (O 4) (tA v), wSv E (O 5) (tB v), wPo E (O 9) (O 17) 8 (plR oa.1 oa.2 8, plH oa.2 8), wPt E (O 17) (Q 0) (Q 1) 8 (upT ta (plK oa.1 oa.2 8) (tCopy v (ta (plK oa.1 oa.2 8))))]) (q0 := 15) X (c_X1_push E (O 9) (O 17) 8 oa (Q 0) (Q 1) ta (O 3 0) (O 4) (O 5) v (by decide) (by decide) hra hha) cs_X9_144 rfl [1, 2, 3, 4, 5] [0] 6 rfl rfl (by decide) [wTS E O] rfl rfl rfl rfl (by simp only [List.map_cons, List.map_nil, fsPo, fsPt, fsSv, fsTS, fsTw]) rfl rfl rfl rfl (Nat.le_of_ble_eq_true rfl) dX9_rename_55 rfl ?_
          refine g_aload X 1 dX9_rename_58 rfl ?_
          refine g_iload_n X 4 dX9_rename_60 rfl ?_
          refine g_iload_n X 5 dX9_rename_61 rfl ?_
          refine g_callV (st2 := []) (S' := [wTS E O, wTw E (O 3 0) (O 4) (O 5) (tR v) (tN v), wSv E (O 4) (svKind (tA v) j k), wSv E (O 5) (tB v), wPo E (O 9) (O 17) 8 (plR oa.1 oa.2 8, plH oa.2 8), wPt E (O 17) (Q 0) (Q 1) 8 (upT ta (plK oa.1 oa.2 8) (tCopy v (ta (plK oa.1 oa.2 8))))]) (q0 := 0) X (c_X4_setKind E (O 4) (tA v) j k (by first | assumption | omega) (by first | assumption | omega)) cs_X9_151 rfl [2] [0, 1, 3, 4, 5] 6 rfl rfl (by decide) [wTS E O, wTw E (O 3 0) (O 4) (O 5) (tR v) (tN v), wSv E (O 5) (tB v), wPo E (O 9) (O 17) 8 (plR oa.1 oa.2 8, plH oa.2 8), wPt E (O 17) (Q 0) (Q 1) 8 (upT ta (plK oa.1 oa.2 8) (tCopy v (ta (plK oa.1 oa.2 8))))] rfl rfl rfl rfl (by simp only [List.map_cons, List.map_nil, fsPo, fsPt, fsSv, fsTS, fsTw]) rfl rfl rfl rfl (Nat.le_of_ble_eq_true rfl) dX9_rename_62 rfl ?_
          refine g_iload X 0 dX9_rename_65 rfl ?_
          exact g_iretv (r := (sKd (tA v) j)) X hx rfl (by simp [rnV, rnB, rnA, svOf_0, svOf_1, tPut_0, tPut_1, nI_clamp (show j < 2 ^ 31 by omega), nI_eq, c_6, c_15, c_41]) (by simp [rnB, rnA, pushO, pushT, svOf_0, svOf_1, tPut_0, tPut_1, nI_clamp (show j < 2 ^ 31 by omega), nI_eq, c_6, c_15, c_41]) dX9_rename_67
        · refine g_bipush (v := (-2)) X dX9_rename_44 rfl ?_
          exact g_iretv (r := (-2)) X hx rfl (by simp [rnV, rnB, rnA, svOf_0, svOf_1, tPut_0, tPut_1, nI_clamp (show j < 2 ^ 31 by omega), nI_eq, c_6, c_15, c_41]) (by simp [rnB, rnA, pushO, pushT, svOf_0, svOf_1, tPut_0, tPut_1, nI_clamp (show j < 2 ^ 31 by omega), nI_eq, c_6, c_15, c_41]) dX9_rename_46
      · refine g_aload_n X 0 dX9_rename_20 rfl ?_
        refine g_getf (v := .ref (O 3 0)) X fs_X9_74 0 rfl rfl dX9_rename_21 ?_
        refine g_iload_n X 1 dX9_rename_24 rfl ?_
        refine g_callVr (st2 := [.ref ((O 5) 0)]) (q0 := 0) X (c_X6_surveyOf_1 E (O 3 0) (O 4) (O 5) v) cs_X9_92 rfl [1, 2, 3] [0, 4, 5] 6 rfl (by decide) rfl rfl rfl rfl rfl (Nat.le_of_ble_eq_true rfl) dX9_rename_25 rfl ?_
        refine g_astore (lv' := [(4, .ref ((O 5) 0)), (0, .ref (O 0 0)), (1, .int (nI 1)), (2, .int (nI j)), (3, .int k)]) X dX9_rename_28 (by decide) rfl ?_
        refine g_aload X 0 dX9_rename_30 rfl ?_
        refine g_iload_n X 3 dX9_rename_32 rfl ?_
        refine g_callVr (st2 := [.int (sKd (tB v) j)]) (q0 := 0) X (c_X4_kindOf E (O 5) (tB v) j (by first | assumption | omega) (by first | assumption | omega)) cs_X9_111 rfl [3] [0, 1, 2, 4, 5] 6 rfl (by decide) rfl rfl rfl rfl rfl (Nat.le_of_ble_eq_true rfl) dX9_rename_33 rfl ?_
        refine g_istore (lv' := [(5, .int (sKd (tB v) j)), (4, .ref ((O 5) 0)), (0, .ref (O 0 0)), (1, .int (nI 1)), (2, .int (nI j)), (3, .int k)]) X dX9_rename_36 (by decide) rfl ?_
        refine g_iload X 0 dX9_rename_38 rfl ?_
        refine g_iload_n X 5 dX9_rename_40 rfl ?_
        refine g_icmp_ne (tgt := 47) X dX9_rename_41 (by decide) (fun c_41 => ?_) (fun c_41 => ?_)
        · refine g_aload_n X 2 dX9_rename_47 rfl ?_
          refine g_getf (v := .ref (O 9 0)) X fs_X9_35 0 rfl rfl dX9_rename_48 ?_
          refine g_aload_n X 2 dX9_rename_51 rfl ?_
          refine g_getf (v := .ref (O 3 0)) X fs_X9_74 0 rfl rfl dX9_rename_52 ?_
          refine g_callV (st2 := []) (S' := [wTS E O, wTw E (O 3 0) (O 4) (O 5) (tR v) (tN v), wSv E (O 4) (tA v), wSv E (O 5) (tB v), wPo E (O 9) (O 17) 8 (plR oa.1 oa.2 8, plH oa.2 8), wPt E (O 17) (Q 0) (Q 1) 8 (upT ta (plK oa.1 oa.2 8) (tCopy v (ta (plK oa.1 oa.2 8))))]) (q0 := 15) X (c_X1_push E (O 9) (O 17) 8 oa (Q 0) (Q 1) ta (O 3 0) (O 4) (O 5) v (by decide) (by decide) hra hha) cs_X9_144 rfl [1, 2, 3, 4, 5] [0] 6 rfl rfl (by decide) [wTS E O] rfl rfl rfl rfl (by simp only [List.map_cons, List.map_nil, fsPo, fsPt, fsSv, fsTS, fsTw]) rfl rfl rfl rfl (Nat.le_of_ble_eq_true rfl) dX9_rename_55 rfl ?_
          refine g_aload X 1 dX9_rename_58 rfl ?_
          refine g_iload_n X 4 dX9_rename_60 rfl ?_
          refine g_iload_n X 5 dX9_rename_61 rfl ?_
          refine g_callV (st2 := []) (S' := [wTS E O, wTw E (O 3 0) (O 4) (O 5) (tR v) (tN v), wSv E (O 4) (tA v), wSv E (O 5) (svKind (tB v) j k), wPo E (O 9) (O 17) 8 (plR oa.1 oa.2 8, plH oa.2 8), wPt E (O 17) (Q 0) (Q 1) 8 (upT ta (plK oa.1 oa.2 8) (tCopy v (ta (plK oa.1 oa.2 8))))]) (q0 := 0) X (c_X4_setKind E (O 5) (tB v) j k (by first | assumption | omega) (by first | assumption | omega)) cs_X9_151 rfl [3] [0, 1, 2, 4, 5] 6 rfl rfl (by decide) [wTS E O, wTw E (O 3 0) (O 4) (O 5) (tR v) (tN v), wSv E (O 4) (tA v), wPo E (O 9) (O 17) 8 (plR oa.1 oa.2 8, plH oa.2 8), wPt E (O 17) (Q 0) (Q 1) 8 (upT ta (plK oa.1 oa.2 8) (tCopy v (ta (plK oa.1 oa.2 8))))] rfl rfl rfl rfl (by simp only [List.map_cons, List.map_nil, fsPo, fsPt, fsSv, fsTS, fsTw]) rfl rfl rfl rfl (Nat.le_of_ble_eq_true rfl) dX9_rename_62 rfl ?_
          refine g_iload X 0 dX9_rename_65 rfl ?_
          exact g_iretv (r := (sKd (tB v) j)) X hx rfl (by simp [rnV, rnB, rnA, svOf_0, svOf_1, tPut_0, tPut_1, nI_clamp (show j < 2 ^ 31 by omega), nI_eq, c_6, c_15, c_41]) (by simp [rnB, rnA, pushO, pushT, svOf_0, svOf_1, tPut_0, tPut_1, nI_clamp (show j < 2 ^ 31 by omega), nI_eq, c_6, c_15, c_41]) dX9_rename_67
        · refine g_bipush (v := (-2)) X dX9_rename_44 rfl ?_
          exact g_iretv (r := (-2)) X hx rfl (by simp [rnV, rnB, rnA, svOf_0, svOf_1, tPut_0, tPut_1, nI_clamp (show j < 2 ^ 31 by omega), nI_eq, c_6, c_15, c_41]) (by simp [rnB, rnA, pushO, pushT, svOf_0, svOf_1, tPut_0, tPut_1, nI_clamp (show j < 2 ^ 31 by omega), nI_eq, c_6, c_15, c_41]) dX9_rename_46
    · refine g_iconst (v := (-1)) X dX9_rename_18 rfl ?_
      exact g_iretv (r := (-1)) X hx rfl (by simp [rnV, rnB, rnA, c_6, c_15]) (by simp [rnB, rnA, c_6, c_15]) dX9_rename_19
set_option maxHeartbeats 4000000 in
set_option maxRecDepth 100000 in
theorem c_X9_name (E : GE) (O : Nat → Nat → Nat) (Q : Nat → Nat → Nat → Nat) (v : TV) (oa : PO) (ta : Nat → TV) (s : Int32) (i : Int32) (k : Int32) (hv : okT v) (hra : ∀ k, k < 8 → oa.1 k < 8) (hha : oa.2 ≤ 8) : CT E m_X9_name [.ref (O 0 0), .int s, .int i, .int k] ([wTS E O, wTw E (O 3 0) (O 4) (O 5) (tR v) (tN v), wSv E (O 4) (tA v), wSv E (O 5) (tB v), wPo E (O 9) (O 17) 8 oa, wPt E (O 17) (Q 0) (Q 1) 8 ta].flatten) (some (.int (nmV v s i k))) ([wTS E O, wTw E (O 3 0) (O 4) (O 5) (tR (if nmB v s i k then tPut v s (svName (svOf v s) i.toNatClampNeg k) else v)) (tN (if nmB v s i k then tPut v s (svName (svOf v s) i.toNatClampNeg k) else v)), wSv E (O 4) (tA (if nmB v s i k then tPut v s (svName (svOf v s) i.toNatClampNeg k) else v)), wSv E (O 5) (tB (if nmB v s i k then tPut v s (svName (svOf v s) i.toNatClampNeg k) else v)), wPo E (O 9) (O 17) 8 (if nmB v s i k then pushO 8 oa else oa), wPt E (O 17) (Q 0) (Q 1) 8 (if nmB v s i k then pushT 8 oa ta v else ta)].flatten) := by
  refine CT.intro (by decide +kernel) (Nat.le_of_ble_eq_true rfl) (fun Γ X hx => ?_)
  refine GG.lv [0, 1, 2, 3] (lv' := [(0, .ref (O 0 0)), (1, .int s), (2, .int i), (3, .int k)]) rfl ?_
  have hA : okS (tA v) := hv.1
  have hB : okS (tB v) := hv.2.1
  have hv1 : sM (tA v) ≤ 8 := hA.1
  have hv2 : sS (tA v) ≤ 8 := hA.2
  have hv3 : sM (tB v) ≤ 8 := hB.1
  have hv4 : sS (tB v) ≤ 8 := hB.2
  have hv5 : tN v ≤ 3 := hv.2.2
  refine g_aload_n X 0 dX9_name_0 rfl ?_
  refine g_iload_n X 1 dX9_name_1 rfl ?_
  refine g_iload_n X 2 dX9_name_2 rfl ?_
  refine g_callVr (st2 := [.int (b2i (hasS v s i))]) (q0 := 0) X (c_X9_hasStreet E O v s i (by first | assumption | omega)) cs_X9_128 rfl [0, 1, 2, 3] [4, 5] 6 rfl (by decide) rfl rfl rfl rfl rfl (Nat.le_of_ble_eq_true rfl) dX9_name_3 rfl ?_
  refine g_bif_eq (tgt := 19) X dX9_name_6 (by decide) (fun c_6 => ?_) (fun c_6 => ?_)
  · refine g_iconst (v := (-1)) X dX9_name_19 rfl ?_
    exact g_iretv (r := (-1)) X hx rfl (by simp [nmV, nmB, nmA, c_6]) (by simp [nmB, nmA, c_6]) dX9_name_20
  · refine g_iload_n X 3 dX9_name_9 rfl ?_
    refine g_iconst (v := (nI 0)) X dX9_name_10 rfl ?_
    refine g_bipush (v := (nI 9)) X dX9_name_11 rfl ?_
    refine g_callSP (st2 := [.int (b2i (inR k (nI 0) (nI 9)))]) (ws' := [wTS E O, wTw E (O 3 0) (O 4) (O 5) (tR v) (tN v), wSv E (O 4) (tA v), wSv E (O 5) (tB v), wPo E (O 9) (O 17) 8 oa, wPt E (O 17) (Q 0) (Q 1) 8 ta].flatten) (wr := [wTS E O, wTw E (O 3 0) (O 4) (O 5) (tR v) (tN v), wSv E (O 4) (tA v), wSv E (O 5) (tB v), wPo E (O 9) (O 17) 8 oa, wPt E (O 17) (Q 0) (Q 1) 8 ta].flatten) X (c_X9_isWithin E k (nI 0) (nI 9)) cs_X9_140 rfl (List.Perm.refl _) rfl (List.Perm.refl _) rfl rfl (Nat.le_of_ble_eq_true rfl) dX9_name_13 rfl ?_
    refine g_bif_ne (tgt := 21) X dX9_name_16 (by decide) (fun c_16 => ?_) (fun c_16 => ?_)
    · rcases hasS_or hv c_6 with ⟨rfl, j, hj, rfl⟩ | ⟨rfl, j, hj, rfl⟩
      · refine g_aload_n X 0 dX9_name_21 rfl ?_
        refine g_getf (v := .ref (O 3 0)) X fs_X9_74 0 rfl rfl dX9_name_22 ?_
        refine g_iload_n X 1 dX9_name_25 rfl ?_
        refine g_callVr (st2 := [.ref ((O 4) 0)]) (q0 := 0) X (c_X6_surveyOf_0 E (O 3 0) (O 4) (O 5) v) cs_X9_92 rfl [1, 2, 3] [0, 4, 5] 6 rfl (by decide) rfl rfl rfl rfl rfl (Nat.le_of_ble_eq_true rfl) dX9_name_26 rfl ?_
        refine g_astore (lv' := [(4, .ref ((O 4) 0)), (0, .ref (O 0 0)), (1, .int (nI 0)), (2, .int (nI j)), (3, .int k)]) X dX9_name_29 (by decide) rfl ?_
        refine g_aload X 0 dX9_name_31 rfl ?_
        refine g_iload_n X 3 dX9_name_33 rfl ?_
        refine g_callVr (st2 := [.int (sNm (tA v) j)]) (q0 := 0) X (c_X4_nameOf E (O 4) (tA v) j (by first | assumption | omega) (by first | assumption | omega)) cs_X9_137 rfl [2] [0, 1, 3, 4, 5] 6 rfl (by decide) rfl rfl rfl rfl rfl (Nat.le_of_ble_eq_true rfl) dX9_name_34 rfl ?_
        refine g_istore (lv' := [(5, .int (sNm (tA v) j)), (4, .ref ((O 4) 0)), (0, .ref (O 0 0)), (1, .int (nI 0)), (2, .int (nI j)), (3, .int k)]) X dX9_name_37 (by decide) rfl ?_
        refine g_iload X 0 dX9_name_39 rfl ?_
        refine g_iload_n X 5 dX9_name_41 rfl ?_
        refine g_icmp_ne (tgt := 48) X dX9_name_42 (by decide) (fun c_42 => ?_) (fun c_42 => ?_)
        · refine g_aload_n X 2 dX9_name_48 rfl ?_
          refine g_getf (v := .ref (O 9 0)) X fs_X9_35 0 rfl rfl dX9_name_49 ?_
          refine g_aload_n X 2 dX9_name_52 rfl ?_
          refine g_getf (v := .ref (O 3 0)) X fs_X9_74 0 rfl rfl dX9_name_53 ?_
          refine g_callV (st2 := []) (S' := [wTS E O, wTw E (O 3 0) (O 4) (O 5) (tR v) (tN v), wSv E (O 4) (tA v), wSv E (O 5) (tB v), wPo E (O 9) (O 17) 8 (plR oa.1 oa.2 8, plH oa.2 8), wPt E (O 17) (Q 0) (Q 1) 8 (upT ta (plK oa.1 oa.2 8) (tCopy v (ta (plK oa.1 oa.2 8))))]) (q0 := 15) X (c_X1_push E (O 9) (O 17) 8 oa (Q 0) (Q 1) ta (O 3 0) (O 4) (O 5) v (by decide) (by decide) hra hha) cs_X9_144 rfl [1, 2, 3, 4, 5] [0] 6 rfl rfl (by decide) [wTS E O] rfl rfl rfl rfl (by simp only [List.map_cons, List.map_nil, fsPo, fsPt, fsSv, fsTS, fsTw]) rfl rfl rfl rfl (Nat.le_of_ble_eq_true rfl) dX9_name_56 rfl ?_
          refine g_aload X 1 dX9_name_59 rfl ?_
          refine g_iload_n X 4 dX9_name_61 rfl ?_
          refine g_iload_n X 5 dX9_name_62 rfl ?_
          refine g_callV (st2 := []) (S' := [wTS E O, wTw E (O 3 0) (O 4) (O 5) (tR v) (tN v), wSv E (O 4) (svName (tA v) j k), wSv E (O 5) (tB v), wPo E (O 9) (O 17) 8 (plR oa.1 oa.2 8, plH oa.2 8), wPt E (O 17) (Q 0) (Q 1) 8 (upT ta (plK oa.1 oa.2 8) (tCopy v (ta (plK oa.1 oa.2 8))))]) (q0 := 0) X (c_X4_setName E (O 4) (tA v) j k (by first | assumption | omega) (by first | assumption | omega)) cs_X9_155 rfl [2] [0, 1, 3, 4, 5] 6 rfl rfl (by decide) [wTS E O, wTw E (O 3 0) (O 4) (O 5) (tR v) (tN v), wSv E (O 5) (tB v), wPo E (O 9) (O 17) 8 (plR oa.1 oa.2 8, plH oa.2 8), wPt E (O 17) (Q 0) (Q 1) 8 (upT ta (plK oa.1 oa.2 8) (tCopy v (ta (plK oa.1 oa.2 8))))] rfl rfl rfl rfl (by simp only [List.map_cons, List.map_nil, fsPo, fsPt, fsSv, fsTS, fsTw]) rfl rfl rfl rfl (Nat.le_of_ble_eq_true rfl) dX9_name_63 rfl ?_
          refine g_iload X 0 dX9_name_66 rfl ?_
          exact g_iretv (r := (sNm (tA v) j)) X hx rfl (by simp [nmV, nmB, nmA, svOf_0, svOf_1, tPut_0, tPut_1, nI_clamp (show j < 2 ^ 31 by omega), nI_eq, c_6, c_16, c_42]) (by simp [nmB, nmA, pushO, pushT, svOf_0, svOf_1, tPut_0, tPut_1, nI_clamp (show j < 2 ^ 31 by omega), nI_eq, c_6, c_16, c_42]) dX9_name_68
        · refine g_bipush (v := (-2)) X dX9_name_45 rfl ?_
          exact g_iretv (r := (-2)) X hx rfl (by simp [nmV, nmB, nmA, svOf_0, svOf_1, tPut_0, tPut_1, nI_clamp (show j < 2 ^ 31 by omega), nI_eq, c_6, c_16, c_42]) (by simp [nmB, nmA, pushO, pushT, svOf_0, svOf_1, tPut_0, tPut_1, nI_clamp (show j < 2 ^ 31 by omega), nI_eq, c_6, c_16, c_42]) dX9_name_47
      · refine g_aload_n X 0 dX9_name_21 rfl ?_
        refine g_getf (v := .ref (O 3 0)) X fs_X9_74 0 rfl rfl dX9_name_22 ?_
        refine g_iload_n X 1 dX9_name_25 rfl ?_
        refine g_callVr (st2 := [.ref ((O 5) 0)]) (q0 := 0) X (c_X6_surveyOf_1 E (O 3 0) (O 4) (O 5) v) cs_X9_92 rfl [1, 2, 3] [0, 4, 5] 6 rfl (by decide) rfl rfl rfl rfl rfl (Nat.le_of_ble_eq_true rfl) dX9_name_26 rfl ?_
        refine g_astore (lv' := [(4, .ref ((O 5) 0)), (0, .ref (O 0 0)), (1, .int (nI 1)), (2, .int (nI j)), (3, .int k)]) X dX9_name_29 (by decide) rfl ?_
        refine g_aload X 0 dX9_name_31 rfl ?_
        refine g_iload_n X 3 dX9_name_33 rfl ?_
        refine g_callVr (st2 := [.int (sNm (tB v) j)]) (q0 := 0) X (c_X4_nameOf E (O 5) (tB v) j (by first | assumption | omega) (by first | assumption | omega)) cs_X9_137 rfl [3] [0, 1, 2, 4, 5] 6 rfl (by decide) rfl rfl rfl rfl rfl (Nat.le_of_ble_eq_true rfl) dX9_name_34 rfl ?_
        refine g_istore (lv' := [(5, .int (sNm (tB v) j)), (4, .ref ((O 5) 0)), (0, .ref (O 0 0)), (1, .int (nI 1)), (2, .int (nI j)), (3, .int k)]) X dX9_name_37 (by decide) rfl ?_
        refine g_iload X 0 dX9_name_39 rfl ?_
        refine g_iload_n X 5 dX9_name_41 rfl ?_
        refine g_icmp_ne (tgt := 48) X dX9_name_42 (by decide) (fun c_42 => ?_) (fun c_42 => ?_)
        · refine g_aload_n X 2 dX9_name_48 rfl ?_
          refine g_getf (v := .ref (O 9 0)) X fs_X9_35 0 rfl rfl dX9_name_49 ?_
          refine g_aload_n X 2 dX9_name_52 rfl ?_
          refine g_getf (v := .ref (O 3 0)) X fs_X9_74 0 rfl rfl dX9_name_53 ?_
          refine g_callV (st2 := []) (S' := [wTS E O, wTw E (O 3 0) (O 4) (O 5) (tR v) (tN v), wSv E (O 4) (tA v), wSv E (O 5) (tB v), wPo E (O 9) (O 17) 8 (plR oa.1 oa.2 8, plH oa.2 8), wPt E (O 17) (Q 0) (Q 1) 8 (upT ta (plK oa.1 oa.2 8) (tCopy v (ta (plK oa.1 oa.2 8))))]) (q0 := 15) X (c_X1_push E (O 9) (O 17) 8 oa (Q 0) (Q 1) ta (O 3 0) (O 4) (O 5) v (by decide) (by decide) hra hha) cs_X9_144 rfl [1, 2, 3, 4, 5] [0] 6 rfl rfl (by decide) [wTS E O] rfl rfl rfl rfl (by simp only [List.map_cons, List.map_nil, fsPo, fsPt, fsSv, fsTS, fsTw]) rfl rfl rfl rfl (Nat.le_of_ble_eq_true rfl) dX9_name_56 rfl ?_
          refine g_aload X 1 dX9_name_59 rfl ?_
          refine g_iload_n X 4 dX9_name_61 rfl ?_
          refine g_iload_n X 5 dX9_name_62 rfl ?_
          refine g_callV (st2 := []) (S' := [wTS E O, wTw E (O 3 0) (O 4) (O 5) (tR v) (tN v), wSv E (O 4) (tA v), wSv E (O 5) (svName (tB v) j k), wPo E (O 9) (O 17) 8 (plR oa.1 oa.2 8, plH oa.2 8), wPt E (O 17) (Q 0) (Q 1) 8 (upT ta (plK oa.1 oa.2 8) (tCopy v (ta (plK oa.1 oa.2 8))))]) (q0 := 0) X (c_X4_setName E (O 5) (tB v) j k (by first | assumption | omega) (by first | assumption | omega)) cs_X9_155 rfl [3] [0, 1, 2, 4, 5] 6 rfl rfl (by decide) [wTS E O, wTw E (O 3 0) (O 4) (O 5) (tR v) (tN v), wSv E (O 4) (tA v), wPo E (O 9) (O 17) 8 (plR oa.1 oa.2 8, plH oa.2 8), wPt E (O 17) (Q 0) (Q 1) 8 (upT ta (plK oa.1 oa.2 8) (tCopy v (ta (plK oa.1 oa.2 8))))] rfl rfl rfl rfl (by simp only [List.map_cons, List.map_nil, fsPo, fsPt, fsSv, fsTS, fsTw]) rfl rfl rfl rfl (Nat.le_of_ble_eq_true rfl) dX9_name_63 rfl ?_
          refine g_iload X 0 dX9_name_66 rfl ?_
          exact g_iretv (r := (sNm (tB v) j)) X hx rfl (by simp [nmV, nmB, nmA, svOf_0, svOf_1, tPut_0, tPut_1, nI_clamp (show j < 2 ^ 31 by omega), nI_eq, c_6, c_16, c_42]) (by simp [nmB, nmA, pushO, pushT, svOf_0, svOf_1, tPut_0, tPut_1, nI_clamp (show j < 2 ^ 31 by omega), nI_eq, c_6, c_16, c_42]) dX9_name_68
        · refine g_bipush (v := (-2)) X dX9_name_45 rfl ?_
          exact g_iretv (r := (-2)) X hx rfl (by simp [nmV, nmB, nmA, svOf_0, svOf_1, tPut_0, tPut_1, nI_clamp (show j < 2 ^ 31 by omega), nI_eq, c_6, c_16, c_42]) (by simp [nmB, nmA, pushO, pushT, svOf_0, svOf_1, tPut_0, tPut_1, nI_clamp (show j < 2 ^ 31 by omega), nI_eq, c_6, c_16, c_42]) dX9_name_47
    · refine g_iconst (v := (-1)) X dX9_name_19 rfl ?_
      exact g_iretv (r := (-1)) X hx rfl (by simp [nmV, nmB, nmA, c_6, c_16]) (by simp [nmB, nmA, c_6, c_16]) dX9_name_20
set_option maxHeartbeats 4000000 in
set_option maxRecDepth 100000 in
theorem c_X9_undo (E : GE) (O : Nat → Nat → Nat) (Q : Nat → Nat → Nat → Nat) (v : TV) (oa : PO) (ta : Nat → TV) (hv : okT v) (hra : ∀ k, k < 8 → oa.1 k < 8) (hha : oa.2 ≤ 8) : CT E m_X9_undo [.ref (O 0 0)] ([wTS E O, wTw E (O 3 0) (O 4) (O 5) (tR v) (tN v), wSv E (O 4) (tA v), wSv E (O 5) (tB v), wPo E (O 9) (O 17) 8 oa, wPt E (O 17) (Q 0) (Q 1) 8 ta].flatten) (some (.int (if 0 < oa.2 then nI (oa.2 - 1) else -2))) ([wTS E O, wTw E (O 3 0) (O 4) (O 5) (tR (if 0 < oa.2 then tCopy (ta (oa.1 (oa.2 - 1))) v else v)) (tN (if 0 < oa.2 then tCopy (ta (oa.1 (oa.2 - 1))) v else v)), wSv E (O 4) (tA (if 0 < oa.2 then tCopy (ta (oa.1 (oa.2 - 1))) v else v)), wSv E (O 5) (tB (if 0 < oa.2 then tCopy (ta (oa.1 (oa.2 - 1))) v else v)), wPo E (O 9) (O 17) 8 (oa.1, oa.2 - 1), wPt E (O 17) (Q 0) (Q 1) 8 ta].flatten) := by
  refine CT.intro (by decide +kernel) (Nat.le_of_ble_eq_true rfl) (fun Γ X hx => ?_)
  refine GG.lv [0] (lv' := [(0, .ref (O 0 0))]) rfl ?_
  refine g_aload_n X 0 dX9_undo_0 rfl ?_
  refine g_getf (v := .ref (O 9 0)) X fs_X9_35 0 rfl rfl dX9_undo_1 ?_
  refine g_aload_n X 0 dX9_undo_4 rfl ?_
  refine g_getf (v := .ref (O 3 0)) X fs_X9_74 0 rfl rfl dX9_undo_5 ?_
  refine g_callV (st2 := [.int (b2i (decide (0 < oa.2)))]) (S' := [wTS E O, wTw E (O 3 0) (O 4) (O 5) (tR (if 0 < oa.2 then tCopy (ta (oa.1 (oa.2 - 1))) v else v)) (tN (if 0 < oa.2 then tCopy (ta (oa.1 (oa.2 - 1))) v else v)), wSv E (O 4) (tA (if 0 < oa.2 then tCopy (ta (oa.1 (oa.2 - 1))) v else v)), wSv E (O 5) (tB (if 0 < oa.2 then tCopy (ta (oa.1 (oa.2 - 1))) v else v)), wPo E (O 9) (O 17) 8 (oa.1, oa.2 - 1), wPt E (O 17) (Q 0) (Q 1) 8 ta]) (q0 := 15) X (c_X1_pop E (O 9) (O 17) 8 oa (Q 0) (Q 1) ta (O 3 0) (O 4) (O 5) v (by decide) (by decide) hra hha) cs_X9_188 rfl [1, 2, 3, 4, 5] [0] 6 rfl rfl (by decide) [wTS E O] rfl rfl rfl rfl (by simp only [List.map_cons, List.map_nil, fsPo, fsPt, fsSv, fsTS, fsTw]) rfl rfl rfl rfl (Nat.le_of_ble_eq_true rfl) dX9_undo_8 rfl ?_
  refine g_bif_eq (tgt := 24) X dX9_undo_11 (by decide) (fun c_11 => ?_) (fun c_11 => ?_)
  · refine g_bipush (v := (-2)) X dX9_undo_24 rfl ?_
    exact g_iretv (r := (-2)) X hx rfl (by simp at c_11; simp [c_11]) (by rfl) dX9_undo_26
  · refine g_aload_n X 0 dX9_undo_14 rfl ?_
    refine g_getf (v := .ref (O 9 0)) X fs_X9_35 0 rfl rfl dX9_undo_15 ?_
    refine g_callVr (st2 := [.int (nI (oa.2 - 1))]) (q0 := 0) X (c_X1_height E (O 9) (O 17) 8 (oa.1, oa.2 - 1)) cs_X9_192 rfl [4] [0, 1, 2, 3, 5] 6 rfl (by decide) rfl rfl rfl rfl rfl (Nat.le_of_ble_eq_true rfl) dX9_undo_18 rfl ?_
    refine g_goto (tgt := 26) X dX9_undo_21 (by decide) ?_
    exact g_iretv (r := (nI (oa.2 - 1))) X hx rfl (by simp at c_11; simp [c_11]) (by rfl) dX9_undo_26
set_option maxHeartbeats 4000000 in
set_option maxRecDepth 100000 in
theorem c_X9_shelf (E : GE) (O : Nat → Nat → Nat) (f : Nat → Int32) (s : Int32) (p : Int32) : CT E m_X9_shelf [.ref (O 0 0), .int s, .int p] ([wTS E O, wSh E (O 11) f].flatten) (some (.int (sfV f s p))) ([wTS E O, wSh E (O 11) f].flatten) := by
  refine CT.intro (by decide +kernel) (Nat.le_of_ble_eq_true rfl) (fun Γ X hx => ?_)
  refine GG.lv [0, 1, 2] (lv' := [(0, .ref (O 0 0)), (1, .int s), (2, .int p)]) rfl ?_
  refine g_aload_n X 0 dX9_shelf_0 rfl ?_
  refine g_getf (v := .ref (O 11 0)) X fs_X9_45 0 rfl rfl dX9_shelf_1 ?_
  refine g_iload_n X 1 dX9_shelf_4 rfl ?_
  refine g_iload_n X 2 dX9_shelf_5 rfl ?_
  refine g_callVr (st2 := [.int (b2i (inR s (nI 0) (nI 2) && inR p (nI 0) (nI 3)))]) (q0 := 0) X (c_X3_hasPlace E (O 11) f s p) cs_X9_244 rfl [1] [0] 2 rfl (by decide) rfl rfl rfl rfl rfl (Nat.le_of_ble_eq_true rfl) dX9_shelf_6 rfl ?_
  refine g_bif_eq (tgt := 24) X dX9_shelf_9 (by decide) (fun c_9 => ?_) (fun c_9 => ?_)
  · refine g_iconst (v := (-1)) X dX9_shelf_24 rfl ?_
    exact g_iretv (r := (-1)) X hx rfl (by simp [sfV, c_9]) (by rfl) dX9_shelf_25
  · obtain ⟨q1, q2⟩ := Bool.and_eq_true_iff.mp c_9
    obtain ⟨s1, hs1, rfl⟩ := inR_nI q1 (by decide)
    obtain ⟨p1, hp1, rfl⟩ := inR_nI q2 (by decide)
    refine g_aload_n X 0 dX9_shelf_12 rfl ?_
    refine g_getf (v := .ref (O 11 0)) X fs_X9_45 0 rfl rfl dX9_shelf_13 ?_
    refine g_iload_n X 1 dX9_shelf_16 rfl ?_
    refine g_iload_n X 2 dX9_shelf_17 rfl ?_
    refine g_callVr (st2 := [.int (f (s1 * 4 + p1))]) (q0 := 0) X (c_X3_thingAt E (O 11) f s1 p1 (by first | assumption | omega) (by first | assumption | omega)) cs_X9_254 rfl [1] [0] 2 rfl (by decide) rfl rfl rfl rfl rfl (Nat.le_of_ble_eq_true rfl) dX9_shelf_18 rfl ?_
    refine g_goto (tgt := 25) X dX9_shelf_21 (by decide) ?_
    exact g_iretv (r := (f (s1 * 4 + p1))) X hx rfl (by simp [sfV, c_9, nI_clamp (show s1 < 2 ^ 31 by omega), nI_clamp (show p1 < 2 ^ 31 by omega)]) (by rfl) dX9_shelf_25
set_option maxHeartbeats 4000000 in
set_option maxRecDepth 100000 in
theorem c_X9_count (E : GE) (O : Nat → Nat → Nat) (v : TV) (w : (Nat → Int32) × Nat) (f : Nat → Int32) (oa : PO) (ok : PO) (q : Int32) : CT E m_X9_count [.ref (O 0 0), .int q] ([wTS E O, wTw E (O 3 0) (O 4) (O 5) (tR v) (tN v), wSv E (O 4) (tA v), wSv E (O 5) (tB v), wTx E (O 1) w, wSh E (O 11) f, wPo E (O 9) (O 17) 8 oa, wPo E (O 10) (O 18) 2 ok].flatten) (some (.int (coV v oa ok w f q))) ([wTS E O, wTw E (O 3 0) (O 4) (O 5) (tR v) (tN v), wSv E (O 4) (tA v), wSv E (O 5) (tB v), wTx E (O 1) w, wSh E (O 11) f, wPo E (O 9) (O 17) 8 oa, wPo E (O 10) (O 18) 2 ok].flatten) := by
  refine CT.intro (by decide +kernel) (Nat.le_of_ble_eq_true rfl) (fun Γ X hx => ?_)
  refine GG.lv [0, 1] (lv' := [(0, .ref (O 0 0)), (1, .int q)]) rfl ?_
  refine g_iload_n X 1 dX9_count_0 rfl ?_
  by_cases w_1_0 : q = nI 0
  · subst w_1_0
    refine g_tsIn (tgt := 56) X 0 dX9_count_1 rfl (by decide) (by decide) rfl (by decide) ?_
    refine g_aload_n X 0 dX9_count_56 rfl ?_
    refine g_getf (v := .ref (O 3 0)) X fs_X9_74 0 rfl rfl dX9_count_57 ?_
    refine g_iconst (v := (nI 0)) X dX9_count_60 rfl ?_
    refine g_callVr (st2 := [.ref ((O 4) 0)]) (q0 := 0) X (c_X6_surveyOf_0 E (O 3 0) (O 4) (O 5) v) cs_X9_92 rfl [1, 2, 3] [0, 4, 5, 6, 7] 8 rfl (by decide) rfl rfl rfl rfl rfl (Nat.le_of_ble_eq_true rfl) dX9_count_61 rfl ?_
    refine g_callVr (st2 := [.int (nI (sM (tA v)))]) (q0 := 0) X (c_X4_meetings E (O 4) (tA v)) cs_X9_96 rfl [2] [0, 1, 3, 4, 5, 6, 7] 8 rfl (by decide) rfl rfl rfl rfl rfl (Nat.le_of_ble_eq_true rfl) dX9_count_64 rfl ?_
    exact g_iretv (r := (nI (sM (tA v)))) X hx rfl (by simp [coV, nI_eq]) (by rfl) dX9_count_67
  by_cases w_1_1 : q = nI 1
  · subst w_1_1
    refine g_tsIn (tgt := 68) X 1 dX9_count_1 rfl (by decide) (by decide) rfl (by decide) ?_
    refine g_aload_n X 0 dX9_count_68 rfl ?_
    refine g_getf (v := .ref (O 3 0)) X fs_X9_74 0 rfl rfl dX9_count_69 ?_
    refine g_iconst (v := (nI 1)) X dX9_count_72 rfl ?_
    refine g_callVr (st2 := [.ref ((O 5) 0)]) (q0 := 0) X (c_X6_surveyOf_1 E (O 3 0) (O 4) (O 5) v) cs_X9_92 rfl [1, 2, 3] [0, 4, 5, 6, 7] 8 rfl (by decide) rfl rfl rfl rfl rfl (Nat.le_of_ble_eq_true rfl) dX9_count_73 rfl ?_
    refine g_callVr (st2 := [.int (nI (sM (tB v)))]) (q0 := 0) X (c_X4_meetings E (O 5) (tB v)) cs_X9_96 rfl [3] [0, 1, 2, 4, 5, 6, 7] 8 rfl (by decide) rfl rfl rfl rfl rfl (Nat.le_of_ble_eq_true rfl) dX9_count_76 rfl ?_
    exact g_iretv (r := (nI (sM (tB v)))) X hx rfl (by simp [coV, nI_eq]) (by rfl) dX9_count_79
  by_cases w_1_2 : q = nI 2
  · subst w_1_2
    refine g_tsIn (tgt := 80) X 2 dX9_count_1 rfl (by decide) (by decide) rfl (by decide) ?_
    refine g_aload_n X 0 dX9_count_80 rfl ?_
    refine g_getf (v := .ref (O 3 0)) X fs_X9_74 0 rfl rfl dX9_count_81 ?_
    refine g_iconst (v := (nI 0)) X dX9_count_84 rfl ?_
    refine g_callVr (st2 := [.ref ((O 4) 0)]) (q0 := 0) X (c_X6_surveyOf_0 E (O 3 0) (O 4) (O 5) v) cs_X9_92 rfl [1, 2, 3] [0, 4, 5, 6, 7] 8 rfl (by decide) rfl rfl rfl rfl rfl (Nat.le_of_ble_eq_true rfl) dX9_count_85 rfl ?_
    refine g_callVr (st2 := [.int (nI (sS (tA v)))]) (q0 := 0) X (c_X4_streets E (O 4) (tA v)) cs_X9_161 rfl [2] [0, 1, 3, 4, 5, 6, 7] 8 rfl (by decide) rfl rfl rfl rfl rfl (Nat.le_of_ble_eq_true rfl) dX9_count_88 rfl ?_
    exact g_iretv (r := (nI (sS (tA v)))) X hx rfl (by simp [coV, nI_eq]) (by rfl) dX9_count_91
  by_cases w_1_3 : q = nI 3
  · subst w_1_3
    refine g_tsIn (tgt := 92) X 3 dX9_count_1 rfl (by decide) (by decide) rfl (by decide) ?_
    refine g_aload_n X 0 dX9_count_92 rfl ?_
    refine g_getf (v := .ref (O 3 0)) X fs_X9_74 0 rfl rfl dX9_count_93 ?_
    refine g_iconst (v := (nI 1)) X dX9_count_96 rfl ?_
    refine g_callVr (st2 := [.ref ((O 5) 0)]) (q0 := 0) X (c_X6_surveyOf_1 E (O 3 0) (O 4) (O 5) v) cs_X9_92 rfl [1, 2, 3] [0, 4, 5, 6, 7] 8 rfl (by decide) rfl rfl rfl rfl rfl (Nat.le_of_ble_eq_true rfl) dX9_count_97 rfl ?_
    refine g_callVr (st2 := [.int (nI (sS (tB v)))]) (q0 := 0) X (c_X4_streets E (O 5) (tB v)) cs_X9_161 rfl [3] [0, 1, 2, 4, 5, 6, 7] 8 rfl (by decide) rfl rfl rfl rfl rfl (Nat.le_of_ble_eq_true rfl) dX9_count_100 rfl ?_
    exact g_iretv (r := (nI (sS (tB v)))) X hx rfl (by simp [coV, nI_eq]) (by rfl) dX9_count_103
  by_cases w_1_4 : q = nI 4
  · subst w_1_4
    refine g_tsIn (tgt := 104) X 4 dX9_count_1 rfl (by decide) (by decide) rfl (by decide) ?_
    refine g_aload_n X 0 dX9_count_104 rfl ?_
    refine g_getf (v := .ref (O 3 0)) X fs_X9_74 0 rfl rfl dX9_count_105 ?_
    refine g_callVr (st2 := [.int (tR v)]) (q0 := 0) X (c_X6_radius E (O 3 0) (O 4) (O 5) v) cs_X9_176 rfl [1, 2, 3] [0, 4, 5, 6, 7] 8 rfl (by decide) rfl rfl rfl rfl rfl (Nat.le_of_ble_eq_true rfl) dX9_count_108 rfl ?_
    exact g_iretv (r := (tR v)) X hx rfl (by simp [coV, nI_eq]) (by rfl) dX9_count_111
  by_cases w_1_5 : q = nI 5
  · subst w_1_5
    refine g_tsIn (tgt := 112) X 5 dX9_count_1 rfl (by decide) (by decide) rfl (by decide) ?_
    refine g_aload_n X 0 dX9_count_112 rfl ?_
    refine g_getf (v := .ref (O 3 0)) X fs_X9_74 0 rfl rfl dX9_count_113 ?_
    refine g_callVr (st2 := [.int (nI (tN v))]) (q0 := 0) X (c_X6_rounds E (O 3 0) (O 4) (O 5) v) cs_X9_179 rfl [1, 2, 3] [0, 4, 5, 6, 7] 8 rfl (by decide) rfl rfl rfl rfl rfl (Nat.le_of_ble_eq_true rfl) dX9_count_116 rfl ?_
    exact g_iretv (r := (nI (tN v))) X hx rfl (by simp [coV, nI_eq]) (by rfl) dX9_count_119
  by_cases w_1_6 : q = nI 6
  · subst w_1_6
    refine g_tsIn (tgt := 120) X 6 dX9_count_1 rfl (by decide) (by decide) rfl (by decide) ?_
    refine g_aload_n X 0 dX9_count_120 rfl ?_
    refine g_getf (v := .ref (O 9 0)) X fs_X9_35 0 rfl rfl dX9_count_121 ?_
    refine g_callVr (st2 := [.int (nI oa.2)]) (q0 := 0) X (c_X1_height E (O 9) (O 17) 8 oa) cs_X9_192 rfl [6] [0, 1, 2, 3, 4, 5, 7] 8 rfl (by decide) rfl rfl rfl rfl rfl (Nat.le_of_ble_eq_true rfl) dX9_count_124 rfl ?_
    exact g_iretv (r := (nI oa.2)) X hx rfl (by simp [coV, nI_eq]) (by rfl) dX9_count_127
  by_cases w_1_7 : q = nI 7
  · subst w_1_7
    refine g_tsIn (tgt := 128) X 7 dX9_count_1 rfl (by decide) (by decide) rfl (by decide) ?_
    refine g_aload_n X 0 dX9_count_128 rfl ?_
    refine g_getf (v := .ref (O 10 0)) X fs_X9_39 0 rfl rfl dX9_count_129 ?_
    refine g_callVr (st2 := [.int (nI ok.2)]) (q0 := 0) X (c_X1_height E (O 10) (O 18) 2 ok) cs_X9_192 rfl [7] [0, 1, 2, 3, 4, 5, 6] 8 rfl (by decide) rfl rfl rfl rfl rfl (Nat.le_of_ble_eq_true rfl) dX9_count_132 rfl ?_
    exact g_iretv (r := (nI ok.2)) X hx rfl (by simp [coV, nI_eq]) (by rfl) dX9_count_135
  by_cases w_1_8 : q = nI 8
  · subst w_1_8
    refine g_tsIn (tgt := 136) X 8 dX9_count_1 rfl (by decide) (by decide) rfl (by decide) ?_
    refine g_aload_n X 0 dX9_count_136 rfl ?_
    refine g_getf (v := .ref (O 1 0)) X fs_X9_10 0 rfl rfl dX9_count_137 ?_
    refine g_callVr (st2 := [.int (nI w.2)]) (q0 := 0) X (c_X5_length E (O 1) w) cs_X9_81 rfl [4] [0, 1, 2, 3, 5, 6, 7] 8 rfl (by decide) rfl rfl rfl rfl rfl (Nat.le_of_ble_eq_true rfl) dX9_count_140 rfl ?_
    exact g_iretv (r := (nI w.2)) X hx rfl (by simp [coV, nI_eq]) (by rfl) dX9_count_143
  by_cases w_1_9 : q = nI 9
  · subst w_1_9
    refine g_tsIn (tgt := 144) X 9 dX9_count_1 rfl (by decide) (by decide) rfl (by decide) ?_
    refine g_aload_n X 0 dX9_count_144 rfl ?_
    refine g_getf (v := .ref (O 11 0)) X fs_X9_45 0 rfl rfl dX9_count_145 ?_
    refine g_callVr (st2 := [.int (nI (cntB (fun k => decide (¬ f k = -4)) 12))]) (q0 := 0) X (c_X3_things E (O 11) f) cs_X9_261 rfl [5] [0, 1, 2, 3, 4, 6, 7] 8 rfl (by decide) rfl rfl rfl rfl rfl (Nat.le_of_ble_eq_true rfl) dX9_count_148 rfl ?_
    exact g_iretv (r := (nI (cntB (fun k => decide (¬ f k = -4)) 12))) X hx rfl (by simp [coV, nI_eq]) (by rfl) dX9_count_151
  refine g_tsOut (tgt := 152) X dX9_count_1 (by have t0 := lv_neT w_1_0 (a := 0) rfl; have t1 := lv_neT w_1_1 (a := 1) rfl; have t2 := lv_neT w_1_2 (a := 2) rfl; have t3 := lv_neT w_1_3 (a := 3) rfl; have t4 := lv_neT w_1_4 (a := 4) rfl; have t5 := lv_neT w_1_5 (a := 5) rfl; have t6 := lv_neT w_1_6 (a := 6) rfl; have t7 := lv_neT w_1_7 (a := 7) rfl; have t8 := lv_neT w_1_8 (a := 8) rfl; have t9 := lv_neT w_1_9 (a := 9) rfl; omega) (by decide) ?_
  refine g_iconst (v := (-1)) X dX9_count_152 rfl ?_
  exact g_iretv (r := (-1)) X hx rfl (by simp [coV, nI_eq, w_1_0, w_1_1, w_1_2, w_1_3, w_1_4, w_1_5, w_1_6, w_1_7, w_1_8, w_1_9]) (by rfl) dX9_count_153
