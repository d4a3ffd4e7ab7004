set_option maxHeartbeats 4000000 in
set_option maxRecDepth 100000 in
theorem c_X9_isWithin (E : GE) (x : Int32) (lo : Int32) (hi : Int32) : CT E m_X9_isWithin [.int x, .int lo, .int hi] ([]) (some (.int (b2i (inR x lo hi)))) ([]) := by
  refine CT.intro (by decide +kernel) (Nat.le_of_ble_eq_true rfl) (fun Γ X hx => ?_)
  refine GG.lv [0, 1, 2] (lv' := [(0, .int x), (1, .int lo), (2, .int hi)]) rfl ?_
  refine g_iload_n X 0 dX9_isWithin_0 rfl ?_
  refine g_iload_n X 1 dX9_isWithin_1 rfl ?_
  refine g_icmp_lt (tgt := 14) X dX9_isWithin_2 (by decide) (fun c_2 => ?_) (fun c_2 => ?_)
  · refine g_iconst (v := (nI 0)) X dX9_isWithin_14 rfl ?_
    exact g_zretv (r := (nI 0)) X hx rfl (by simp [inR, b2i, c_2]; try rfl) (by rfl) dX9_isWithin_15
  · refine g_iload_n X 0 dX9_isWithin_5 rfl ?_
    refine g_iload_n X 2 dX9_isWithin_6 rfl ?_
    refine g_icmp_gt (tgt := 14) X dX9_isWithin_7 (by decide) (fun c_7 => ?_) (fun c_7 => ?_)
    · refine g_iconst (v := (nI 0)) X dX9_isWithin_14 rfl ?_
      exact g_zretv (r := (nI 0)) X hx rfl (by simp [inR, b2i, c_2, c_7]; try rfl) (by rfl) dX9_isWithin_15
    · refine g_iconst (v := (nI 1)) X dX9_isWithin_10 rfl ?_
      refine g_goto (tgt := 15) X dX9_isWithin_11 (by decide) ?_
      exact g_zretv (r := (nI 1)) X hx rfl (by simp [inR, b2i, c_2, c_7]; try rfl) (by rfl) dX9_isWithin_15
set_option maxHeartbeats 4000000 in
set_option maxRecDepth 100000 in
theorem c_X9_isRadius (E : GE) (x : Int32) : CT E m_X9_isRadius [.int x] ([]) (some (.int (b2i (inR x (nI 1) (nI 20))))) ([]) := by
  refine CT.intro (by decide +kernel) (Nat.le_of_ble_eq_true rfl) (fun Γ X hx => ?_)
  refine GG.lv [0] (lv' := [(0, .int x)]) rfl ?_
  refine g_iload_n X 0 dX9_isRadius_0 rfl ?_
  refine g_iconst (v := (nI 1)) X dX9_isRadius_1 rfl ?_
  refine g_icmp_lt (tgt := 15) X dX9_isRadius_2 (by decide) (fun c_2 => ?_) (fun c_2 => ?_)
  · refine g_iconst (v := (nI 0)) X dX9_isRadius_15 rfl ?_
    exact g_zretv (r := (nI 0)) X hx rfl (by simp [inR, b2i, c_2]; try rfl) (by rfl) dX9_isRadius_16
  · refine g_iload_n X 0 dX9_isRadius_5 rfl ?_
    refine g_bipush (v := (nI 20)) X dX9_isRadius_6 rfl ?_
    refine g_icmp_gt (tgt := 15) X dX9_isRadius_8 (by decide) (fun c_8 => ?_) (fun c_8 => ?_)
    · refine g_iconst (v := (nI 0)) X dX9_isRadius_15 rfl ?_
      exact g_zretv (r := (nI 0)) X hx rfl (by simp [inR, b2i, c_2, c_8]; try rfl) (by rfl) dX9_isRadius_16
    · refine g_iconst (v := (nI 1)) X dX9_isRadius_11 rfl ?_
      refine g_goto (tgt := 16) X dX9_isRadius_12 (by decide) ?_
      exact g_zretv (r := (nI 1)) X hx rfl (by simp [inR, b2i, c_2, c_8]; try rfl) (by rfl) dX9_isRadius_16
set_option maxHeartbeats 4000000 in
set_option maxRecDepth 100000 in
theorem c_X4_meetings (E : GE) (a : Nat → Nat) (v : SV) : CT E m_X4_meetings [.ref (a 0)] ([wSv E a v].flatten) (some (.int (nI (sM v)))) ([wSv E a v].flatten) := by
  refine CT.intro (by decide +kernel) (Nat.le_of_ble_eq_true rfl) (fun Γ X hx => ?_)
  refine GG.lv [0] (lv' := [(0, .ref (a 0))]) rfl ?_
  refine g_aload_n X 0 dX4_meetings_0 rfl ?_
  refine g_getf (v := .int (nI (sM v))) X fs_X4_30 0 rfl rfl dX4_meetings_1 ?_
  exact g_iretv (r := (nI (sM v))) X hx rfl (by rfl) (by rfl) dX4_meetings_4
set_option maxHeartbeats 4000000 in
set_option maxRecDepth 100000 in
theorem c_X4_streets (E : GE) (a : Nat → Nat) (v : SV) : CT E m_X4_streets [.ref (a 0)] ([wSv E a v].flatten) (some (.int (nI (sS v)))) ([wSv E a v].flatten) := by
  refine CT.intro (by decide +kernel) (Nat.le_of_ble_eq_true rfl) (fun Γ X hx => ?_)
  refine GG.lv [0] (lv' := [(0, .ref (a 0))]) rfl ?_
  refine g_aload_n X 0 dX4_streets_0 rfl ?_
  refine g_getf (v := .int (nI (sS v))) X fs_X4_34 0 rfl rfl dX4_streets_1 ?_
  exact g_iretv (r := (nI (sS v))) X hx rfl (by rfl) (by rfl) dX4_streets_4
set_option maxHeartbeats 4000000 in
set_option maxRecDepth 100000 in
theorem c_X4_hasMeeting (E : GE) (a : Nat → Nat) (v : SV) (i : Int32) : CT E m_X4_hasMeeting [.ref (a 0), .int i] ([wSv E a v].flatten) (some (.int (b2i (hasN (sM v) i)))) ([wSv E a v].flatten) := by
  refine CT.intro (by decide +kernel) (Nat.le_of_ble_eq_true rfl) (fun Γ X hx => ?_)
  refine GG.lv [0, 1] (lv' := [(0, .ref (a 0)), (1, .int i)]) rfl ?_
  refine g_iload_n X 1 dX4_hasMeeting_0 rfl ?_
  refine g_if_lt (tgt := 16) X dX4_hasMeeting_1 (by decide) (fun c_1 => ?_) (fun c_1 => ?_)
  · refine g_iconst (v := (nI 0)) X dX4_hasMeeting_16 rfl ?_
    exact g_zretv (r := (nI 0)) X hx rfl (by simp [hasN, b2i, c_1]; try rfl) (by rfl) dX4_hasMeeting_17
  · refine g_iload_n X 1 dX4_hasMeeting_4 rfl ?_
    refine g_aload_n X 0 dX4_hasMeeting_5 rfl ?_
    refine g_getf (v := .int (nI (sM v))) X fs_X4_30 0 rfl rfl dX4_hasMeeting_6 ?_
    refine g_icmp_ge (tgt := 16) X dX4_hasMeeting_9 (by decide) (fun c_9 => ?_) (fun c_9 => ?_)
    · refine g_iconst (v := (nI 0)) X dX4_hasMeeting_16 rfl ?_
      exact g_zretv (r := (nI 0)) X hx rfl (by simp [hasN, b2i, c_1, c_9]; try rfl) (by rfl) dX4_hasMeeting_17
    · refine g_iconst (v := (nI 1)) X dX4_hasMeeting_12 rfl ?_
      refine g_goto (tgt := 17) X dX4_hasMeeting_13 (by decide) ?_
      exact g_zretv (r := (nI 1)) X hx rfl (by simp [hasN, b2i, c_1, c_9]; try rfl) (by rfl) dX4_hasMeeting_17
set_option maxHeartbeats 4000000 in
set_option maxRecDepth 100000 in
theorem c_X4_hasStreet (E : GE) (a : Nat → Nat) (v : SV) (i : Int32) : CT E m_X4_hasStreet [.ref (a 0), .int i] ([wSv E a v].flatten) (some (.int (b2i (hasN (sS v) i)))) ([wSv E a v].flatten) := by
  refine CT.intro (by decide +kernel) (Nat.le_of_ble_eq_true rfl) (fun Γ X hx => ?_)
  refine GG.lv [0, 1] (lv' := [(0, .ref (a 0)), (1, .int i)]) rfl ?_
  refine g_iload_n X 1 dX4_hasStreet_0 rfl ?_
  refine g_if_lt (tgt := 16) X dX4_hasStreet_1 (by decide) (fun c_1 => ?_) (fun c_1 => ?_)
  · refine g_iconst (v := (nI 0)) X dX4_hasStreet_16 rfl ?_
    exact g_zretv (r := (nI 0)) X hx rfl (by simp [hasN, b2i, c_1]; try rfl) (by rfl) dX4_hasStreet_17
  · refine g_iload_n X 1 dX4_hasStreet_4 rfl ?_
    refine g_aload_n X 0 dX4_hasStreet_5 rfl ?_
    refine g_getf (v := .int (nI (sS v))) X fs_X4_34 0 rfl rfl dX4_hasStreet_6 ?_
    refine g_icmp_ge (tgt := 16) X dX4_hasStreet_9 (by decide) (fun c_9 => ?_) (fun c_9 => ?_)
    · refine g_iconst (v := (nI 0)) X dX4_hasStreet_16 rfl ?_
      exact g_zretv (r := (nI 0)) X hx rfl (by simp [hasN, b2i, c_1, c_9]; try rfl) (by rfl) dX4_hasStreet_17
    · refine g_iconst (v := (nI 1)) X dX4_hasStreet_12 rfl ?_
      refine g_goto (tgt := 17) X dX4_hasStreet_13 (by decide) ?_
      exact g_zretv (r := (nI 1)) X hx rfl (by simp [hasN, b2i, c_1, c_9]; try rfl) (by rfl) dX4_hasStreet_17
set_option maxHeartbeats 4000000 in
set_option maxRecDepth 100000 in
theorem c_X4_kindOf (E : GE) (a : Nat → Nat) (v : SV) (j : Nat) (hv : okS v) (hj : j < sM v) : CT E m_X4_kindOf [.ref (a 0), .int (nI j)] ([wSv E a v].flatten) (some (.int (sKd v j))) ([wSv E a v].flatten) := by
  refine CT.intro (by decide +kernel) (Nat.le_of_ble_eq_true rfl) (fun Γ X hx => ?_)
  refine GG.lv [0, 1] (lv' := [(0, .ref (a 0)), (1, .int (nI j))]) rfl ?_
  have hv1 : sM v ≤ 8 := hv.1
  have hv2 : sS v ≤ 8 := hv.2
  refine g_aload_n X 0 dX4_kindOf_0 rfl ?_
  refine g_iload_n X 1 dX4_kindOf_1 rfl ?_
  refine g_callVr (st2 := [.int (b2i (hasN (sM v) (nI j)))]) (q0 := 0) X (c_X4_hasMeeting E a v (nI j)) cs_X4_43 rfl [0] [] 1 rfl (by decide) rfl rfl rfl rfl rfl (Nat.le_of_ble_eq_true rfl) dX4_kindOf_2 rfl ?_
  refine g_bif_eq (tgt := 17) X dX4_kindOf_5 (by decide) (fun c_5 => absurd (hasN_t hj (by omega)) (by rw [c_5]; decide)) (fun c_5 => ?_)
  refine g_aload_n X 0 dX4_kindOf_8 rfl ?_
  refine g_getf (v := .ref (a 1)) X fs_X4_9 0 rfl rfl dX4_kindOf_9 ?_
  refine g_iload_n X 1 dX4_kindOf_12 rfl ?_
  refine g_iald X 1 rfl j (ix_nI (by omega) (by decide)) dX4_kindOf_13 ?_
  refine g_goto (tgt := 18) X dX4_kindOf_14 (by decide) ?_
  exact g_iretv (r := ((sKd v) j)) X hx rfl (by rfl) (by rfl) dX4_kindOf_18
set_option maxHeartbeats 4000000 in
set_option maxRecDepth 100000 in
theorem c_X4_xOf (E : GE) (a : Nat → Nat) (v : SV) (j : Nat) (hv : okS v) (hj : j < sM v) : CT E m_X4_xOf [.ref (a 0), .int (nI j)] ([wSv E a v].flatten) (some (.int (sX v j))) ([wSv E a v].flatten) := by
  refine CT.intro (by decide +kernel) (Nat.le_of_ble_eq_true rfl) (fun Γ X hx => ?_)
  refine GG.lv [0, 1] (lv' := [(0, .ref (a 0)), (1, .int (nI j))]) rfl ?_
  have hv1 : sM v ≤ 8 := hv.1
  have hv2 : sS v ≤ 8 := hv.2
  refine g_aload_n X 0 dX4_xOf_0 rfl ?_
  refine g_iload_n X 1 dX4_xOf_1 rfl ?_
  refine g_callVr (st2 := [.int (b2i (hasN (sM v) (nI j)))]) (q0 := 0) X (c_X4_hasMeeting E a v (nI j)) cs_X4_43 rfl [0] [] 1 rfl (by decide) rfl rfl rfl rfl rfl (Nat.le_of_ble_eq_true rfl) dX4_xOf_2 rfl ?_
  refine g_bif_eq (tgt := 17) X dX4_xOf_5 (by decide) (fun c_5 => absurd (hasN_t hj (by omega)) (by rw [c_5]; decide)) (fun c_5 => ?_)
  refine g_aload_n X 0 dX4_xOf_8 rfl ?_
  refine g_getf (v := .ref (a 2)) X fs_X4_15 0 rfl rfl dX4_xOf_9 ?_
  refine g_iload_n X 1 dX4_xOf_12 rfl ?_
  refine g_iald X 2 rfl j (ix_nI (by omega) (by decide)) dX4_xOf_13 ?_
  refine g_goto (tgt := 18) X dX4_xOf_14 (by decide) ?_
  exact g_iretv (r := ((sX v) j)) X hx rfl (by rfl) (by rfl) dX4_xOf_18
set_option maxHeartbeats 4000000 in
set_option maxRecDepth 100000 in
theorem c_X4_yOf (E : GE) (a : Nat → Nat) (v : SV) (j : Nat) (hv : okS v) (hj : j < sM v) : CT E m_X4_yOf [.ref (a 0), .int (nI j)] ([wSv E a v].flatten) (some (.int (sY v j))) ([wSv E a v].flatten) := by
  refine CT.intro (by decide +kernel) (Nat.le_of_ble_eq_true rfl) (fun Γ X hx => ?_)
  refine GG.lv [0, 1] (lv' := [(0, .ref (a 0)), (1, .int (nI j))]) rfl ?_
  have hv1 : sM v ≤ 8 := hv.1
  have hv2 : sS v ≤ 8 := hv.2
  refine g_aload_n X 0 dX4_yOf_0 rfl ?_
  refine g_iload_n X 1 dX4_yOf_1 rfl ?_
  refine g_callVr (st2 := [.int (b2i (hasN (sM v) (nI j)))]) (q0 := 0) X (c_X4_hasMeeting E a v (nI j)) cs_X4_43 rfl [0] [] 1 rfl (by decide) rfl rfl rfl rfl rfl (Nat.le_of_ble_eq_true rfl) dX4_yOf_2 rfl ?_
  refine g_bif_eq (tgt := 17) X dX4_yOf_5 (by decide) (fun c_5 => absurd (hasN_t hj (by omega)) (by rw [c_5]; decide)) (fun c_5 => ?_)
  refine g_aload_n X 0 dX4_yOf_8 rfl ?_
  refine g_getf (v := .ref (a 3)) X fs_X4_18 0 rfl rfl dX4_yOf_9 ?_
  refine g_iload_n X 1 dX4_yOf_12 rfl ?_
  refine g_iald X 3 rfl j (ix_nI (by omega) (by decide)) dX4_yOf_13 ?_
  refine g_goto (tgt := 18) X dX4_yOf_14 (by decide) ?_
  exact g_iretv (r := ((sY v) j)) X hx rfl (by rfl) (by rfl) dX4_yOf_18
set_option maxHeartbeats 4000000 in
set_option maxRecDepth 100000 in
theorem c_X4_startOf (E : GE) (a : Nat → Nat) (v : SV) (j : Nat) (hv : okS v) (hj : j < sS v) : CT E m_X4_startOf [.ref (a 0), .int (nI j)] ([wSv E a v].flatten) (some (.int (sU v j))) ([wSv E a v].flatten) := by
  refine CT.intro (by decide +kernel) (Nat.le_of_ble_eq_true rfl) (fun Γ X hx => ?_)
  refine GG.lv [0, 1] (lv' := [(0, .ref (a 0)), (1, .int (nI j))]) rfl ?_
  have hv1 : sM v ≤ 8 := hv.1
  have hv2 : sS v ≤ 8 := hv.2
  refine g_aload_n X 0 dX4_startOf_0 rfl ?_
  refine g_iload_n X 1 dX4_startOf_1 rfl ?_
  refine g_callVr (st2 := [.int (b2i (hasN (sS v) (nI j)))]) (q0 := 0) X (c_X4_hasStreet E a v (nI j)) cs_X4_47 rfl [0] [] 1 rfl (by decide) rfl rfl rfl rfl rfl (Nat.le_of_ble_eq_true rfl) dX4_startOf_2 rfl ?_
  refine g_bif_eq (tgt := 17) X dX4_startOf_5 (by decide) (fun c_5 => absurd (hasN_t hj (by omega)) (by rw [c_5]; decide)) (fun c_5 => ?_)
  refine g_aload_n X 0 dX4_startOf_8 rfl ?_
  refine g_getf (v := .ref (a 4)) X fs_X4_21 0 rfl rfl dX4_startOf_9 ?_
  refine g_iload_n X 1 dX4_startOf_12 rfl ?_
  refine g_iald X 4 rfl j (ix_nI (by omega) (by decide)) dX4_startOf_13 ?_
  refine g_goto (tgt := 18) X dX4_startOf_14 (by decide) ?_
  exact g_iretv (r := ((sU v) j)) X hx rfl (by rfl) (by rfl) dX4_startOf_18
set_option maxHeartbeats 4000000 in
set_option maxRecDepth 100000 in
theorem c_X4_endOf (E : GE) (a : Nat → Nat) (v : SV) (j : Nat) (hv : okS v) (hj : j < sS v) : CT E m_X4_endOf [.ref (a 0), .int (nI j)] ([wSv E a v].flatten) (some (.int (sV v j))) ([wSv E a v].flatten) := by
  refine CT.intro (by decide +kernel) (Nat.le_of_ble_eq_true rfl) (fun Γ X hx => ?_)
  refine GG.lv [0, 1] (lv' := [(0, .ref (a 0)), (1, .int (nI j))]) rfl ?_
  have hv1 : sM v ≤ 8 := hv.1
  have hv2 : sS v ≤ 8 := hv.2
  refine g_aload_n X 0 dX4_endOf_0 rfl ?_
  refine g_iload_n X 1 dX4_endOf_1 rfl ?_
  refine g_callVr (st2 := [.int (b2i (hasN (sS v) (nI j)))]) (q0 := 0) X (c_X4_hasStreet E a v (nI j)) cs_X4_47 rfl [0] [] 1 rfl (by decide) rfl rfl rfl rfl rfl (Nat.le_of_ble_eq_true rfl) dX4_endOf_2 rfl ?_
  refine g_bif_eq (tgt := 17) X dX4_endOf_5 (by decide) (fun c_5 => absurd (hasN_t hj (by omega)) (by rw [c_5]; decide)) (fun c_5 => ?_)
  refine g_aload_n X 0 dX4_endOf_8 rfl ?_
  refine g_getf (v := .ref (a 5)) X fs_X4_24 0 rfl rfl dX4_endOf_9 ?_
  refine g_iload_n X 1 dX4_endOf_12 rfl ?_
  refine g_iald X 5 rfl j (ix_nI (by omega) (by decide)) dX4_endOf_13 ?_
  refine g_goto (tgt := 18) X dX4_endOf_14 (by decide) ?_
  exact g_iretv (r := ((sV v) j)) X hx rfl (by rfl) (by rfl) dX4_endOf_18
set_option maxHeartbeats 4000000 in
set_option maxRecDepth 100000 in
theorem c_X4_nameOf (E : GE) (a : Nat → Nat) (v : SV) (j : Nat) (hv : okS v) (hj : j < sS v) : CT E m_X4_nameOf [.ref (a 0), .int (nI j)] ([wSv E a v].flatten) (some (.int (sNm v j))) ([wSv E a v].flatten) := by
  refine CT.intro (by decide +kernel) (Nat.le_of_ble_eq_true rfl) (fun Γ X hx => ?_)
  refine GG.lv [0, 1] (lv' := [(0, .ref (a 0)), (1, .int (nI j))]) rfl ?_
  have hv1 : sM v ≤ 8 := hv.1
  have hv2 : sS v ≤ 8 := hv.2
  refine g_aload_n X 0 dX4_nameOf_0 rfl ?_
  refine g_iload_n X 1 dX4_nameOf_1 rfl ?_
  refine g_callVr (st2 := [.int (b2i (hasN (sS v) (nI j)))]) (q0 := 0) X (c_X4_hasStreet E a v (nI j)) cs_X4_47 rfl [0] [] 1 rfl (by decide) rfl rfl rfl rfl rfl (Nat.le_of_ble_eq_true rfl) dX4_nameOf_2 rfl ?_
  refine g_bif_eq (tgt := 17) X dX4_nameOf_5 (by decide) (fun c_5 => absurd (hasN_t hj (by omega)) (by rw [c_5]; decide)) (fun c_5 => ?_)
  refine g_aload_n X 0 dX4_nameOf_8 rfl ?_
  refine g_getf (v := .ref (a 6)) X fs_X4_27 0 rfl rfl dX4_nameOf_9 ?_
  refine g_iload_n X 1 dX4_nameOf_12 rfl ?_
  refine g_iald X 6 rfl j (ix_nI (by omega) (by decide)) dX4_nameOf_13 ?_
  refine g_goto (tgt := 18) X dX4_nameOf_14 (by decide) ?_
  exact g_iretv (r := ((sNm v) j)) X hx rfl (by rfl) (by rfl) dX4_nameOf_18
set_option maxHeartbeats 4000000 in
set_option maxRecDepth 100000 in
theorem c_X4_otherEnd (E : GE) (a : Nat → Nat) (v : SV) (k : Nat) (i : Int32) (hv : okS v) (hk : k < sS v) : CT E m_X4_otherEnd [.ref (a 0), .int (nI k), .int i] ([wSv E a v].flatten) (some (.int (svOther v k i))) ([wSv E a v].flatten) := by
  refine CT.intro (by decide +kernel) (Nat.le_of_ble_eq_true rfl) (fun Γ X hx => ?_)
  refine GG.lv [0, 1, 2] (lv' := [(0, .ref (a 0)), (1, .int (nI k)), (2, .int i)]) rfl ?_
  have hv1 : sM v ≤ 8 := hv.1
  have hv2 : sS v ≤ 8 := hv.2
  refine g_aload_n X 0 dX4_otherEnd_0 rfl ?_
  refine g_iload_n X 1 dX4_otherEnd_1 rfl ?_
  refine g_callVr (st2 := [.int (b2i (hasN (sS v) (nI k)))]) (q0 := 0) X (c_X4_hasStreet E a v (nI k)) cs_X4_47 rfl [0] [] 1 rfl (by decide) rfl rfl rfl rfl rfl (Nat.le_of_ble_eq_true rfl) dX4_otherEnd_2 rfl ?_
  refine g_bif_ne (tgt := 10) X dX4_otherEnd_5 (by decide) (fun c_5 => ?_) (fun c_5 => absurd (hasN_t hk (by omega)) (by rw [c_5]; decide))
  refine g_aload_n X 0 dX4_otherEnd_10 rfl ?_
  refine g_getf (v := .ref (a 4)) X fs_X4_21 0 rfl rfl dX4_otherEnd_11 ?_
  refine g_iload_n X 1 dX4_otherEnd_14 rfl ?_
  refine g_iald X 4 rfl k (ix_nI (by omega) (by decide)) dX4_otherEnd_15 ?_
  refine g_iload_n X 2 dX4_otherEnd_16 rfl ?_
  refine g_icmp_ne (tgt := 27) X dX4_otherEnd_17 (by decide) (fun c_17 => ?_) (fun c_17 => ?_)
  · refine g_aload_n X 0 dX4_otherEnd_27 rfl ?_
    refine g_getf (v := .ref (a 5)) X fs_X4_24 0 rfl rfl dX4_otherEnd_28 ?_
    refine g_iload_n X 1 dX4_otherEnd_31 rfl ?_
    refine g_iald X 5 rfl k (ix_nI (by omega) (by decide)) dX4_otherEnd_32 ?_
    refine g_iload_n X 2 dX4_otherEnd_33 rfl ?_
    refine g_icmp_ne (tgt := 46) X dX4_otherEnd_34 (by decide) (fun c_34 => ?_) (fun c_34 => ?_)
    · refine g_iconst (v := (-1)) X dX4_otherEnd_46 rfl ?_
      exact g_iretv (r := (-1)) X hx rfl (by simp [svOther, c_5, c_17, c_34]) (by rfl) dX4_otherEnd_47
    · refine g_aload_n X 0 dX4_otherEnd_37 rfl ?_
      refine g_getf (v := .ref (a 4)) X fs_X4_21 0 rfl rfl dX4_otherEnd_38 ?_
      refine g_iload_n X 1 dX4_otherEnd_41 rfl ?_
      refine g_iald X 4 rfl k (ix_nI (by omega) (by decide)) dX4_otherEnd_42 ?_
      refine g_goto (tgt := 47) X dX4_otherEnd_43 (by decide) ?_
      exact g_iretv (r := ((sU v) k)) X hx rfl (by simp [svOther, c_5, c_17, c_34]) (by rfl) dX4_otherEnd_47
  · refine g_aload_n X 0 dX4_otherEnd_20 rfl ?_
    refine g_getf (v := .ref (a 5)) X fs_X4_24 0 rfl rfl dX4_otherEnd_21 ?_
    refine g_iload_n X 1 dX4_otherEnd_24 rfl ?_
    refine g_iald X 5 rfl k (ix_nI (by omega) (by decide)) dX4_otherEnd_25 ?_
    exact g_iretv (r := ((sV v) k)) X hx rfl (by simp [svOther, c_5, c_17]) (by rfl) dX4_otherEnd_26
set_option maxHeartbeats 4000000 in
set_option maxRecDepth 100000 in
theorem c_X4_streetsAt (E : GE) (a : Nat → Nat) (v : SV) (i : Int32) (hv : okS v) : CT E m_X4_streetsAt [.ref (a 0), .int i] ([wSv E a v].flatten) (some (.int (nI (cntB (fun k => decide (¬ svOther v k i = -1)) (sS v))))) ([wSv E a v].flatten) := by
  refine CT.intro (by decide +kernel) (Nat.le_of_ble_eq_true rfl) (fun Γ X hx => ?_)
  refine GG.lv [0, 1] (lv' := [(0, .ref (a 0)), (1, .int i)]) rfl ?_
  have hv1 : sM v ≤ 8 := hv.1
  have hv2 : sS v ≤ 8 := hv.2
  refine g_iconst (v := (nI 0)) X dX4_streetsAt_0 rfl ?_
  refine g_istore_n (lv' := [(2, .int (nI 0)), (0, .ref (a 0)), (1, .int i)]) X dX4_streetsAt_1 (by decide) rfl ?_
  refine g_iconst (v := (nI 0)) X dX4_streetsAt_2 rfl ?_
  refine g_istore_n (lv' := [(3, .int (nI 0)), (2, .int (nI 0)), (0, .ref (a 0)), (1, .int i)]) X dX4_streetsAt_3 (by decide) rfl ?_
  have L_4 : ∀ (n_4 : Nat) (k : Nat) (hk : k ≤ sS v) (hm_4 : sS v - k < n_4) (x_2 : Int32) (ex_2 : x_2 = (nI (cntB (fun k => decide (¬ svOther v k i = -1)) k))) (x_3 : Int32) (ex_3 : x_3 = (nI k)), GG E m_X4_streetsAt Γ 0 0 ([wSv E a v].flatten) [(0, .ref (a 0)), (1, .int i), (2, .int x_2), (3, .int x_3)] 4 [] := by
    intro n_4
    induction n_4 with
    | zero => intro k hk hm_4; exact absurd hm_4 (Nat.not_lt_zero _)
    | succ n_4 ih_4 =>
      intro k hk hm_4 x_2 ex_2 x_3 ex_3
      subst ex_2
      subst ex_3
      refine g_iload_n X 3 dX4_streetsAt_4 rfl ?_
      refine g_aload_n X 0 dX4_streetsAt_5 rfl ?_
      refine g_getf (v := .int (nI (sS v))) X fs_X4_34 0 rfl rfl dX4_streetsAt_6 ?_
      refine g_icmp_ge (tgt := 31) X dX4_streetsAt_9 (by decide) (fun c_9 => ?_) (fun c_9 => ?_)
      · have f_c_9 : sS v ≤ k := n_le (by omega) (by omega) c_9
        have fn_c_9 := Nat.not_lt.mpr f_c_9
        refine g_iload_n X 2 dX4_streetsAt_31 rfl ?_
        exact g_iretv (r := (nI (cntB (fun k => decide (¬ svOther v k i = -1)) k))) X hx rfl (by rw [show sS v = k by omega]) (by rfl) dX4_streetsAt_32
      · have f_c_9 : k < sS v := n_nle (by omega) (by omega) c_9
        have fn_c_9 := Nat.not_le.mpr f_c_9
        refine g_aload_n X 0 dX4_streetsAt_12 rfl ?_
        refine g_iload_n X 3 dX4_streetsAt_13 rfl ?_
        refine g_iload_n X 1 dX4_streetsAt_14 rfl ?_
        refine g_callVr (st2 := [.int (svOther v k i)]) (q0 := 0) X (c_X4_otherEnd E a v k i (by first | assumption | omega) (by first | assumption | omega)) cs_X4_50 rfl [0] [] 1 rfl (by decide) rfl rfl rfl rfl rfl (Nat.le_of_ble_eq_true rfl) dX4_streetsAt_15 rfl ?_
        refine g_iconst (v := (-1)) X dX4_streetsAt_18 rfl ?_
        refine g_icmp_eq (tgt := 25) X dX4_streetsAt_19 (by decide) (fun c_19 => ?_) (fun c_19 => ?_)
        · refine g_iincN (lv' := [(3, .int (nI (k + 1))), (0, .ref (a 0)), (1, .int i), (2, .int (nI (cntB (fun k => decide (¬ svOther v k i = -1)) k)))]) X 3 dX4_streetsAt_25 rfl (by decide) rfl ?_
          refine g_goto (tgt := 4) X dX4_streetsAt_28 (by decide) ?_
          refine GG.lv [1, 2, 3, 0] rfl ?_
          exact ih_4 (k + 1) (by omega) (by omega) (nI (cntB (fun k => decide (¬ svOther v k i = -1)) k)) (by first | rw [cntB_t (by simp [c_9, f_c_9, fn_c_9, c_19])] | rw [← cntB_f (by simp [c_9, f_c_9, fn_c_9, c_19])]) (nI (k + 1)) (by rfl)
        · refine g_iincN (lv' := [(2, .int (nI (cntB (fun k => decide (¬ svOther v k i = -1)) k + 1))), (0, .ref (a 0)), (1, .int i), (3, .int (nI k))]) X 2 dX4_streetsAt_22 rfl (by decide) rfl ?_
          refine g_iincN (lv' := [(3, .int (nI (k + 1))), (2, .int (nI (cntB (fun k => decide (¬ svOther v k i = -1)) k + 1))), (0, .ref (a 0)), (1, .int i)]) X 3 dX4_streetsAt_25 rfl (by decide) rfl ?_
          refine g_goto (tgt := 4) X dX4_streetsAt_28 (by decide) ?_
          refine GG.lv [2, 3, 1, 0] rfl ?_
          exact ih_4 (k + 1) (by omega) (by omega) (nI (cntB (fun k => decide (¬ svOther v k i = -1)) k + 1)) (by first | rw [cntB_t (by simp [c_9, f_c_9, fn_c_9, c_19])] | rw [← cntB_f (by simp [c_9, f_c_9, fn_c_9, c_19])]) (nI (k + 1)) (by rfl)
  refine GG.lv [2, 3, 1, 0] rfl ?_
  exact L_4 (sS v + 1) 0 (by omega) (by omega) (nI 0) (by rfl) (nI 0) (by rfl)
set_option maxHeartbeats 4000000 in
set_option maxRecDepth 100000 in
theorem c_X4_streetBetween (E : GE) (a : Nat → Nat) (v : SV) (u : Int32) (w : Int32) (hv : okS v) : CT E m_X4_streetBetween [.ref (a 0), .int u, .int w] ([wSv E a v].flatten) (some (.int (oI (sbF v u w)))) ([wSv E a v].flatten) := by
  refine CT.intro (by decide +kernel) (Nat.le_of_ble_eq_true rfl) (fun Γ X hx => ?_)
  refine GG.lv [0, 1, 2] (lv' := [(0, .ref (a 0)), (1, .int u), (2, .int w)]) rfl ?_
  have hv1 : sM v ≤ 8 := hv.1
  have hv2 : sS v ≤ 8 := hv.2
  refine g_iconst (v := (nI 0)) X dX4_streetBetween_0 rfl ?_
  refine g_istore_n (lv' := [(3, .int (nI 0)), (0, .ref (a 0)), (1, .int u), (2, .int w)]) X dX4_streetBetween_1 (by decide) rfl ?_
  have L_2 : ∀ (n_2 : Nat) (k : Nat) (hk : k ≤ sS v) (hf : findF (sbP v u w) k = none) (hm_2 : sS v - k < n_2) (x_3 : Int32) (ex_3 : x_3 = (nI k)), GG E m_X4_streetBetween Γ 0 0 ([wSv E a v].flatten) [(0, .ref (a 0)), (1, .int u), (2, .int w), (3, .int x_3)] 2 [] := by
    intro n_2
    induction n_2 with
    | zero => intro k hk hf hm_2; exact absurd hm_2 (Nat.not_lt_zero _)
    | succ n_2 ih_2 =>
      intro k hk hf hm_2 x_3 ex_3
      subst ex_3
      refine g_iload_n X 3 dX4_streetBetween_2 rfl ?_
      refine g_aload_n X 0 dX4_streetBetween_3 rfl ?_
      refine g_getf (v := .int (nI (sS v))) X fs_X4_34 0 rfl rfl dX4_streetBetween_4 ?_
      refine g_icmp_ge (tgt := 82) X dX4_streetBetween_7 (by decide) (fun c_7 => ?_) (fun c_7 => ?_)
      · have f_c_7 : sS v ≤ k := n_le (by omega) (by omega) c_7
        have fn_c_7 := Nat.not_lt.mpr f_c_7
        refine g_iconst (v := (-1)) X dX4_streetBetween_82 rfl ?_
        exact g_iretv (r := (-1)) X hx rfl (by unfold sbF; rw [show sS v = k by omega, hf]; rfl) (by rfl) dX4_streetBetween_83
      · have f_c_7 : k < sS v := n_nle (by omega) (by omega) c_7
        have fn_c_7 := Nat.not_le.mpr f_c_7
        refine g_aload_n X 0 dX4_streetBetween_10 rfl ?_
        refine g_getf (v := .ref (a 4)) X fs_X4_21 0 rfl rfl dX4_streetBetween_11 ?_
        refine g_iload_n X 3 dX4_streetBetween_14 rfl ?_
        refine g_iald X 4 rfl k (ix_nI (by omega) (by decide)) dX4_streetBetween_15 ?_
        refine g_iload_n X 1 dX4_streetBetween_16 rfl ?_
        refine g_icmp_ne (tgt := 34) X dX4_streetBetween_17 (by decide) (fun c_17 => ?_) (fun c_17 => ?_)
        · refine g_iconst (v := (nI 0)) X dX4_streetBetween_34 rfl ?_
          refine g_istore (lv' := [(4, .int (nI 0)), (0, .ref (a 0)), (1, .int u), (2, .int w), (3, .int (nI k))]) X dX4_streetBetween_35 (by decide) rfl ?_
          refine g_aload_n X 1 dX4_streetBetween_37 rfl ?_
          refine g_getf (v := .ref (a 4)) X fs_X4_21 0 rfl rfl dX4_streetBetween_38 ?_
          refine g_iload_n X 4 dX4_streetBetween_41 rfl ?_
          refine g_iald X 4 rfl k (ix_nI (by omega) (by decide)) dX4_streetBetween_42 ?_
          refine g_iload_n X 3 dX4_streetBetween_43 rfl ?_
          refine g_icmp_ne (tgt := 61) X dX4_streetBetween_44 (by decide) (fun c_44 => ?_) (fun c_44 => ?_)
          · refine g_iconst (v := (nI 0)) X dX4_streetBetween_61 rfl ?_
            refine g_istore (lv' := [(5, .int (nI 0)), (4, .int (nI 0)), (0, .ref (a 0)), (1, .int u), (2, .int w), (3, .int (nI k))]) X dX4_streetBetween_62 (by decide) rfl ?_
            refine g_iload X 1 dX4_streetBetween_64 rfl ?_
            refine g_if_ne (tgt := 74) X dX4_streetBetween_66 (by decide) (fun c_66 => absurd c_66 (by decide)) (fun c_66 => ?_)
            refine g_iload X 0 dX4_streetBetween_69 rfl ?_
            refine g_if_eq (tgt := 76) X dX4_streetBetween_71 (by decide) (fun c_71 => ?_) (fun c_71 => absurd c_71 (by decide))
            refine g_iincN (lv' := [(3, .int (nI (k + 1))), (5, .int (nI 0)), (4, .int (nI 0)), (0, .ref (a 0)), (1, .int u), (2, .int w)]) X 5 dX4_streetBetween_76 rfl (by decide) rfl ?_
            refine g_goto (tgt := 2) X dX4_streetBetween_79 (by decide) ?_
            refine GG.lv [3, 4, 5, 0] rfl ?_
            exact ih_2 (k + 1) (by omega) (findF_none hf (by unfold sbP; first | (simp [c_7, f_c_7, fn_c_7, c_17, c_44]; done) | grind)) (by omega) (nI (k + 1)) (by rfl)
          · refine g_aload_n X 1 dX4_streetBetween_47 rfl ?_
            refine g_getf (v := .ref (a 5)) X fs_X4_24 0 rfl rfl dX4_streetBetween_48 ?_
            refine g_iload_n X 4 dX4_streetBetween_51 rfl ?_
            refine g_iald X 5 rfl k (ix_nI (by omega) (by decide)) dX4_streetBetween_52 ?_
            refine g_iload_n X 2 dX4_streetBetween_53 rfl ?_
            refine g_icmp_ne (tgt := 61) X dX4_streetBetween_54 (by decide) (fun c_54 => ?_) (fun c_54 => ?_)
            · refine g_iconst (v := (nI 0)) X dX4_streetBetween_61 rfl ?_
              refine g_istore (lv' := [(5, .int (nI 0)), (4, .int (nI 0)), (0, .ref (a 0)), (1, .int u), (2, .int w), (3, .int (nI k))]) X dX4_streetBetween_62 (by decide) rfl ?_
              refine g_iload X 1 dX4_streetBetween_64 rfl ?_
              refine g_if_ne (tgt := 74) X dX4_streetBetween_66 (by decide) (fun c_66 => absurd c_66 (by decide)) (fun c_66 => ?_)
              refine g_iload X 0 dX4_streetBetween_69 rfl ?_
              refine g_if_eq (tgt := 76) X dX4_streetBetween_71 (by decide) (fun c_71 => ?_) (fun c_71 => absurd c_71 (by decide))
              refine g_iincN (lv' := [(3, .int (nI (k + 1))), (5, .int (nI 0)), (4, .int (nI 0)), (0, .ref (a 0)), (1, .int u), (2, .int w)]) X 5 dX4_streetBetween_76 rfl (by decide) rfl ?_
              refine g_goto (tgt := 2) X dX4_streetBetween_79 (by decide) ?_
              refine GG.lv [3, 4, 5, 0] rfl ?_
              exact ih_2 (k + 1) (by omega) (findF_none hf (by unfold sbP; first | (simp [c_7, f_c_7, fn_c_7, c_17, c_44, c_54]; done) | grind)) (by omega) (nI (k + 1)) (by rfl)
            · refine g_iconst (v := (nI 1)) X dX4_streetBetween_57 rfl ?_
              refine g_goto (tgt := 62) X dX4_streetBetween_58 (by decide) ?_
              refine g_istore (lv' := [(5, .int (nI 1)), (4, .int (nI 0)), (0, .ref (a 0)), (1, .int u), (2, .int w), (3, .int (nI k))]) X dX4_streetBetween_62 (by decide) rfl ?_
              refine g_iload X 1 dX4_streetBetween_64 rfl ?_
              refine g_if_ne (tgt := 74) X dX4_streetBetween_66 (by decide) (fun c_66 => absurd c_66 (by decide)) (fun c_66 => ?_)
              refine g_iload X 0 dX4_streetBetween_69 rfl ?_
              refine g_if_eq (tgt := 76) X dX4_streetBetween_71 (by decide) (fun c_71 => absurd c_71 (by decide)) (fun c_71 => ?_)
              refine g_iload_n X 5 dX4_streetBetween_74 rfl ?_
              exact g_iretv (r := (nI k)) X hx rfl (by unfold sbF; rw [findF_hit hf (by unfold sbP; first | (simp [c_7, f_c_7, fn_c_7, c_17, c_44, c_54]; done) | grind) _ f_c_7]; rfl) (by rfl) dX4_streetBetween_75
        · refine g_aload_n X 0 dX4_streetBetween_20 rfl ?_
          refine g_getf (v := .ref (a 5)) X fs_X4_24 0 rfl rfl dX4_streetBetween_21 ?_
          refine g_iload_n X 3 dX4_streetBetween_24 rfl ?_
          refine g_iald X 5 rfl k (ix_nI (by omega) (by decide)) dX4_streetBetween_25 ?_
          refine g_iload_n X 2 dX4_streetBetween_26 rfl ?_
          refine g_icmp_ne (tgt := 34) X dX4_streetBetween_27 (by decide) (fun c_27 => ?_) (fun c_27 => ?_)
          · refine g_iconst (v := (nI 0)) X dX4_streetBetween_34 rfl ?_
            refine g_istore (lv' := [(4, .int (nI 0)), (0, .ref (a 0)), (1, .int u), (2, .int w), (3, .int (nI k))]) X dX4_streetBetween_35 (by decide) rfl ?_
            refine g_aload_n X 1 dX4_streetBetween_37 rfl ?_
            refine g_getf (v := .ref (a 4)) X fs_X4_21 0 rfl rfl dX4_streetBetween_38 ?_
            refine g_iload_n X 4 dX4_streetBetween_41 rfl ?_
            refine g_iald X 4 rfl k (ix_nI (by omega) (by decide)) dX4_streetBetween_42 ?_
            refine g_iload_n X 3 dX4_streetBetween_43 rfl ?_
            refine g_icmp_ne (tgt := 61) X dX4_streetBetween_44 (by decide) (fun c_44 => ?_) (fun c_44 => ?_)
            · refine g_iconst (v := (nI 0)) X dX4_streetBetween_61 rfl ?_
              refine g_istore (lv' := [(5, .int (nI 0)), (4, .int (nI 0)), (0, .ref (a 0)), (1, .int u), (2, .int w), (3, .int (nI k))]) X dX4_streetBetween_62 (by decide) rfl ?_
              refine g_iload X 1 dX4_streetBetween_64 rfl ?_
              refine g_if_ne (tgt := 74) X dX4_streetBetween_66 (by decide) (fun c_66 => absurd c_66 (by decide)) (fun c_66 => ?_)
              refine g_iload X 0 dX4_streetBetween_69 rfl ?_
              refine g_if_eq (tgt := 76) X dX4_streetBetween_71 (by decide) (fun c_71 => ?_) (fun c_71 => absurd c_71 (by decide))
              refine g_iincN (lv' := [(3, .int (nI (k + 1))), (5, .int (nI 0)), (4, .int (nI 0)), (0, .ref (a 0)), (1, .int u), (2, .int w)]) X 5 dX4_streetBetween_76 rfl (by decide) rfl ?_
              refine g_goto (tgt := 2) X dX4_streetBetween_79 (by decide) ?_
              refine GG.lv [3, 4, 5, 0] rfl ?_
              exact ih_2 (k + 1) (by omega) (findF_none hf (by unfold sbP; first | (simp [c_7, f_c_7, fn_c_7, c_17, c_27, c_44]; done) | grind)) (by omega) (nI (k + 1)) (by rfl)
            · refine g_aload_n X 1 dX4_streetBetween_47 rfl ?_
              refine g_getf (v := .ref (a 5)) X fs_X4_24 0 rfl rfl dX4_streetBetween_48 ?_
              refine g_iload_n X 4 dX4_streetBetween_51 rfl ?_
              refine g_iald X 5 rfl k (ix_nI (by omega) (by decide)) dX4_streetBetween_52 ?_
              refine g_iload_n X 2 dX4_streetBetween_53 rfl ?_
              refine g_icmp_ne (tgt := 61) X dX4_streetBetween_54 (by decide) (fun c_54 => ?_) (fun c_54 => ?_)
              · refine g_iconst (v := (nI 0)) X dX4_streetBetween_61 rfl ?_
                refine g_istore (lv' := [(5, .int (nI 0)), (4, .int (nI 0)), (0, .ref (a 0)), (1, .int u), (2, .int w), (3, .int (nI k))]) X dX4_streetBetween_62 (by decide) rfl ?_
                refine g_iload X 1 dX4_streetBetween_64 rfl ?_
                refine g_if_ne (tgt := 74) X dX4_streetBetween_66 (by decide) (fun c_66 => absurd c_66 (by decide)) (fun c_66 => ?_)
                refine g_iload X 0 dX4_streetBetween_69 rfl ?_
                refine g_if_eq (tgt := 76) X dX4_streetBetween_71 (by decide) (fun c_71 => ?_) (fun c_71 => absurd c_71 (by decide))
                refine g_iincN (lv' := [(3, .int (nI (k + 1))), (5, .int (nI 0)), (4, .int (nI 0)), (0, .ref (a 0)), (1, .int u), (2, .int w)]) X 5 dX4_streetBetween_76 rfl (by decide) rfl ?_
                refine g_goto (tgt := 2) X dX4_streetBetween_79 (by decide) ?_
                refine GG.lv [3, 4, 5, 0] rfl ?_
                exact ih_2 (k + 1) (by omega) (findF_none hf (by unfold sbP; first | (simp [c_7, f_c_7, fn_c_7, c_17, c_27, c_44, c_54]; done) | grind)) (by omega) (nI (k + 1)) (by rfl)
              · refine g_iconst (v := (nI 1)) X dX4_streetBetween_57 rfl ?_
                refine g_goto (tgt := 62) X dX4_streetBetween_58 (by decide) ?_
                refine g_istore (lv' := [(5, .int (nI 1)), (4, .int (nI 0)), (0, .ref (a 0)), (1, .int u), (2, .int w), (3, .int (nI k))]) X dX4_streetBetween_62 (by decide) rfl ?_
                refine g_iload X 1 dX4_streetBetween_64 rfl ?_
                refine g_if_ne (tgt := 74) X dX4_streetBetween_66 (by decide) (fun c_66 => absurd c_66 (by decide)) (fun c_66 => ?_)
                refine g_iload X 0 dX4_streetBetween_69 rfl ?_
                refine g_if_eq (tgt := 76) X dX4_streetBetween_71 (by decide) (fun c_71 => absurd c_71 (by decide)) (fun c_71 => ?_)
                refine g_iload_n X 5 dX4_streetBetween_74 rfl ?_
                exact g_iretv (r := (nI k)) X hx rfl (by unfold sbF; rw [findF_hit hf (by unfold sbP; first | (simp [c_7, f_c_7, fn_c_7, c_17, c_27, c_44, c_54]; done) | grind) _ f_c_7]; rfl) (by rfl) dX4_streetBetween_75
          · refine g_iconst (v := (nI 1)) X dX4_streetBetween_30 rfl ?_
            refine g_goto (tgt := 35) X dX4_streetBetween_31 (by decide) ?_
            refine g_istore (lv' := [(4, .int (nI 1)), (0, .ref (a 0)), (1, .int u), (2, .int w), (3, .int (nI k))]) X dX4_streetBetween_35 (by decide) rfl ?_
            refine g_aload_n X 1 dX4_streetBetween_37 rfl ?_
            refine g_getf (v := .ref (a 4)) X fs_X4_21 0 rfl rfl dX4_streetBetween_38 ?_
            refine g_iload_n X 4 dX4_streetBetween_41 rfl ?_
            refine g_iald X 4 rfl k (ix_nI (by omega) (by decide)) dX4_streetBetween_42 ?_
            refine g_iload_n X 3 dX4_streetBetween_43 rfl ?_
            refine g_icmp_ne (tgt := 61) X dX4_streetBetween_44 (by decide) (fun c_44 => ?_) (fun c_44 => ?_)
            · refine g_iconst (v := (nI 0)) X dX4_streetBetween_61 rfl ?_
              refine g_istore (lv' := [(5, .int (nI 0)), (4, .int (nI 1)), (0, .ref (a 0)), (1, .int u), (2, .int w), (3, .int (nI k))]) X dX4_streetBetween_62 (by decide) rfl ?_
              refine g_iload X 1 dX4_streetBetween_64 rfl ?_
              refine g_if_ne (tgt := 74) X dX4_streetBetween_66 (by decide) (fun c_66 => ?_) (fun c_66 => absurd c_66 (by decide))
              refine g_iload_n X 5 dX4_streetBetween_74 rfl ?_
              exact g_iretv (r := (nI k)) X hx rfl (by unfold sbF; rw [findF_hit hf (by unfold sbP; first | (simp [c_7, f_c_7, fn_c_7, c_17, c_27, c_44]; done) | grind) _ f_c_7]; rfl) (by rfl) dX4_streetBetween_75
            · refine g_aload_n X 1 dX4_streetBetween_47 rfl ?_
              refine g_getf (v := .ref (a 5)) X fs_X4_24 0 rfl rfl dX4_streetBetween_48 ?_
              refine g_iload_n X 4 dX4_streetBetween_51 rfl ?_
              refine g_iald X 5 rfl k (ix_nI (by omega) (by decide)) dX4_streetBetween_52 ?_
              refine g_iload_n X 2 dX4_streetBetween_53 rfl ?_
              refine g_icmp_ne (tgt := 61) X dX4_streetBetween_54 (by decide) (fun c_54 => ?_) (fun c_54 => ?_)
              · refine g_iconst (v := (nI 0)) X dX4_streetBetween_61 rfl ?_
                refine g_istore (lv' := [(5, .int (nI 0)), (4, .int (nI 1)), (0, .ref (a 0)), (1, .int u), (2, .int w), (3, .int (nI k))]) X dX4_streetBetween_62 (by decide) rfl ?_
                refine g_iload X 1 dX4_streetBetween_64 rfl ?_
                refine g_if_ne (tgt := 74) X dX4_streetBetween_66 (by decide) (fun c_66 => ?_) (fun c_66 => absurd c_66 (by decide))
                refine g_iload_n X 5 dX4_streetBetween_74 rfl ?_
                exact g_iretv (r := (nI k)) X hx rfl (by unfold sbF; rw [findF_hit hf (by unfold sbP; first | (simp [c_7, f_c_7, fn_c_7, c_17, c_27, c_44, c_54]; done) | grind) _ f_c_7]; rfl) (by rfl) dX4_streetBetween_75
              · refine g_iconst (v := (nI 1)) X dX4_streetBetween_57 rfl ?_
                refine g_goto (tgt := 62) X dX4_streetBetween_58 (by decide) ?_
                refine g_istore (lv' := [(5, .int (nI 1)), (4, .int (nI 1)), (0, .ref (a 0)), (1, .int u), (2, .int w), (3, .int (nI k))]) X dX4_streetBetween_62 (by decide) rfl ?_
                refine g_iload X 1 dX4_streetBetween_64 rfl ?_
                refine g_if_ne (tgt := 74) X dX4_streetBetween_66 (by decide) (fun c_66 => ?_) (fun c_66 => absurd c_66 (by decide))
                refine g_iload_n X 5 dX4_streetBetween_74 rfl ?_
                exact g_iretv (r := (nI k)) X hx rfl (by unfold sbF; rw [findF_hit hf (by unfold sbP; first | (simp [c_7, f_c_7, fn_c_7, c_17, c_27, c_44, c_54]; done) | grind) _ f_c_7]; rfl) (by rfl) dX4_streetBetween_75
  refine GG.lv [1, 2, 3, 0] rfl ?_
  exact L_2 (sS v + 1) 0 (by omega) (rfl) (by omega) (nI 0) (by rfl)
set_option maxHeartbeats 4000000 in
set_option maxRecDepth 100000 in
theorem c_X4_twiceArea (E : GE) (a : Nat → Nat) (v : SV) (p : Nat) (q : Nat) (r : Nat) (hv : okS v) (hp : p < sM v) (hq : q < sM v) (hr : r < sM v) : CT E m_X4_twiceArea [.ref (a 0), .int (nI p), .int (nI q), .int (nI r)] ([wSv E a v].flatten) (some (.int (svArea v p q r))) ([wSv E a v].flatten) := by
  refine CT.intro (by decide +kernel) (Nat.le_of_ble_eq_true rfl) (fun Γ X hx => ?_)
  refine GG.lv [0, 1, 2, 3] (lv' := [(0, .ref (a 0)), (1, .int (nI p)), (2, .int (nI q)), (3, .int (nI r))]) rfl ?_
  have hv1 : sM v ≤ 8 := hv.1
  have hv2 : sS v ≤ 8 := hv.2
  refine g_aload_n X 0 dX4_twiceArea_0 rfl ?_
  refine g_iload_n X 2 dX4_twiceArea_1 rfl ?_
  refine g_callVr (st2 := [.int (sX v q)]) (q0 := 0) X (c_X4_xOf E a v q (by first | assumption | omega) (by first | assumption | omega)) cs_X4_54 rfl [0] [] 1 rfl (by decide) rfl rfl rfl rfl rfl (Nat.le_of_ble_eq_true rfl) dX4_twiceArea_2 rfl ?_
  refine g_aload_n X 0 dX4_twiceArea_5 rfl ?_
  refine g_iload_n X 1 dX4_twiceArea_6 rfl ?_
  refine g_callVr (st2 := [.int (sX v p), .int (sX v q)]) (q0 := 0) X (c_X4_xOf E a v p (by first | assumption | omega) (by first | assumption | omega)) cs_X4_54 rfl [0] [] 1 rfl (by decide) rfl rfl rfl rfl rfl (Nat.le_of_ble_eq_true rfl) dX4_twiceArea_7 rfl ?_
  refine g_isub X dX4_twiceArea_10 ?_
  refine g_istore (lv' := [(4, .int ((sX v q) - (sX v p))), (0, .ref (a 0)), (1, .int (nI p)), (2, .int (nI q)), (3, .int (nI r))]) X dX4_twiceArea_11 (by decide) rfl ?_
  refine g_aload_n X 1 dX4_twiceArea_13 rfl ?_
  refine g_iload_n X 3 dX4_twiceArea_14 rfl ?_
  refine g_callVr (st2 := [.int (sY v q)]) (q0 := 0) X (c_X4_yOf E a v q (by first | assumption | omega) (by first | assumption | omega)) cs_X4_58 rfl [0] [] 1 rfl (by decide) rfl rfl rfl rfl rfl (Nat.le_of_ble_eq_true rfl) dX4_twiceArea_15 rfl ?_
  refine g_aload_n X 1 dX4_twiceArea_18 rfl ?_
  refine g_iload_n X 2 dX4_twiceArea_19 rfl ?_
  refine g_callVr (st2 := [.int (sY v p), .int (sY v q)]) (q0 := 0) X (c_X4_yOf E a v p (by first | assumption | omega) (by first | assumption | omega)) cs_X4_58 rfl [0] [] 1 rfl (by decide) rfl rfl rfl rfl rfl (Nat.le_of_ble_eq_true rfl) dX4_twiceArea_20 rfl ?_
  refine g_isub X dX4_twiceArea_23 ?_
  refine g_istore (lv' := [(5, .int ((sY v q) - (sY v p))), (4, .int ((sX v q) - (sX v p))), (0, .ref (a 0)), (1, .int (nI p)), (2, .int (nI q)), (3, .int (nI r))]) X dX4_twiceArea_24 (by decide) rfl ?_
  refine g_aload_n X 2 dX4_twiceArea_26 rfl ?_
  refine g_iload_n X 5 dX4_twiceArea_27 rfl ?_
  refine g_callVr (st2 := [.int (sX v r)]) (q0 := 0) X (c_X4_xOf E a v r (by first | assumption | omega) (by first | assumption | omega)) cs_X4_54 rfl [0] [] 1 rfl (by decide) rfl rfl rfl rfl rfl (Nat.le_of_ble_eq_true rfl) dX4_twiceArea_28 rfl ?_
  refine g_aload_n X 2 dX4_twiceArea_31 rfl ?_
  refine g_iload_n X 3 dX4_twiceArea_32 rfl ?_
  refine g_callVr (st2 := [.int (sX v p), .int (sX v r)]) (q0 := 0) X (c_X4_xOf E a v p (by first | assumption | omega) (by first | assumption | omega)) cs_X4_54 rfl [0] [] 1 rfl (by decide) rfl rfl rfl rfl rfl (Nat.le_of_ble_eq_true rfl) dX4_twiceArea_33 rfl ?_
  refine g_isub X dX4_twiceArea_36 ?_
  refine g_istore (lv' := [(6, .int ((sX v r) - (sX v p))), (5, .int ((sY v q) - (sY v p))), (4, .int ((sX v q) - (sX v p))), (0, .ref (a 0)), (1, .int (nI p)), (2, .int (nI q)), (3, .int (nI r))]) X dX4_twiceArea_37 (by decide) rfl ?_
  refine g_aload_n X 3 dX4_twiceArea_39 rfl ?_
  refine g_iload_n X 6 dX4_twiceArea_40 rfl ?_
  refine g_callVr (st2 := [.int (sY v r)]) (q0 := 0) X (c_X4_yOf E a v r (by first | assumption | omega) (by first | assumption | omega)) cs_X4_58 rfl [0] [] 1 rfl (by decide) rfl rfl rfl rfl rfl (Nat.le_of_ble_eq_true rfl) dX4_twiceArea_41 rfl ?_
  refine g_aload_n X 3 dX4_twiceArea_44 rfl ?_
  refine g_iload_n X 4 dX4_twiceArea_45 rfl ?_
  refine g_callVr (st2 := [.int (sY v p), .int (sY v r)]) (q0 := 0) X (c_X4_yOf E a v p (by first | assumption | omega) (by first | assumption | omega)) cs_X4_58 rfl [0] [] 1 rfl (by decide) rfl rfl rfl rfl rfl (Nat.le_of_ble_eq_true rfl) dX4_twiceArea_46 rfl ?_
  refine g_isub X dX4_twiceArea_49 ?_
  refine g_istore (lv' := [(7, .int ((sY v r) - (sY v p))), (6, .int ((sX v r) - (sX v p))), (5, .int ((sY v q) - (sY v p))), (4, .int ((sX v q) - (sX v p))), (0, .ref (a 0)), (1, .int (nI p)), (2, .int (nI q)), (3, .int (nI r))]) X dX4_twiceArea_50 (by decide) rfl ?_
  refine g_iload X 3 dX4_twiceArea_52 rfl ?_
  refine g_iload X 0 dX4_twiceArea_54 rfl ?_
  refine g_imul X dX4_twiceArea_56 ?_
  refine g_iload X 2 dX4_twiceArea_57 rfl ?_
  refine g_iload X 1 dX4_twiceArea_59 rfl ?_
  refine g_imul X dX4_twiceArea_61 ?_
  refine g_isub X dX4_twiceArea_62 ?_
  exact g_iretv (r := ((((sX v q) - (sX v p)) * ((sY v r) - (sY v p))) - (((sY v q) - (sY v p)) * ((sX v r) - (sX v p))))) X hx rfl (by rfl) (by rfl) dX4_twiceArea_63
set_option maxHeartbeats 4000000 in
set_option maxRecDepth 100000 in
theorem c_X4_addMeeting (E : GE) (a : Nat → Nat) (v : SV) (k : Int32) (x : Int32) (y : Int32) (hv : okS v) : CT E m_X4_addMeeting [.ref (a 0), .int k, .int x, .int y] ([wSv E a v].flatten) (some (.int (b2i (addMok v k x y)))) ([wSv E a (svAddM v k x y)].flatten) := by
  refine CT.intro (by decide +kernel) (Nat.le_of_ble_eq_true rfl) (fun Γ X hx => ?_)
  refine GG.lv [0, 1, 2, 3] (lv' := [(0, .ref (a 0)), (1, .int k), (2, .int x), (3, .int y)]) rfl ?_
  have hv1 : sM v ≤ 8 := hv.1
  have hv2 : sS v ≤ 8 := hv.2
  refine g_aload_n X 0 dX4_addMeeting_0 rfl ?_
  refine g_getf (v := .int (nI (sM v))) X fs_X4_30 0 rfl rfl dX4_addMeeting_1 ?_
  refine g_bipush (v := (nI 8)) X dX4_addMeeting_4 rfl ?_
  refine g_icmp_ge (tgt := 18) X dX4_addMeeting_6 (by decide) (fun c_6 => ?_) (fun c_6 => ?_)
  · have f_c_6 : 8 ≤ sM v := n_le (by omega) (by omega) c_6
    have fn_c_6 := Nat.not_lt.mpr f_c_6
    refine g_iconst (v := (nI 0)) X dX4_addMeeting_18 rfl ?_
    exact g_zretv (r := (nI 0)) X hx rfl (by simp [addMok, b2i, c_6, f_c_6, fn_c_6]; try rfl) (by simp [svAddM, addMok, c_6, f_c_6, fn_c_6]) dX4_addMeeting_19
  · have f_c_6 : sM v < 8 := n_nle (by omega) (by omega) c_6
    have fn_c_6 := Nat.not_le.mpr f_c_6
    refine g_iload_n X 1 dX4_addMeeting_9 rfl ?_
    refine g_iconst (v := (nI 0)) X dX4_addMeeting_10 rfl ?_
    refine g_iconst (v := (nI 3)) X dX4_addMeeting_11 rfl ?_
    refine g_callN (st2 := [.int (b2i (inR k (nI 0) (nI 3)))]) X (c_X9_isWithin E k (nI 0) (nI 3)) cs_X4_61 rfl rfl rfl (Nat.le_of_ble_eq_true rfl) dX4_addMeeting_12 rfl ?_
    refine g_bif_ne (tgt := 20) X dX4_addMeeting_15 (by decide) (fun c_15 => ?_) (fun c_15 => ?_)
    · refine g_iload_n X 2 dX4_addMeeting_20 rfl ?_
      refine g_iconst (v := (nI 0)) X dX4_addMeeting_21 rfl ?_
      refine g_bipush (v := (nI 60)) X dX4_addMeeting_22 rfl ?_
      refine g_callN (st2 := [.int (b2i (inR x (nI 0) (nI 60)))]) X (c_X9_isWithin E x (nI 0) (nI 60)) cs_X4_61 rfl rfl rfl (Nat.le_of_ble_eq_true rfl) dX4_addMeeting_24 rfl ?_
      refine g_bif_eq (tgt := 40) X dX4_addMeeting_27 (by decide) (fun c_27 => ?_) (fun c_27 => ?_)
      · refine g_iconst (v := (nI 0)) X dX4_addMeeting_40 rfl ?_
        exact g_zretv (r := (nI 0)) X hx rfl (by simp [addMok, b2i, c_6, f_c_6, fn_c_6, c_15, c_27]; try rfl) (by simp [svAddM, addMok, c_6, f_c_6, fn_c_6, c_15, c_27]) dX4_addMeeting_41
      · refine g_iload_n X 3 dX4_addMeeting_30 rfl ?_
        refine g_iconst (v := (nI 0)) X dX4_addMeeting_31 rfl ?_
        refine g_bipush (v := (nI 60)) X dX4_addMeeting_32 rfl ?_
        refine g_callN (st2 := [.int (b2i (inR y (nI 0) (nI 60)))]) X (c_X9_isWithin E y (nI 0) (nI 60)) cs_X4_61 rfl rfl rfl (Nat.le_of_ble_eq_true rfl) dX4_addMeeting_34 rfl ?_
        refine g_bif_ne (tgt := 42) X dX4_addMeeting_37 (by decide) (fun c_37 => ?_) (fun c_37 => ?_)
        · refine g_aload_n X 0 dX4_addMeeting_42 rfl ?_
          refine g_getf (v := .ref (a 1)) X fs_X4_9 0 rfl rfl dX4_addMeeting_43 ?_
          refine g_aload_n X 0 dX4_addMeeting_46 rfl ?_
          refine g_getf (v := .int (nI (sM v))) X fs_X4_30 0 rfl rfl dX4_addMeeting_47 ?_
          refine g_iload_n X 1 dX4_addMeeting_50 rfl ?_
          refine g_iast (ws' := [wSv E a (upd (sKd v) (sM v) k, sX v, sY v, sU v, sV v, sNm v, sM v, sS v)].flatten) X 1 rfl (sM v) (ix_nI (by omega) (by decide)) rfl dX4_addMeeting_51 ?_
          refine g_aload_n X 0 dX4_addMeeting_52 rfl ?_
          refine g_getf (v := .ref (a 2)) X fs_X4_15 0 rfl rfl dX4_addMeeting_53 ?_
          refine g_aload_n X 0 dX4_addMeeting_56 rfl ?_
          refine g_getf (v := .int (nI (sM v))) X fs_X4_30 0 rfl rfl dX4_addMeeting_57 ?_
          refine g_iload_n X 2 dX4_addMeeting_60 rfl ?_
          refine g_iast (ws' := [wSv E a (upd (sKd v) (sM v) k, upd (sX v) (sM v) x, sY v, sU v, sV v, sNm v, sM v, sS v)].flatten) X 2 rfl (sM v) (ix_nI (by omega) (by decide)) rfl dX4_addMeeting_61 ?_
          refine g_aload_n X 0 dX4_addMeeting_62 rfl ?_
          refine g_getf (v := .ref (a 3)) X fs_X4_18 0 rfl rfl dX4_addMeeting_63 ?_
          refine g_aload_n X 0 dX4_addMeeting_66 rfl ?_
          refine g_getf (v := .int (nI (sM v))) X fs_X4_30 0 rfl rfl dX4_addMeeting_67 ?_
          refine g_iload_n X 3 dX4_addMeeting_70 rfl ?_
          refine g_iast (ws' := [wSv E a (upd (sKd v) (sM v) k, upd (sX v) (sM v) x, upd (sY v) (sM v) y, sU v, sV v, sNm v, sM v, sS v)].flatten) X 3 rfl (sM v) (ix_nI (by omega) (by decide)) rfl dX4_addMeeting_71 ?_
          refine g_aload_n X 0 dX4_addMeeting_72 rfl ?_
          refine g_dup X dX4_addMeeting_73 rfl ?_
          refine g_getf (v := .int (nI (sM v))) X fs_X4_30 0 rfl rfl dX4_addMeeting_74 ?_
          refine g_iconst (v := (nI 1)) X dX4_addMeeting_77 rfl ?_
          refine g_iaddN X dX4_addMeeting_78 ?_
          refine g_putf (ws' := [wSv E a (upd (sKd v) (sM v) k, upd (sX v) (sM v) x, upd (sY v) (sM v) y, sU v, sV v, sNm v, (sM v) + 1, sS v)].flatten) X ps_X4_30 0 rfl rfl rfl (Nat.le_of_ble_eq_true rfl) rfl dX4_addMeeting_79 ?_
          refine g_iconst (v := (nI 1)) X dX4_addMeeting_82 rfl ?_
          exact g_zretv (r := (nI 1)) X hx rfl (by simp [addMok, b2i, c_6, f_c_6, fn_c_6, c_15, c_27, c_37]; try rfl) (by simp [svAddM, addMok, c_6, f_c_6, fn_c_6, c_15, c_27, c_37]) dX4_addMeeting_83
        · refine g_iconst (v := (nI 0)) X dX4_addMeeting_40 rfl ?_
          exact g_zretv (r := (nI 0)) X hx rfl (by simp [addMok, b2i, c_6, f_c_6, fn_c_6, c_15, c_27, c_37]; try rfl) (by simp [svAddM, addMok, c_6, f_c_6, fn_c_6, c_15, c_27, c_37]) dX4_addMeeting_41
    · refine g_iconst (v := (nI 0)) X dX4_addMeeting_18 rfl ?_
      exact g_zretv (r := (nI 0)) X hx rfl (by simp [addMok, b2i, c_6, f_c_6, fn_c_6, c_15]; try rfl) (by simp [svAddM, addMok, c_6, f_c_6, fn_c_6, c_15]) dX4_addMeeting_19
set_option maxHeartbeats 4000000 in
set_option maxRecDepth 100000 in
theorem c_X4_addStreet (E : GE) (a : Nat → Nat) (v : SV) (u : Int32) (w : Int32) (n : Int32) (hv : okS v) : CT E m_X4_addStreet [.ref (a 0), .int u, .int w, .int n] ([wSv E a v].flatten) (some (.int (b2i (addSok v u w n)))) ([wSv E a (svAddS v u w n)].flatten) := by
  refine CT.intro (by decide +kernel) (Nat.le_of_ble_eq_true rfl) (fun Γ X hx => ?_)
  refine GG.lv [0, 1, 2, 3] (lv' := [(0, .ref (a 0)), (1, .int u), (2, .int w), (3, .int n)]) rfl ?_
  have hv1 : sM v ≤ 8 := hv.1
  have hv2 : sS v ≤ 8 := hv.2
  refine g_aload_n X 0 dX4_addStreet_0 rfl ?_
  refine g_getf (v := .int (nI (sS v))) X fs_X4_34 0 rfl rfl dX4_addStreet_1 ?_
  refine g_bipush (v := (nI 8)) X dX4_addStreet_4 rfl ?_
  refine g_icmp_ge (tgt := 30) X dX4_addStreet_6 (by decide) (fun c_6 => ?_) (fun c_6 => ?_)
  · have f_c_6 : 8 ≤ sS v := n_le (by omega) (by omega) c_6
    have fn_c_6 := Nat.not_lt.mpr f_c_6
    refine g_iconst (v := (nI 0)) X dX4_addStreet_30 rfl ?_
    exact g_zretv (r := (nI 0)) X hx rfl (by simp [addSok, b2i, c_6, f_c_6, fn_c_6]; try rfl) (by simp [svAddS, addSok, c_6, f_c_6, fn_c_6]) dX4_addStreet_31
  · have f_c_6 : sS v < 8 := n_nle (by omega) (by omega) c_6
    have fn_c_6 := Nat.not_le.mpr f_c_6
    refine g_aload_n X 0 dX4_addStreet_9 rfl ?_
    refine g_iload_n X 1 dX4_addStreet_10 rfl ?_
    refine g_callVr (st2 := [.int (b2i (hasN (sM v) u))]) (q0 := 0) X (c_X4_hasMeeting E a v u) cs_X4_43 rfl [0] [] 1 rfl (by decide) rfl rfl rfl rfl rfl (Nat.le_of_ble_eq_true rfl) dX4_addStreet_11 rfl ?_
    refine g_bif_eq (tgt := 30) X dX4_addStreet_14 (by decide) (fun c_14 => ?_) (fun c_14 => ?_)
    · refine g_iconst (v := (nI 0)) X dX4_addStreet_30 rfl ?_
      exact g_zretv (r := (nI 0)) X hx rfl (by simp [addSok, b2i, c_6, f_c_6, fn_c_6, c_14]; try rfl) (by simp [svAddS, addSok, c_6, f_c_6, fn_c_6, c_14]) dX4_addStreet_31
    · refine g_aload_n X 0 dX4_addStreet_17 rfl ?_
      refine g_iload_n X 2 dX4_addStreet_18 rfl ?_
      refine g_callVr (st2 := [.int (b2i (hasN (sM v) w))]) (q0 := 0) X (c_X4_hasMeeting E a v w) cs_X4_43 rfl [0] [] 1 rfl (by decide) rfl rfl rfl rfl rfl (Nat.le_of_ble_eq_true rfl) dX4_addStreet_19 rfl ?_
      refine g_bif_eq (tgt := 30) X dX4_addStreet_22 (by decide) (fun c_22 => ?_) (fun c_22 => ?_)
      · refine g_iconst (v := (nI 0)) X dX4_addStreet_30 rfl ?_
        exact g_zretv (r := (nI 0)) X hx rfl (by simp [addSok, b2i, c_6, f_c_6, fn_c_6, c_14, c_22]; try rfl) (by simp [svAddS, addSok, c_6, f_c_6, fn_c_6, c_14, c_22]) dX4_addStreet_31
      · refine g_iload_n X 1 dX4_addStreet_25 rfl ?_
        refine g_iload_n X 2 dX4_addStreet_26 rfl ?_
        refine g_icmp_ne (tgt := 32) X dX4_addStreet_27 (by decide) (fun c_27 => ?_) (fun c_27 => ?_)
        · refine g_aload_n X 0 dX4_addStreet_32 rfl ?_
          refine g_iload_n X 1 dX4_addStreet_33 rfl ?_
          refine g_iload_n X 2 dX4_addStreet_34 rfl ?_
          refine g_callVr (st2 := [.int (oI (sbF v u w))]) (q0 := 0) X (c_X4_streetBetween E a v u w (by first | assumption | omega)) cs_X4_65 rfl [0] [] 1 rfl (by decide) rfl rfl rfl rfl rfl (Nat.le_of_ble_eq_true rfl) dX4_addStreet_35 rfl ?_
          refine g_iconst (v := (-1)) X dX4_addStreet_38 rfl ?_
          refine g_icmp_ne (tgt := 52) X dX4_addStreet_39 (by decide) (fun c_39 => ?_) (fun c_39 => ?_)
          · refine g_iconst (v := (nI 0)) X dX4_addStreet_52 rfl ?_
            exact g_zretv (r := (nI 0)) X hx rfl (by simp [addSok, b2i, c_6, f_c_6, fn_c_6, c_14, c_22, c_27, c_39]; try rfl) (by simp [svAddS, addSok, c_6, f_c_6, fn_c_6, c_14, c_22, c_27, c_39]) dX4_addStreet_53
          · refine g_iload_n X 3 dX4_addStreet_42 rfl ?_
            refine g_iconst (v := (nI 0)) X dX4_addStreet_43 rfl ?_
            refine g_bipush (v := (nI 9)) X dX4_addStreet_44 rfl ?_
            refine g_callN (st2 := [.int (b2i (inR n (nI 0) (nI 9)))]) X (c_X9_isWithin E n (nI 0) (nI 9)) cs_X4_61 rfl rfl rfl (Nat.le_of_ble_eq_true rfl) dX4_addStreet_46 rfl ?_
            refine g_bif_ne (tgt := 54) X dX4_addStreet_49 (by decide) (fun c_49 => ?_) (fun c_49 => ?_)
            · refine g_aload_n X 0 dX4_addStreet_54 rfl ?_
              refine g_getf (v := .ref (a 4)) X fs_X4_21 0 rfl rfl dX4_addStreet_55 ?_
              refine g_aload_n X 0 dX4_addStreet_58 rfl ?_
              refine g_getf (v := .int (nI (sS v))) X fs_X4_34 0 rfl rfl dX4_addStreet_59 ?_
              refine g_iload_n X 1 dX4_addStreet_62 rfl ?_
              refine g_iast (ws' := [wSv E a (sKd v, sX v, sY v, upd (sU v) (sS v) u, sV v, sNm v, sM v, sS v)].flatten) X 4 rfl (sS v) (ix_nI (by omega) (by decide)) rfl dX4_addStreet_63 ?_
              refine g_aload_n X 0 dX4_addStreet_64 rfl ?_
              refine g_getf (v := .ref (a 5)) X fs_X4_24 0 rfl rfl dX4_addStreet_65 ?_
              refine g_aload_n X 0 dX4_addStreet_68 rfl ?_
              refine g_getf (v := .int (nI (sS v))) X fs_X4_34 0 rfl rfl dX4_addStreet_69 ?_
              refine g_iload_n X 2 dX4_addStreet_72 rfl ?_
              refine g_iast (ws' := [wSv E a (sKd v, sX v, sY v, upd (sU v) (sS v) u, upd (sV v) (sS v) w, sNm v, sM v, sS v)].flatten) X 5 rfl (sS v) (ix_nI (by omega) (by decide)) rfl dX4_addStreet_73 ?_
              refine g_aload_n X 0 dX4_addStreet_74 rfl ?_
              refine g_getf (v := .ref (a 6)) X fs_X4_27 0 rfl rfl dX4_addStreet_75 ?_
              refine g_aload_n X 0 dX4_addStreet_78 rfl ?_
              refine g_getf (v := .int (nI (sS v))) X fs_X4_34 0 rfl rfl dX4_addStreet_79 ?_
              refine g_iload_n X 3 dX4_addStreet_82 rfl ?_
              refine g_iast (ws' := [wSv E a (sKd v, sX v, sY v, upd (sU v) (sS v) u, upd (sV v) (sS v) w, upd (sNm v) (sS v) n, sM v, sS v)].flatten) X 6 rfl (sS v) (ix_nI (by omega) (by decide)) rfl dX4_addStreet_83 ?_
              refine g_aload_n X 0 dX4_addStreet_84 rfl ?_
              refine g_dup X dX4_addStreet_85 rfl ?_
              refine g_getf (v := .int (nI (sS v))) X fs_X4_34 0 rfl rfl dX4_addStreet_86 ?_
              refine g_iconst (v := (nI 1)) X dX4_addStreet_89 rfl ?_
              refine g_iaddN X dX4_addStreet_90 ?_
              refine g_putf (ws' := [wSv E a (sKd v, sX v, sY v, upd (sU v) (sS v) u, upd (sV v) (sS v) w, upd (sNm v) (sS v) n, sM v, (sS v) + 1)].flatten) X ps_X4_34 0 rfl rfl rfl (Nat.le_of_ble_eq_true rfl) rfl dX4_addStreet_91 ?_
              refine g_iconst (v := (nI 1)) X dX4_addStreet_94 rfl ?_
              exact g_zretv (r := (nI 1)) X hx rfl (by simp [addSok, b2i, c_6, f_c_6, fn_c_6, c_14, c_22, c_27, c_39, c_49]; try rfl) (by simp [svAddS, addSok, c_6, f_c_6, fn_c_6, c_14, c_22, c_27, c_39, c_49]) dX4_addStreet_95
            · refine g_iconst (v := (nI 0)) X dX4_addStreet_52 rfl ?_
              exact g_zretv (r := (nI 0)) X hx rfl (by simp [addSok, b2i, c_6, f_c_6, fn_c_6, c_14, c_22, c_27, c_39, c_49]; try rfl) (by simp [svAddS, addSok, c_6, f_c_6, fn_c_6, c_14, c_22, c_27, c_39, c_49]) dX4_addStreet_53
        · refine g_iconst (v := (nI 0)) X dX4_addStreet_30 rfl ?_
          exact g_zretv (r := (nI 0)) X hx rfl (by simp [addSok, b2i, c_6, f_c_6, fn_c_6, c_14, c_22, c_27]; try rfl) (by simp [svAddS, addSok, c_6, f_c_6, fn_c_6, c_14, c_22, c_27]) dX4_addStreet_31
set_option maxHeartbeats 4000000 in
set_option maxRecDepth 100000 in
theorem c_X4_put (E : GE) (a : Nat → Nat) (v : SV) (j : Nat) (x : Int32) (y : Int32) (hv : okS v) (hj : j < sM v) : CT E m_X4_put [.ref (a 0), .int (nI j), .int x, .int y] ([wSv E a v].flatten) none ([wSv E a (svPut v j x y)].flatten) := by
  refine CT.intro (by decide +kernel) (Nat.le_of_ble_eq_true rfl) (fun Γ X hx => ?_)
  refine GG.lv [0, 1, 2, 3] (lv' := [(0, .ref (a 0)), (1, .int (nI j)), (2, .int x), (3, .int y)]) rfl ?_
  have hv1 : sM v ≤ 8 := hv.1
  have hv2 : sS v ≤ 8 := hv.2
  refine g_aload_n X 0 dX4_put_0 rfl ?_
  refine g_iload_n X 1 dX4_put_1 rfl ?_
  refine g_callVr (st2 := [.int (b2i (hasN (sM v) (nI j)))]) (q0 := 0) X (c_X4_hasMeeting E a v (nI j)) cs_X4_43 rfl [0] [] 1 rfl (by decide) rfl rfl rfl rfl rfl (Nat.le_of_ble_eq_true rfl) dX4_put_2 rfl ?_
  refine g_bif_eq (tgt := 22) X dX4_put_5 (by decide) (fun c_5 => absurd (hasN_t hj (by omega)) (by rw [c_5]; decide)) (fun c_5 => ?_)
  refine g_aload_n X 0 dX4_put_8 rfl ?_
  refine g_getf (v := .ref (a 2)) X fs_X4_15 0 rfl rfl dX4_put_9 ?_
  refine g_iload_n X 1 dX4_put_12 rfl ?_
  refine g_iload_n X 2 dX4_put_13 rfl ?_
  refine g_iast (ws' := [wSv E a (sKd v, upd (sX v) j x, sY v, sU v, sV v, sNm v, sM v, sS v)].flatten) X 2 rfl j (ix_nI (by omega) (by decide)) rfl dX4_put_14 ?_
  refine g_aload_n X 0 dX4_put_15 rfl ?_
  refine g_getf (v := .ref (a 3)) X fs_X4_18 0 rfl rfl dX4_put_16 ?_
  refine g_iload_n X 1 dX4_put_19 rfl ?_
  refine g_iload_n X 3 dX4_put_20 rfl ?_
  refine g_iast (ws' := [wSv E a (sKd v, upd (sX v) j x, upd (sY v) j y, sU v, sV v, sNm v, sM v, sS v)].flatten) X 3 rfl j (ix_nI (by omega) (by decide)) rfl dX4_put_21 ?_
  exact g_vret X hx rfl rfl (by rfl) dX4_put_22
set_option maxHeartbeats 4000000 in
set_option maxRecDepth 100000 in
theorem c_X4_setKind (E : GE) (a : Nat → Nat) (v : SV) (j : Nat) (k : Int32) (hv : okS v) (hj : j < sM v) : CT E m_X4_setKind [.ref (a 0), .int (nI j), .int k] ([wSv E a v].flatten) none ([wSv E a (svKind v j k)].flatten) := by
  refine CT.intro (by decide +kernel) (Nat.le_of_ble_eq_true rfl) (fun Γ X hx => ?_)
  refine GG.lv [0, 1, 2] (lv' := [(0, .ref (a 0)), (1, .int (nI j)), (2, .int k)]) rfl ?_
  have hv1 : sM v ≤ 8 := hv.1
  have hv2 : sS v ≤ 8 := hv.2
  refine g_aload_n X 0 dX4_setKind_0 rfl ?_
  refine g_iload_n X 1 dX4_setKind_1 rfl ?_
  refine g_callVr (st2 := [.int (b2i (hasN (sM v) (nI j)))]) (q0 := 0) X (c_X4_hasMeeting E a v (nI j)) cs_X4_43 rfl [0] [] 1 rfl (by decide) rfl rfl rfl rfl rfl (Nat.le_of_ble_eq_true rfl) dX4_setKind_2 rfl ?_
  refine g_bif_eq (tgt := 15) X dX4_setKind_5 (by decide) (fun c_5 => absurd (hasN_t hj (by omega)) (by rw [c_5]; decide)) (fun c_5 => ?_)
  refine g_aload_n X 0 dX4_setKind_8 rfl ?_
  refine g_getf (v := .ref (a 1)) X fs_X4_9 0 rfl rfl dX4_setKind_9 ?_
  refine g_iload_n X 1 dX4_setKind_12 rfl ?_
  refine g_iload_n X 2 dX4_setKind_13 rfl ?_
  refine g_iast (ws' := [wSv E a (upd (sKd v) j k, sX v, sY v, sU v, sV v, sNm v, sM v, sS v)].flatten) X 1 rfl j (ix_nI (by omega) (by decide)) rfl dX4_setKind_14 ?_
  exact g_vret X hx rfl rfl (by rfl) dX4_setKind_15
set_option maxHeartbeats 4000000 in
set_option maxRecDepth 100000 in
theorem c_X4_setName (E : GE) (a : Nat → Nat) (v : SV) (j : Nat) (n : Int32) (hv : okS v) (hj : j < sS v) : CT E m_X4_setName [.ref (a 0), .int (nI j), .int n] ([wSv E a v].flatten) none ([wSv E a (svName v j n)].flatten) := by
  refine CT.intro (by decide +kernel) (Nat.le_of_ble_eq_true rfl) (fun Γ X hx => ?_)
  refine GG.lv [0, 1, 2] (lv' := [(0, .ref (a 0)), (1, .int (nI j)), (2, .int n)]) rfl ?_
  have hv1 : sM v ≤ 8 := hv.1
  have hv2 : sS v ≤ 8 := hv.2
  refine g_aload_n X 0 dX4_setName_0 rfl ?_
  refine g_iload_n X 1 dX4_setName_1 rfl ?_
  refine g_callVr (st2 := [.int (b2i (hasN (sS v) (nI j)))]) (q0 := 0) X (c_X4_hasStreet E a v (nI j)) cs_X4_47 rfl [0] [] 1 rfl (by decide) rfl rfl rfl rfl rfl (Nat.le_of_ble_eq_true rfl) dX4_setName_2 rfl ?_
  refine g_bif_eq (tgt := 15) X dX4_setName_5 (by decide) (fun c_5 => absurd (hasN_t hj (by omega)) (by rw [c_5]; decide)) (fun c_5 => ?_)
  refine g_aload_n X 0 dX4_setName_8 rfl ?_
  refine g_getf (v := .ref (a 6)) X fs_X4_27 0 rfl rfl dX4_setName_9 ?_
  refine g_iload_n X 1 dX4_setName_12 rfl ?_
  refine g_iload_n X 2 dX4_setName_13 rfl ?_
  refine g_iast (ws' := [wSv E a (sKd v, sX v, sY v, sU v, sV v, upd (sNm v) j n, sM v, sS v)].flatten) X 6 rfl j (ix_nI (by omega) (by decide)) rfl dX4_setName_14 ?_
  exact g_vret X hx rfl rfl (by rfl) dX4_setName_15
set_option maxHeartbeats 4000000 in
set_option maxRecDepth 100000 in
theorem c_X4_clear (E : GE) (a : Nat → Nat) (v : SV) : CT E m_X4_clear [.ref (a 0)] ([wSv E a v].flatten) none ([wSv E a (sKd v, sX v, sY v, sU v, sV v, sNm v, 0, 0)].flatten) := by
  refine CT.intro (by decide +kernel) (Nat.le_of_ble_eq_true rfl) (fun Γ X hx => ?_)
  refine GG.lv [0] (lv' := [(0, .ref (a 0))]) rfl ?_
  refine g_aload_n X 0 dX4_clear_0 rfl ?_
  refine g_iconst (v := (nI 0)) X dX4_clear_1 rfl ?_
  refine g_putf (ws' := [wSv E a (sKd v, sX v, sY v, sU v, sV v, sNm v, 0, sS v)].flatten) X ps_X4_30 0 rfl rfl rfl (Nat.le_of_ble_eq_true rfl) rfl dX4_clear_2 ?_
  refine g_aload_n X 0 dX4_clear_5 rfl ?_
  refine g_iconst (v := (nI 0)) X dX4_clear_6 rfl ?_
  refine g_putf (ws' := [wSv E a (sKd v, sX v, sY v, sU v, sV v, sNm v, 0, 0)].flatten) X ps_X4_34 0 rfl rfl rfl (Nat.le_of_ble_eq_true rfl) rfl dX4_clear_7 ?_
  exact g_vret X hx rfl rfl (by rfl) dX4_clear_10
set_option maxHeartbeats 4000000 in
set_option maxRecDepth 100000 in
theorem c_X4_copy (E : GE) (a : Nat → Nat) (b : Nat → Nat) (v : SV) (o : SV) : CT E m_X4_copy [.ref (a 0), .ref (b 0)] ([wSv E a v, wSv E b o].flatten) none ([wSv E a (svCopy o v), wSv E b o].flatten) := by
  refine CT.intro (by decide +kernel) (Nat.le_of_ble_eq_true rfl) (fun Γ X hx => ?_)
  refine GG.lv [0, 1] (lv' := [(0, .ref (a 0)), (1, .ref (b 0))]) rfl ?_
  refine g_aload_n X 1 dX4_copy_0 rfl ?_
  refine g_getf (v := .ref (b 1)) X fs_X4_9 7 rfl rfl dX4_copy_1 ?_
  refine g_iconst (v := (nI 0)) X dX4_copy_4 rfl ?_
  refine g_aload_n X 0 dX4_copy_5 rfl ?_
  refine g_getf (v := .ref (a 1)) X fs_X4_9 0 rfl rfl dX4_copy_6 ?_
  refine g_iconst (v := (nI 0)) X dX4_copy_9 rfl ?_
  refine g_bipush (v := (nI 8)) X dX4_copy_10 rfl ?_
  refine g_copy (ws' := [wSv E a (va_cpy (sKd o) (sKd v) 0 0 8, sX v, sY v, sU v, sV v, sNm v, sM v, sS v), wSv E b o].flatten) X cs_X4_37 8 1 rfl rfl (ix_nI (by decide) (by decide)) rfl ⟨by decide, by decide⟩ dX4_copy_12 ?_
  refine g_aload_n X 1 dX4_copy_15 rfl ?_
  refine g_getf (v := .ref (b 2)) X fs_X4_15 7 rfl rfl dX4_copy_16 ?_
  refine g_iconst (v := (nI 0)) X dX4_copy_19 rfl ?_
  refine g_aload_n X 0 dX4_copy_20 rfl ?_
  refine g_getf (v := .ref (a 2)) X fs_X4_15 0 rfl rfl dX4_copy_21 ?_
  refine g_iconst (v := (nI 0)) X dX4_copy_24 rfl ?_
  refine g_bipush (v := (nI 8)) X dX4_copy_25 rfl ?_
  refine g_copy (ws' := [wSv E a (va_cpy (sKd o) (sKd v) 0 0 8, va_cpy (sX o) (sX v) 0 0 8, sY v, sU v, sV v, sNm v, sM v, sS v), wSv E b o].flatten) X cs_X4_37 9 2 rfl rfl (ix_nI (by decide) (by decide)) rfl ⟨by decide, by decide⟩ dX4_copy_27 ?_
  refine g_aload_n X 1 dX4_copy_30 rfl ?_
  refine g_getf (v := .ref (b 3)) X fs_X4_18 7 rfl rfl dX4_copy_31 ?_
  refine g_iconst (v := (nI 0)) X dX4_copy_34 rfl ?_
  refine g_aload_n X 0 dX4_copy_35 rfl ?_
  refine g_getf (v := .ref (a 3)) X fs_X4_18 0 rfl rfl dX4_copy_36 ?_
  refine g_iconst (v := (nI 0)) X dX4_copy_39 rfl ?_
  refine g_bipush (v := (nI 8)) X dX4_copy_40 rfl ?_
  refine g_copy (ws' := [wSv E a (va_cpy (sKd o) (sKd v) 0 0 8, va_cpy (sX o) (sX v) 0 0 8, va_cpy (sY o) (sY v) 0 0 8, sU v, sV v, sNm v, sM v, sS v), wSv E b o].flatten) X cs_X4_37 10 3 rfl rfl (ix_nI (by decide) (by decide)) rfl ⟨by decide, by decide⟩ dX4_copy_42 ?_
  refine g_aload_n X 1 dX4_copy_45 rfl ?_
  refine g_getf (v := .ref (b 4)) X fs_X4_21 7 rfl rfl dX4_copy_46 ?_
  refine g_iconst (v := (nI 0)) X dX4_copy_49 rfl ?_
  refine g_aload_n X 0 dX4_copy_50 rfl ?_
  refine g_getf (v := .ref (a 4)) X fs_X4_21 0 rfl rfl dX4_copy_51 ?_
  refine g_iconst (v := (nI 0)) X dX4_copy_54 rfl ?_
  refine g_bipush (v := (nI 8)) X dX4_copy_55 rfl ?_
  refine g_copy (ws' := [wSv E a (va_cpy (sKd o) (sKd v) 0 0 8, va_cpy (sX o) (sX v) 0 0 8, va_cpy (sY o) (sY v) 0 0 8, va_cpy (sU o) (sU v) 0 0 8, sV v, sNm v, sM v, sS v), wSv E b o].flatten) X cs_X4_37 11 4 rfl rfl (ix_nI (by decide) (by decide)) rfl ⟨by decide, by decide⟩ dX4_copy_57 ?_
  refine g_aload_n X 1 dX4_copy_60 rfl ?_
  refine g_getf (v := .ref (b 5)) X fs_X4_24 7 rfl rfl dX4_copy_61 ?_
  refine g_iconst (v := (nI 0)) X dX4_copy_64 rfl ?_
  refine g_aload_n X 0 dX4_copy_65 rfl ?_
  refine g_getf (v := .ref (a 5)) X fs_X4_24 0 rfl rfl dX4_copy_66 ?_
  refine g_iconst (v := (nI 0)) X dX4_copy_69 rfl ?_
  refine g_bipush (v := (nI 8)) X dX4_copy_70 rfl ?_
  refine g_copy (ws' := [wSv E a (va_cpy (sKd o) (sKd v) 0 0 8, va_cpy (sX o) (sX v) 0 0 8, va_cpy (sY o) (sY v) 0 0 8, va_cpy (sU o) (sU v) 0 0 8, va_cpy (sV o) (sV v) 0 0 8, sNm v, sM v, sS v), wSv E b o].flatten) X cs_X4_37 12 5 rfl rfl (ix_nI (by decide) (by decide)) rfl ⟨by decide, by decide⟩ dX4_copy_72 ?_
  refine g_aload_n X 1 dX4_copy_75 rfl ?_
  refine g_getf (v := .ref (b 6)) X fs_X4_27 7 rfl rfl dX4_copy_76 ?_
  refine g_iconst (v := (nI 0)) X dX4_copy_79 rfl ?_
  refine g_aload_n X 0 dX4_copy_80 rfl ?_
  refine g_getf (v := .ref (a 6)) X fs_X4_27 0 rfl rfl dX4_copy_81 ?_
  refine g_iconst (v := (nI 0)) X dX4_copy_84 rfl ?_
  refine g_bipush (v := (nI 8)) X dX4_copy_85 rfl ?_
  refine g_copy (ws' := [wSv E a (va_cpy (sKd o) (sKd v) 0 0 8, va_cpy (sX o) (sX v) 0 0 8, va_cpy (sY o) (sY v) 0 0 8, va_cpy (sU o) (sU v) 0 0 8, va_cpy (sV o) (sV v) 0 0 8, va_cpy (sNm o) (sNm v) 0 0 8, sM v, sS v), wSv E b o].flatten) X cs_X4_37 13 6 rfl rfl (ix_nI (by decide) (by decide)) rfl ⟨by decide, by decide⟩ dX4_copy_87 ?_
  refine g_aload_n X 0 dX4_copy_90 rfl ?_
  refine g_aload_n X 1 dX4_copy_91 rfl ?_
  refine g_getf (v := .int (nI (sM o))) X fs_X4_30 7 rfl rfl dX4_copy_92 ?_
  refine g_putf (ws' := [wSv E a (va_cpy (sKd o) (sKd v) 0 0 8, va_cpy (sX o) (sX v) 0 0 8, va_cpy (sY o) (sY v) 0 0 8, va_cpy (sU o) (sU v) 0 0 8, va_cpy (sV o) (sV v) 0 0 8, va_cpy (sNm o) (sNm v) 0 0 8, sM o, sS v), wSv E b o].flatten) X ps_X4_30 0 rfl rfl rfl (Nat.le_of_ble_eq_true rfl) rfl dX4_copy_95 ?_
  refine g_aload_n X 0 dX4_copy_98 rfl ?_
  refine g_aload_n X 1 dX4_copy_99 rfl ?_
  refine g_getf (v := .int (nI (sS o))) X fs_X4_34 7 rfl rfl dX4_copy_100 ?_
  refine g_putf (ws' := [wSv E a (va_cpy (sKd o) (sKd v) 0 0 8, va_cpy (sX o) (sX v) 0 0 8, va_cpy (sY o) (sY v) 0 0 8, va_cpy (sU o) (sU v) 0 0 8, va_cpy (sV o) (sV v) 0 0 8, va_cpy (sNm o) (sNm v) 0 0 8, sM o, sS o), wSv E b o].flatten) X ps_X4_34 0 rfl rfl rfl (Nat.le_of_ble_eq_true rfl) rfl dX4_copy_103 ?_
  exact g_vret X hx rfl rfl (by rfl) dX4_copy_106
set_option maxHeartbeats 4000000 in
set_option maxRecDepth 100000 in
theorem c_X4_dropStreet (E : GE) (a : Nat → Nat) (v : SV) (j : Nat) (hv : okS v) (hj : j < sS v) : CT E m_X4_dropStreet [.ref (a 0), .int (nI j)] ([wSv E a v].flatten) none ([wSv E a (svDrop v j)].flatten) := by
  refine CT.intro (by decide +kernel) (Nat.le_of_ble_eq_true rfl) (fun Γ X hx => ?_)
  refine GG.lv [0, 1] (lv' := [(0, .ref (a 0)), (1, .int (nI j))]) rfl ?_
  have hv1 : sM v ≤ 8 := hv.1
  have hv2 : sS v ≤ 8 := hv.2
  refine g_aload_n X 0 dX4_dropStreet_0 rfl ?_
  refine g_iload_n X 1 dX4_dropStreet_1 rfl ?_
  refine g_callVr (st2 := [.int (b2i (hasN (sS v) (nI j)))]) (q0 := 0) X (c_X4_hasStreet E a v (nI j)) cs_X4_47 rfl [0] [] 1 rfl (by decide) rfl rfl rfl rfl rfl (Nat.le_of_ble_eq_true rfl) dX4_dropStreet_2 rfl ?_
  refine g_bif_ne (tgt := 9) X dX4_dropStreet_5 (by decide) (fun c_5 => ?_) (fun c_5 => absurd (hasN_t hj (by omega)) (by rw [c_5]; decide))
  refine g_iload_n X 1 dX4_dropStreet_9 rfl ?_
  refine g_iconst (v := (nI 1)) X dX4_dropStreet_10 rfl ?_
  refine g_iaddN X dX4_dropStreet_11 ?_
  refine g_istore_n (lv' := [(2, .int (nI (j + 1))), (0, .ref (a 0)), (1, .int (nI j))]) X dX4_dropStreet_12 (by decide) rfl ?_
  have L_13 : ∀ (n_13 : Nat) (k : Nat) (hk : k ≤ sS v) (hjk : j < k) (hm_13 : sS v - k < n_13) (x_2 : Int32) (ex_2 : x_2 = (nI k)) (u_0 : Nat → Int32) (eu_0 : u_0 = shF (sU v) j k) (u_1 : Nat → Int32) (eu_1 : u_1 = shF (sV v) j k) (u_2 : Nat → Int32) (eu_2 : u_2 = shF (sNm v) j k), GG E m_X4_dropStreet Γ 0 0 ([wSv E a (sKd v, sX v, sY v, u_0, u_1, u_2, sM v, sS v)].flatten) [(0, .ref (a 0)), (1, .int (nI j)), (2, .int x_2)] 13 [] := by
    intro n_13
    induction n_13 with
    | zero => intro k hk hjk hm_13; exact absurd hm_13 (Nat.not_lt_zero _)
    | succ n_13 ih_13 =>
      intro k hk hjk hm_13 x_2 ex_2 u_0 eu_0 u_1 eu_1 u_2 eu_2
      subst ex_2
      subst eu_0
      subst eu_1
      subst eu_2
      refine g_iload_n X 2 dX4_dropStreet_13 rfl ?_
      refine g_aload_n X 0 dX4_dropStreet_14 rfl ?_
      refine g_getf (v := .int (nI (sS v))) X fs_X4_34 0 rfl rfl dX4_dropStreet_15 ?_
      refine g_icmp_ge (tgt := 69) X dX4_dropStreet_18 (by decide) (fun c_18 => ?_) (fun c_18 => ?_)
      · have f_c_18 : sS v ≤ k := n_le (by omega) (by omega) c_18
        have fn_c_18 := Nat.not_lt.mpr f_c_18
        refine g_aload_n X 0 dX4_dropStreet_69 rfl ?_
        refine g_dup X dX4_dropStreet_70 rfl ?_
        refine g_getf (v := .int (nI (sS v))) X fs_X4_34 0 rfl rfl dX4_dropStreet_71 ?_
        refine g_iconst (v := (nI 1)) X dX4_dropStreet_74 rfl ?_
        refine g_isubN X (by omega) dX4_dropStreet_75 ?_
        refine g_putf (ws' := [wSv E a (sKd v, sX v, sY v, shF (sU v) j k, shF (sV v) j k, shF (sNm v) j k, sM v, (sS v) - 1)].flatten) X ps_X4_34 0 rfl rfl rfl (Nat.le_of_ble_eq_true rfl) rfl dX4_dropStreet_76 ?_
        exact g_vret X hx rfl rfl (by unfold svDrop; rw [show sS v = k by omega]) dX4_dropStreet_79
      · have f_c_18 : k < sS v := n_nle (by omega) (by omega) c_18
        have fn_c_18 := Nat.not_le.mpr f_c_18
        refine g_aload_n X 0 dX4_dropStreet_21 rfl ?_
        refine g_getf (v := .ref (a 4)) X fs_X4_21 0 rfl rfl dX4_dropStreet_22 ?_
        refine g_iload_n X 2 dX4_dropStreet_25 rfl ?_
        refine g_iconst (v := (nI 1)) X dX4_dropStreet_26 rfl ?_
        refine g_isubN X (by omega) dX4_dropStreet_27 ?_
        refine g_aload_n X 0 dX4_dropStreet_28 rfl ?_
        refine g_getf (v := .ref (a 4)) X fs_X4_21 0 rfl rfl dX4_dropStreet_29 ?_
        refine g_iload_n X 2 dX4_dropStreet_32 rfl ?_
        refine g_iald X 4 rfl k (ix_nI (by omega) (by decide)) dX4_dropStreet_33 ?_
        refine g_iast (ws' := [wSv E a (sKd v, sX v, sY v, upd (shF (sU v) j k) (k - 1) ((shF (sU v) j k) k), shF (sV v) j k, shF (sNm v) j k, sM v, sS v)].flatten) X 4 rfl (k - 1) (ix_nI (by omega) (by decide)) rfl dX4_dropStreet_34 ?_
        refine g_aload_n X 0 dX4_dropStreet_35 rfl ?_
        refine g_getf (v := .ref (a 5)) X fs_X4_24 0 rfl rfl dX4_dropStreet_36 ?_
        refine g_iload_n X 2 dX4_dropStreet_39 rfl ?_
        refine g_iconst (v := (nI 1)) X dX4_dropStreet_40 rfl ?_
        refine g_isubN X (by omega) dX4_dropStreet_41 ?_
        refine g_aload_n X 0 dX4_dropStreet_42 rfl ?_
        refine g_getf (v := .ref (a 5)) X fs_X4_24 0 rfl rfl dX4_dropStreet_43 ?_
        refine g_iload_n X 2 dX4_dropStreet_46 rfl ?_
        refine g_iald X 5 rfl k (ix_nI (by omega) (by decide)) dX4_dropStreet_47 ?_
        refine g_iast (ws' := [wSv E a (sKd v, sX v, sY v, upd (shF (sU v) j k) (k - 1) ((shF (sU v) j k) k), upd (shF (sV v) j k) (k - 1) ((shF (sV v) j k) k), shF (sNm v) j k, sM v, sS v)].flatten) X 5 rfl (k - 1) (ix_nI (by omega) (by decide)) rfl dX4_dropStreet_48 ?_
        refine g_aload_n X 0 dX4_dropStreet_49 rfl ?_
        refine g_getf (v := .ref (a 6)) X fs_X4_27 0 rfl rfl dX4_dropStreet_50 ?_
        refine g_iload_n X 2 dX4_dropStreet_53 rfl ?_
        refine g_iconst (v := (nI 1)) X dX4_dropStreet_54 rfl ?_
        refine g_isubN X (by omega) dX4_dropStreet_55 ?_
        refine g_aload_n X 0 dX4_dropStreet_56 rfl ?_
        refine g_getf (v := .ref (a 6)) X fs_X4_27 0 rfl rfl dX4_dropStreet_57 ?_
        refine g_iload_n X 2 dX4_dropStreet_60 rfl ?_
        refine g_iald X 6 rfl k (ix_nI (by omega) (by decide)) dX4_dropStreet_61 ?_
        refine g_iast (ws' := [wSv E a (sKd v, sX v, sY v, upd (shF (sU v) j k) (k - 1) ((shF (sU v) j k) k), upd (shF (sV v) j k) (k - 1) ((shF (sV v) j k) k), upd (shF (sNm v) j k) (k - 1) ((shF (sNm v) j k) k), sM v, sS v)].flatten) X 6 rfl (k - 1) (ix_nI (by omega) (by decide)) rfl dX4_dropStreet_62 ?_
        refine g_iincN (lv' := [(2, .int (nI (k + 1))), (0, .ref (a 0)), (1, .int (nI j))]) X 2 dX4_dropStreet_63 rfl (by decide) rfl ?_
        refine g_goto (tgt := 13) X dX4_dropStreet_66 (by decide) ?_
        refine GG.lv [1, 2, 0] rfl ?_
        exact ih_13 (k + 1) (by omega) (by omega) (by omega) (nI (k + 1)) (by rfl) (upd (shF (sU v) j k) (k - 1) ((shF (sU v) j k) k)) (by exact shF_s _ _ _ hjk) (upd (shF (sV v) j k) (k - 1) ((shF (sV v) j k) k)) (by exact shF_s _ _ _ hjk) (upd (shF (sNm v) j k) (k - 1) ((shF (sNm v) j k) k)) (by exact shF_s _ _ _ hjk)
  refine GG.lv [1, 2, 0] rfl ?_
  exact L_13 (sS v + 1) (j + 1) (by omega) (by omega) (by omega) (nI (j + 1)) (by rfl) (sU v) (by exact (shF_0 _ _).symm) (sV v) (by exact (shF_0 _ _).symm) (sNm v) (by exact (shF_0 _ _).symm)
