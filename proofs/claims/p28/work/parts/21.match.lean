set_option maxHeartbeats 4000000 in
set_option maxRecDepth 100000 in
theorem c_X0_areNumbers (E : GE) (k : Int32) (l : Int32) : CT E m_X0_areNumbers [.int k, .int l] ([]) (some (.int (b2i (hasN 8 k && hasN 8 l)))) ([]) := by
  refine CT.intro (by decide +kernel) (Nat.le_of_ble_eq_true rfl) (fun Γ X hx => ?_)
  refine GG.lv [0, 1] (lv' := [(0, .int k), (1, .int l)]) rfl ?_
  refine g_iload_n X 0 dX0_areNumbers_0 rfl ?_
  refine g_if_lt (tgt := 24) X dX0_areNumbers_1 (by decide) (fun c_1 => ?_) (fun c_1 => ?_)
  · refine g_iconst (v := (nI 0)) X dX0_areNumbers_24 rfl ?_
    exact g_zretv (r := (nI 0)) X hx rfl (by simp [hasN, b2i, c_1]; try rfl) (by rfl) dX0_areNumbers_25
  · refine g_iload_n X 0 dX0_areNumbers_4 rfl ?_
    refine g_bipush (v := (nI 8)) X dX0_areNumbers_5 rfl ?_
    refine g_icmp_ge (tgt := 24) X dX0_areNumbers_7 (by decide) (fun c_7 => ?_) (fun c_7 => ?_)
    · refine g_iconst (v := (nI 0)) X dX0_areNumbers_24 rfl ?_
      exact g_zretv (r := (nI 0)) X hx rfl (by simp [hasN, b2i, c_1, c_7]; try rfl) (by rfl) dX0_areNumbers_25
    · refine g_iload_n X 1 dX0_areNumbers_10 rfl ?_
      refine g_if_lt (tgt := 24) X dX0_areNumbers_11 (by decide) (fun c_11 => ?_) (fun c_11 => ?_)
      · refine g_iconst (v := (nI 0)) X dX0_areNumbers_24 rfl ?_
        exact g_zretv (r := (nI 0)) X hx rfl (by simp [hasN, b2i, c_1, c_7, c_11]; try rfl) (by rfl) dX0_areNumbers_25
      · refine g_iload_n X 1 dX0_areNumbers_14 rfl ?_
        refine g_bipush (v := (nI 8)) X dX0_areNumbers_15 rfl ?_
        refine g_icmp_ge (tgt := 24) X dX0_areNumbers_17 (by decide) (fun c_17 => ?_) (fun c_17 => ?_)
        · refine g_iconst (v := (nI 0)) X dX0_areNumbers_24 rfl ?_
          exact g_zretv (r := (nI 0)) X hx rfl (by simp [hasN, b2i, c_1, c_7, c_11, c_17]; try rfl) (by rfl) dX0_areNumbers_25
        · refine g_iconst (v := (nI 1)) X dX0_areNumbers_20 rfl ?_
          refine g_goto (tgt := 25) X dX0_areNumbers_21 (by decide) ?_
          exact g_zretv (r := (nI 1)) X hx rfl (by simp [hasN, b2i, c_1, c_7, c_11, c_17]; try rfl) (by rfl) dX0_areNumbers_25
set_option maxHeartbeats 4000000 in
set_option maxRecDepth 100000 in
theorem c_X0_beliefBefore (E : GE) (m : Nat → Nat) (rb : Nat → Nat) (rc : Nat → Nat) (P : Nat) (C : Nat → Nat → Int32) (k : Int32) (l : Int32) : CT E m_X0_beliefBefore [.ref (m 0), .int k, .int l] ([wMo E m rb rc P, wRw E rc C].flatten) (some (.int (bIn C k l))) ([wMo E m rb rc P, wRw E rc C].flatten) := by
  refine CT.intro (by decide +kernel) (Nat.le_of_ble_eq_true rfl) (fun Γ X hx => ?_)
  refine GG.lv [0, 1, 2] (lv' := [(0, .ref (m 0)), (1, .int k), (2, .int l)]) rfl ?_
  refine g_iload_n X 1 dX0_beliefBefore_0 rfl ?_
  refine g_iload_n X 2 dX0_beliefBefore_1 rfl ?_
  refine g_callSP (st2 := [.int (b2i (hasN 8 k && hasN 8 l))]) (ws' := [wMo E m rb rc P, wRw E rc C].flatten) (wr := [wMo E m rb rc P, wRw E rc C].flatten) X (c_X0_areNumbers E k l) cs_X0_54 rfl (List.Perm.refl _) rfl (List.Perm.refl _) rfl rfl (Nat.le_of_ble_eq_true rfl) dX0_beliefBefore_2 rfl ?_
  refine g_bif_eq (tgt := 19) X dX0_beliefBefore_5 (by decide) (fun c_5 => ?_) (fun c_5 => ?_)
  · refine g_iconst (v := (nI 0)) X dX0_beliefBefore_19 rfl ?_
    exact g_iretv (r := (nI 0)) X hx rfl (by first | (simp only [bIn, c_5, if_true]; rw [nI_clamp (by omega), nI_clamp (by omega)]) | simp [bIn, c_5, nI_0]) (by rfl) dX0_beliefBefore_20
  · obtain ⟨hk0, hl0⟩ := Bool.and_eq_true_iff.mp c_5
    obtain ⟨k1, hk1, rfl⟩ := hasN_nI (by decide) hk0
    obtain ⟨l1, hl1, rfl⟩ := hasN_nI (by decide) hl0
    refine g_aload_n X 0 dX0_beliefBefore_8 rfl ?_
    refine g_getf (v := .ref (m 2)) X fs_X0_16 0 rfl rfl dX0_beliefBefore_9 ?_
    refine g_iload_n X 1 dX0_beliefBefore_12 rfl ?_
    refine g_raald (y := rc k1) X 2 rfl k1 (ix_nI (by omega) (by decide)) rfl dX0_beliefBefore_13 ?_
    refine g_iload_n X 2 dX0_beliefBefore_14 rfl ?_
    refine g_rald X 1 rfl (show k1 < 8 by omega) l1 (ix_nI (by omega) (by decide)) dX0_beliefBefore_15 ?_
    refine g_goto (tgt := 20) X dX0_beliefBefore_16 (by decide) ?_
    exact g_iretv (r := (C k1 l1)) X hx rfl (by first | (simp only [bIn, c_5, if_true]; rw [nI_clamp (by omega), nI_clamp (by omega)]) | simp [bIn, c_5, nI_0]) (by rfl) dX0_beliefBefore_20
set_option maxHeartbeats 4000000 in
set_option maxRecDepth 100000 in
theorem c_X0_beliefIn (E : GE) (m : Nat → Nat) (rb : Nat → Nat) (rc : Nat → Nat) (P : Nat) (B : Nat → Nat → Int32) (k : Int32) (l : Int32) : CT E m_X0_beliefIn [.ref (m 0), .int k, .int l] ([wMo E m rb rc P, wRw E rb B].flatten) (some (.int (bIn B k l))) ([wMo E m rb rc P, wRw E rb B].flatten) := by
  refine CT.intro (by decide +kernel) (Nat.le_of_ble_eq_true rfl) (fun Γ X hx => ?_)
  refine GG.lv [0, 1, 2] (lv' := [(0, .ref (m 0)), (1, .int k), (2, .int l)]) rfl ?_
  refine g_iload_n X 1 dX0_beliefIn_0 rfl ?_
  refine g_iload_n X 2 dX0_beliefIn_1 rfl ?_
  refine g_callSP (st2 := [.int (b2i (hasN 8 k && hasN 8 l))]) (ws' := [wMo E m rb rc P, wRw E rb B].flatten) (wr := [wMo E m rb rc P, wRw E rb B].flatten) X (c_X0_areNumbers E k l) cs_X0_54 rfl (List.Perm.refl _) rfl (List.Perm.refl _) rfl rfl (Nat.le_of_ble_eq_true rfl) dX0_beliefIn_2 rfl ?_
  refine g_bif_eq (tgt := 19) X dX0_beliefIn_5 (by decide) (fun c_5 => ?_) (fun c_5 => ?_)
  · refine g_iconst (v := (nI 0)) X dX0_beliefIn_19 rfl ?_
    exact g_iretv (r := (nI 0)) X hx rfl (by first | (simp only [bIn, c_5, if_true]; rw [nI_clamp (by omega), nI_clamp (by omega)]) | simp [bIn, c_5, nI_0]) (by rfl) dX0_beliefIn_20
  · obtain ⟨hk0, hl0⟩ := Bool.and_eq_true_iff.mp c_5
    obtain ⟨k1, hk1, rfl⟩ := hasN_nI (by decide) hk0
    obtain ⟨l1, hl1, rfl⟩ := hasN_nI (by decide) hl0
    refine g_aload_n X 0 dX0_beliefIn_8 rfl ?_
    refine g_getf (v := .ref (m 1)) X fs_X0_11 0 rfl rfl dX0_beliefIn_9 ?_
    refine g_iload_n X 1 dX0_beliefIn_12 rfl ?_
    refine g_raald (y := rb k1) X 1 rfl k1 (ix_nI (by omega) (by decide)) rfl dX0_beliefIn_13 ?_
    refine g_iload_n X 2 dX0_beliefIn_14 rfl ?_
    refine g_rald X 1 rfl (show k1 < 8 by omega) l1 (ix_nI (by omega) (by decide)) dX0_beliefIn_15 ?_
    refine g_goto (tgt := 20) X dX0_beliefIn_16 (by decide) ?_
    exact g_iretv (r := (B k1 l1)) X hx rfl (by first | (simp only [bIn, c_5, if_true]; rw [nI_clamp (by omega), nI_clamp (by omega)]) | simp [bIn, c_5, nI_0]) (by rfl) dX0_beliefIn_20
set_option maxHeartbeats 4000000 in
set_option maxRecDepth 100000 in
theorem c_X0_isPair (E : GE) (m : Nat → Nat) (rb : Nat → Nat) (rc : Nat → Nat) (P : Nat) (B : Nat → Nat → Int32) (k : Int32) (l : Int32) : CT E m_X0_isPair [.ref (m 0), .int k, .int l] ([wMo E m rb rc P, wRw E rb B].flatten) (some (.int (b2i (decide (¬ bIn B k l ≤ 0))))) ([wMo E m rb rc P, wRw E rb B].flatten) := by
  refine CT.intro (by decide +kernel) (Nat.le_of_ble_eq_true rfl) (fun Γ X hx => ?_)
  refine GG.lv [0, 1, 2] (lv' := [(0, .ref (m 0)), (1, .int k), (2, .int l)]) rfl ?_
  refine g_aload_n X 0 dX0_isPair_0 rfl ?_
  refine g_iload_n X 1 dX0_isPair_1 rfl ?_
  refine g_iload_n X 2 dX0_isPair_2 rfl ?_
  refine g_callVr (st2 := [.int (bIn B k l)]) (q0 := 0) X (c_X0_beliefIn E m rb rc P B k l) cs_X0_58 rfl [0, 1] [] 2 rfl (by decide) rfl rfl rfl rfl rfl (Nat.le_of_ble_eq_true rfl) dX0_isPair_3 rfl ?_
  refine g_if_le (tgt := 13) X dX0_isPair_6 (by decide) (fun c_6 => ?_) (fun c_6 => ?_)
  · refine g_iconst (v := (nI 0)) X dX0_isPair_13 rfl ?_
    exact g_zretv (r := (nI 0)) X hx rfl (by simp [b2i, c_6]; try rfl) (by rfl) dX0_isPair_14
  · refine g_iconst (v := (nI 1)) X dX0_isPair_9 rfl ?_
    refine g_goto (tgt := 14) X dX0_isPair_10 (by decide) ?_
    exact g_zretv (r := (nI 1)) X hx rfl (by simp [b2i, c_6]; try rfl) (by rfl) dX0_isPair_14
set_option maxHeartbeats 4000000 in
set_option maxRecDepth 100000 in
theorem c_X0_pairs (E : GE) (m : Nat → Nat) (rb : Nat → Nat) (rc : Nat → Nat) (P : Nat) : CT E m_X0_pairs [.ref (m 0)] ([wMo E m rb rc P].flatten) (some (.int (nI P))) ([wMo E m rb rc P].flatten) := by
  refine CT.intro (by decide +kernel) (Nat.le_of_ble_eq_true rfl) (fun Γ X hx => ?_)
  refine GG.lv [0] (lv' := [(0, .ref (m 0))]) rfl ?_
  refine g_aload_n X 0 dX0_pairs_0 rfl ?_
  refine g_getf (v := .int (nI P)) X fs_X0_50 0 rfl rfl dX0_pairs_1 ?_
  exact g_iretv (r := (nI P)) X hx rfl (by rfl) (by rfl) dX0_pairs_4
set_option maxHeartbeats 4000000 in
set_option maxRecDepth 100000 in
theorem c_X0_mateOf_0 (E : GE) (m : Nat → Nat) (rb : Nat → Nat) (rc : Nat → Nat) (P : Nat) (M : Nat → Int32) (i : Int32) : CT E m_X0_mateOf [.ref (m 0), .int (nI 0), .int i] ([wMo E m rb rc P, wAr E (m 3) 8 M].flatten) (some (.int (mtI M i))) ([wMo E m rb rc P, wAr E (m 3) 8 M].flatten) := by
  refine CT.intro (by decide +kernel) (Nat.le_of_ble_eq_true rfl) (fun Γ X hx => ?_)
  refine GG.lv [0, 1, 2] (lv' := [(0, .ref (m 0)), (1, .int (nI 0)), (2, .int i)]) rfl ?_
  refine g_iload_n X 2 dX0_mateOf_0 rfl ?_
  refine g_iconst (v := (nI 0)) X dX0_mateOf_1 rfl ?_
  refine g_bipush (v := (nI 7)) X dX0_mateOf_2 rfl ?_
  refine g_callN (st2 := [.int (b2i (inR i (nI 0) (nI 7)))]) X (c_X9_isWithin E i (nI 0) (nI 7)) cs_X0_62 rfl rfl rfl (Nat.le_of_ble_eq_true rfl) dX0_mateOf_4 rfl ?_
  refine g_bif_ne (tgt := 12) X dX0_mateOf_7 (by decide) (fun c_7 => ?_) (fun c_7 => ?_)
  · obtain ⟨k, hk, rfl⟩ := inR_nI c_7 (by decide)
    refine g_iload_n X 1 dX0_mateOf_12 rfl ?_
    refine g_if_ne (tgt := 25) X dX0_mateOf_13 (by decide) (fun c_13 => absurd c_13 (by decide)) (fun c_13 => ?_)
    refine g_aload_n X 0 dX0_mateOf_16 rfl ?_
    refine g_getf (v := .ref (m 3)) X fs_X0_19 0 rfl rfl dX0_mateOf_17 ?_
    refine g_iload_n X 2 dX0_mateOf_20 rfl ?_
    refine g_iald X 3 rfl k (ix_nI (by omega) (by decide)) dX0_mateOf_21 ?_
    refine g_goto (tgt := 31) X dX0_mateOf_22 (by decide) ?_
    exact g_iretv (r := (M k)) X hx rfl (by simp only [mtI, c_7, if_true]; rw [nI_clamp (by omega)]) (by rfl) dX0_mateOf_31
  · refine g_iconst (v := (-1)) X dX0_mateOf_10 rfl ?_
    exact g_iretv (r := (-1)) X hx rfl (by simp [mtI, c_7]) (by rfl) dX0_mateOf_11
set_option maxHeartbeats 4000000 in
set_option maxRecDepth 100000 in
theorem c_X0_mateOf_1 (E : GE) (m : Nat → Nat) (rb : Nat → Nat) (rc : Nat → Nat) (P : Nat) (M : Nat → Int32) (i : Int32) : CT E m_X0_mateOf [.ref (m 0), .int (nI 1), .int i] ([wMo E m rb rc P, wAr E (m 4) 8 M].flatten) (some (.int (mtI M i))) ([wMo E m rb rc P, wAr E (m 4) 8 M].flatten) := by
  refine CT.intro (by decide +kernel) (Nat.le_of_ble_eq_true rfl) (fun Γ X hx => ?_)
  refine GG.lv [0, 1, 2] (lv' := [(0, .ref (m 0)), (1, .int (nI 1)), (2, .int i)]) rfl ?_
  refine g_iload_n X 2 dX0_mateOf_0 rfl ?_
  refine g_iconst (v := (nI 0)) X dX0_mateOf_1 rfl ?_
  refine g_bipush (v := (nI 7)) X dX0_mateOf_2 rfl ?_
  refine g_callN (st2 := [.int (b2i (inR i (nI 0) (nI 7)))]) X (c_X9_isWithin E i (nI 0) (nI 7)) cs_X0_62 rfl rfl rfl (Nat.le_of_ble_eq_true rfl) dX0_mateOf_4 rfl ?_
  refine g_bif_ne (tgt := 12) X dX0_mateOf_7 (by decide) (fun c_7 => ?_) (fun c_7 => ?_)
  · obtain ⟨k, hk, rfl⟩ := inR_nI c_7 (by decide)
    refine g_iload_n X 1 dX0_mateOf_12 rfl ?_
    refine g_if_ne (tgt := 25) X dX0_mateOf_13 (by decide) (fun c_13 => ?_) (fun c_13 => absurd c_13 (by decide))
    refine g_aload_n X 0 dX0_mateOf_25 rfl ?_
    refine g_getf (v := .ref (m 4)) X fs_X0_23 0 rfl rfl dX0_mateOf_26 ?_
    refine g_iload_n X 2 dX0_mateOf_29 rfl ?_
    refine g_iald X 3 rfl k (ix_nI (by omega) (by decide)) dX0_mateOf_30 ?_
    exact g_iretv (r := (M k)) X hx rfl (by simp only [mtI, c_7, if_true]; rw [nI_clamp (by omega)]) (by rfl) dX0_mateOf_31
  · refine g_iconst (v := (-1)) X dX0_mateOf_10 rfl ?_
    exact g_iretv (r := (-1)) X hx rfl (by simp [mtI, c_7]) (by rfl) dX0_mateOf_11
set_option maxHeartbeats 4000000 in
set_option maxRecDepth 100000 in
theorem c_X0_unmatched_0 (E : GE) (m : Nat → Nat) (rb : Nat → Nat) (rc : Nat → Nat) (P : Nat) (M : Nat → Int32) (t : Nat) (a : Nat → Nat) (b : Nat → Nat) (v : TV) (hv : okT v) : CT E m_X0_unmatched [.ref (m 0), .ref t, .int (nI 0)] ([wMo E m rb rc P, wAr E (m 3) 8 M, wTw E t a b (tR v) (tN v), wSv E a (tA v), wSv E b (tB v)].flatten) (some (.int (loneI M (sM (tA v))))) ([wMo E m rb rc P, wAr E (m 3) 8 M, wTw E t a b (tR v) (tN v), wSv E a (tA v), wSv E b (tB v)].flatten) := by
  refine CT.intro (by decide +kernel) (Nat.le_of_ble_eq_true rfl) (fun Γ X hx => ?_)
  refine GG.lv [0, 1, 2] (lv' := [(0, .ref (m 0)), (1, .ref t), (2, .int (nI 0))]) rfl ?_
  have hA : okS (tA v) := hv.1
  have hB : okS (tB v) := hv.2.1
  have hv1 : sM (tA v) ≤ 8 := hA.1
  have hv2 : sS (tA v) ≤ 8 := hA.2
  have hv3 : sM (tB v) ≤ 8 := hB.1
  have hv4 : sS (tB v) ≤ 8 := hB.2
  have hv5 : tN v ≤ 3 := hv.2.2
  refine g_iconst (v := (nI 0)) X dX0_unmatched_0 rfl ?_
  refine g_istore_n (lv' := [(3, .int (nI 0)), (0, .ref (m 0)), (1, .ref t), (2, .int (nI 0))]) X dX0_unmatched_1 (by decide) rfl ?_
  refine g_iconst (v := (nI 0)) X dX0_unmatched_2 rfl ?_
  refine g_istore (lv' := [(4, .int (nI 0)), (3, .int (nI 0)), (0, .ref (m 0)), (1, .ref t), (2, .int (nI 0))]) X dX0_unmatched_3 (by decide) rfl ?_
  have L_5 : ∀ (n_5 : Nat) (k : Nat) (hk : k ≤ sM (tA v)) (hm_5 : sM (tA v) - k < n_5) (x_3 : Int32) (ex_3 : x_3 = (loneI M k)) (x_4 : Int32) (ex_4 : x_4 = (nI k)), GG E m_X0_unmatched Γ 0 0 ([wMo E m rb rc P, wAr E (m 3) 8 M, wTw E t a b (tR v) (tN v), wSv E a (tA v), wSv E b (tB v)].flatten) [(0, .ref (m 0)), (1, .ref t), (2, .int (nI 0)), (3, .int x_3), (4, .int x_4)] 5 [] := by
    intro n_5
    induction n_5 with
    | zero => intro k hk hm_5; exact absurd hm_5 (Nat.not_lt_zero _)
    | succ n_5 ih_5 =>
      intro k hk hm_5 x_3 ex_3 x_4 ex_4
      subst ex_3
      subst ex_4
      refine g_iload X 4 dX0_unmatched_5 rfl ?_
      refine g_aload_n X 1 dX0_unmatched_7 rfl ?_
      refine g_iload_n X 2 dX0_unmatched_8 rfl ?_
      refine g_callVr (st2 := [.ref (a 0), .int (nI k)]) (q0 := 0) X (c_X6_surveyOf_0 E t a b v) cs_X0_66 rfl [2, 3, 4] [0, 1] 5 rfl (by decide) rfl rfl rfl rfl rfl (Nat.le_of_ble_eq_true rfl) dX0_unmatched_9 rfl ?_
      refine g_callVr (st2 := [.int (nI (sM (tA v))), .int (nI k)]) (q0 := 0) X (c_X4_meetings E a (tA v)) cs_X0_70 rfl [3] [0, 1, 2, 4] 5 rfl (by decide) rfl rfl rfl rfl rfl (Nat.le_of_ble_eq_true rfl) dX0_unmatched_12 rfl ?_
      refine g_icmp_ge (tgt := 42) X dX0_unmatched_15 (by decide) (fun c_15 => ?_) (fun c_15 => ?_)
      · have f_c_15 : sM (tA v) ≤ k := n_le (by omega) (by omega) c_15
        have fn_c_15 := Nat.not_lt.mpr f_c_15
        refine g_iload_n X 3 dX0_unmatched_42 rfl ?_
        exact g_iretv (r := (loneI M k)) X hx rfl (by rw [show sM (tA v) = k by omega]) (by rfl) dX0_unmatched_43
      · have f_c_15 : k < sM (tA v) := n_nle (by omega) (by omega) c_15
        have fn_c_15 := Nat.not_le.mpr f_c_15
        refine g_aload_n X 0 dX0_unmatched_18 rfl ?_
        refine g_iload_n X 2 dX0_unmatched_19 rfl ?_
        refine g_iload X 4 dX0_unmatched_20 rfl ?_
        refine g_callVr (st2 := [.int (mtI M (nI k))]) (q0 := 0) X (c_X0_mateOf_0 E m rb rc P M (nI k)) cs_X0_75 rfl [0, 1] [2, 3, 4] 5 rfl (by decide) rfl rfl rfl rfl rfl (Nat.le_of_ble_eq_true rfl) dX0_unmatched_22 rfl ?_
        refine g_iconst (v := (-1)) X dX0_unmatched_25 rfl ?_
        refine g_icmp_ne (tgt := 36) X dX0_unmatched_26 (by decide) (fun c_26 => ?_) (fun c_26 => ?_)
        · refine g_iincN (lv' := [(4, .int (nI (k + 1))), (0, .ref (m 0)), (1, .ref t), (2, .int (nI 0)), (3, .int (loneI M k))]) X 4 dX0_unmatched_36 rfl (by decide) rfl ?_
          refine g_goto (tgt := 5) X dX0_unmatched_39 (by decide) ?_
          refine GG.lv [1, 2, 3, 4, 0] rfl ?_
          exact ih_5 (k + 1) (by omega) (by omega) (loneI M k) (by simp [loneI, c_15, f_c_15, fn_c_15, c_26]) (nI (k + 1)) (by rfl)
        · refine g_iload_n X 3 dX0_unmatched_29 rfl ?_
          refine g_iconst (v := (nI 1)) X dX0_unmatched_30 rfl ?_
          refine g_iload X 4 dX0_unmatched_31 rfl ?_
          refine g_ishl X dX0_unmatched_33 ?_
          refine g_ior X dX0_unmatched_34 ?_
          refine g_istore_n (lv' := [(3, .int ((loneI M k) ||| ((nI 1) <<< ((nI k) &&& 31)))), (0, .ref (m 0)), (1, .ref t), (2, .int (nI 0)), (4, .int (nI k))]) X dX0_unmatched_35 (by decide) rfl ?_
          refine g_iincN (lv' := [(4, .int (nI (k + 1))), (3, .int ((loneI M k) ||| ((nI 1) <<< ((nI k) &&& 31)))), (0, .ref (m 0)), (1, .ref t), (2, .int (nI 0))]) X 4 dX0_unmatched_36 rfl (by decide) rfl ?_
          refine g_goto (tgt := 5) X dX0_unmatched_39 (by decide) ?_
          refine GG.lv [2, 3, 4, 1, 0] rfl ?_
          exact ih_5 (k + 1) (by omega) (by omega) ((loneI M k) ||| ((nI 1) <<< ((nI k) &&& 31))) (by simp [loneI, c_15, f_c_15, fn_c_15, c_26]) (nI (k + 1)) (by rfl)
  refine GG.lv [2, 3, 4, 1, 0] rfl ?_
  exact L_5 (sM (tA v) + 1) 0 (by omega) (by omega) (nI 0) (by rfl) (nI 0) (by rfl)
set_option maxHeartbeats 4000000 in
set_option maxRecDepth 100000 in
theorem c_X0_unmatched_1 (E : GE) (m : Nat → Nat) (rb : Nat → Nat) (rc : Nat → Nat) (P : Nat) (M : Nat → Int32) (t : Nat) (a : Nat → Nat) (b : Nat → Nat) (v : TV) (hv : okT v) : CT E m_X0_unmatched [.ref (m 0), .ref t, .int (nI 1)] ([wMo E m rb rc P, wAr E (m 4) 8 M, wTw E t a b (tR v) (tN v), wSv E a (tA v), wSv E b (tB v)].flatten) (some (.int (loneI M (sM (tB v))))) ([wMo E m rb rc P, wAr E (m 4) 8 M, wTw E t a b (tR v) (tN v), wSv E a (tA v), wSv E b (tB v)].flatten) := by
  refine CT.intro (by decide +kernel) (Nat.le_of_ble_eq_true rfl) (fun Γ X hx => ?_)
  refine GG.lv [0, 1, 2] (lv' := [(0, .ref (m 0)), (1, .ref t), (2, .int (nI 1))]) rfl ?_
  have hA : okS (tA v) := hv.1
  have hB : okS (tB v) := hv.2.1
  have hv1 : sM (tA v) ≤ 8 := hA.1
  have hv2 : sS (tA v) ≤ 8 := hA.2
  have hv3 : sM (tB v) ≤ 8 := hB.1
  have hv4 : sS (tB v) ≤ 8 := hB.2
  have hv5 : tN v ≤ 3 := hv.2.2
  refine g_iconst (v := (nI 0)) X dX0_unmatched_0 rfl ?_
  refine g_istore_n (lv' := [(3, .int (nI 0)), (0, .ref (m 0)), (1, .ref t), (2, .int (nI 1))]) X dX0_unmatched_1 (by decide) rfl ?_
  refine g_iconst (v := (nI 0)) X dX0_unmatched_2 rfl ?_
  refine g_istore (lv' := [(4, .int (nI 0)), (3, .int (nI 0)), (0, .ref (m 0)), (1, .ref t), (2, .int (nI 1))]) X dX0_unmatched_3 (by decide) rfl ?_
  have L_5 : ∀ (n_5 : Nat) (k : Nat) (hk : k ≤ sM (tB v)) (hm_5 : sM (tB v) - k < n_5) (x_3 : Int32) (ex_3 : x_3 = (loneI M k)) (x_4 : Int32) (ex_4 : x_4 = (nI k)), GG E m_X0_unmatched Γ 0 0 ([wMo E m rb rc P, wAr E (m 4) 8 M, wTw E t a b (tR v) (tN v), wSv E a (tA v), wSv E b (tB v)].flatten) [(0, .ref (m 0)), (1, .ref t), (2, .int (nI 1)), (3, .int x_3), (4, .int x_4)] 5 [] := by
    intro n_5
    induction n_5 with
    | zero => intro k hk hm_5; exact absurd hm_5 (Nat.not_lt_zero _)
    | succ n_5 ih_5 =>
      intro k hk hm_5 x_3 ex_3 x_4 ex_4
      subst ex_3
      subst ex_4
      refine g_iload X 4 dX0_unmatched_5 rfl ?_
      refine g_aload_n X 1 dX0_unmatched_7 rfl ?_
      refine g_iload_n X 2 dX0_unmatched_8 rfl ?_
      refine g_callVr (st2 := [.ref (b 0), .int (nI k)]) (q0 := 0) X (c_X6_surveyOf_1 E t a b v) cs_X0_66 rfl [2, 3, 4] [0, 1] 5 rfl (by decide) rfl rfl rfl rfl rfl (Nat.le_of_ble_eq_true rfl) dX0_unmatched_9 rfl ?_
      refine g_callVr (st2 := [.int (nI (sM (tB v))), .int (nI k)]) (q0 := 0) X (c_X4_meetings E b (tB v)) cs_X0_70 rfl [4] [0, 1, 2, 3] 5 rfl (by decide) rfl rfl rfl rfl rfl (Nat.le_of_ble_eq_true rfl) dX0_unmatched_12 rfl ?_
      refine g_icmp_ge (tgt := 42) X dX0_unmatched_15 (by decide) (fun c_15 => ?_) (fun c_15 => ?_)
      · have f_c_15 : sM (tB v) ≤ k := n_le (by omega) (by omega) c_15
        have fn_c_15 := Nat.not_lt.mpr f_c_15
        refine g_iload_n X 3 dX0_unmatched_42 rfl ?_
        exact g_iretv (r := (loneI M k)) X hx rfl (by rw [show sM (tB v) = k by omega]) (by rfl) dX0_unmatched_43
      · have f_c_15 : k < sM (tB v) := n_nle (by omega) (by omega) c_15
        have fn_c_15 := Nat.not_le.mpr f_c_15
        refine g_aload_n X 0 dX0_unmatched_18 rfl ?_
        refine g_iload_n X 2 dX0_unmatched_19 rfl ?_
        refine g_iload X 4 dX0_unmatched_20 rfl ?_
        refine g_callVr (st2 := [.int (mtI M (nI k))]) (q0 := 0) X (c_X0_mateOf_1 E m rb rc P M (nI k)) cs_X0_75 rfl [0, 1] [2, 3, 4] 5 rfl (by decide) rfl rfl rfl rfl rfl (Nat.le_of_ble_eq_true rfl) dX0_unmatched_22 rfl ?_
        refine g_iconst (v := (-1)) X dX0_unmatched_25 rfl ?_
        refine g_icmp_ne (tgt := 36) X dX0_unmatched_26 (by decide) (fun c_26 => ?_) (fun c_26 => ?_)
        · refine g_iincN (lv' := [(4, .int (nI (k + 1))), (0, .ref (m 0)), (1, .ref t), (2, .int (nI 1)), (3, .int (loneI M k))]) X 4 dX0_unmatched_36 rfl (by decide) rfl ?_
          refine g_goto (tgt := 5) X dX0_unmatched_39 (by decide) ?_
          refine GG.lv [1, 2, 3, 4, 0] rfl ?_
          exact ih_5 (k + 1) (by omega) (by omega) (loneI M k) (by simp [loneI, c_15, f_c_15, fn_c_15, c_26]) (nI (k + 1)) (by rfl)
        · refine g_iload_n X 3 dX0_unmatched_29 rfl ?_
          refine g_iconst (v := (nI 1)) X dX0_unmatched_30 rfl ?_
          refine g_iload X 4 dX0_unmatched_31 rfl ?_
          refine g_ishl X dX0_unmatched_33 ?_
          refine g_ior X dX0_unmatched_34 ?_
          refine g_istore_n (lv' := [(3, .int ((loneI M k) ||| ((nI 1) <<< ((nI k) &&& 31)))), (0, .ref (m 0)), (1, .ref t), (2, .int (nI 1)), (4, .int (nI k))]) X dX0_unmatched_35 (by decide) rfl ?_
          refine g_iincN (lv' := [(4, .int (nI (k + 1))), (3, .int ((loneI M k) ||| ((nI 1) <<< ((nI k) &&& 31)))), (0, .ref (m 0)), (1, .ref t), (2, .int (nI 1))]) X 4 dX0_unmatched_36 rfl (by decide) rfl ?_
          refine g_goto (tgt := 5) X dX0_unmatched_39 (by decide) ?_
          refine GG.lv [2, 3, 4, 1, 0] rfl ?_
          exact ih_5 (k + 1) (by omega) (by omega) ((loneI M k) ||| ((nI 1) <<< ((nI k) &&& 31))) (by simp [loneI, c_15, f_c_15, fn_c_15, c_26]) (nI (k + 1)) (by rfl)
  refine GG.lv [2, 3, 4, 1, 0] rfl ?_
  exact L_5 (sM (tB v) + 1) 0 (by omega) (by omega) (nI 0) (by rfl) (nI 0) (by rfl)
set_option maxHeartbeats 4000000 in
set_option maxRecDepth 100000 in
theorem c_X0_areMatched (E : GE) (m : Nat → Nat) (rb : Nat → Nat) (rc : Nat → Nat) (P : Nat) (M : Nat → Int32) (p : Nat) (q : Nat) (r : Nat) : CT E m_X0_areMatched [.ref (m 0), .int (nI p), .int (nI q), .int (nI r)] ([wMo E m rb rc P, wAr E (m 3) 8 M].flatten) (some (.int (b2i (amB M p q r)))) ([wMo E m rb rc P, wAr E (m 3) 8 M].flatten) := by
  refine CT.intro (by decide +kernel) (Nat.le_of_ble_eq_true rfl) (fun Γ X hx => ?_)
  refine GG.lv [0, 1, 2, 3] (lv' := [(0, .ref (m 0)), (1, .int (nI p)), (2, .int (nI q)), (3, .int (nI r))]) rfl ?_
  refine g_aload_n X 0 dX0_areMatched_0 rfl ?_
  refine g_iconst (v := (nI 0)) X dX0_areMatched_1 rfl ?_
  refine g_iload_n X 1 dX0_areMatched_2 rfl ?_
  refine g_callVr (st2 := [.int (mtI M (nI p))]) (q0 := 0) X (c_X0_mateOf_0 E m rb rc P M (nI p)) cs_X0_75 rfl [0, 1] [] 2 rfl (by decide) rfl rfl rfl rfl rfl (Nat.le_of_ble_eq_true rfl) dX0_areMatched_3 rfl ?_
  refine g_iconst (v := (-1)) X dX0_areMatched_6 rfl ?_
  refine g_icmp_eq (tgt := 34) X dX0_areMatched_7 (by decide) (fun c_7 => ?_) (fun c_7 => ?_)
  · refine g_iconst (v := (nI 0)) X dX0_areMatched_34 rfl ?_
    exact g_zretv (r := (nI 0)) X hx rfl (by simp [amB, b2i, c_7]; try rfl) (by rfl) dX0_areMatched_35
  · refine g_aload_n X 0 dX0_areMatched_10 rfl ?_
    refine g_iconst (v := (nI 0)) X dX0_areMatched_11 rfl ?_
    refine g_iload_n X 2 dX0_areMatched_12 rfl ?_
    refine g_callVr (st2 := [.int (mtI M (nI q))]) (q0 := 0) X (c_X0_mateOf_0 E m rb rc P M (nI q)) cs_X0_75 rfl [0, 1] [] 2 rfl (by decide) rfl rfl rfl rfl rfl (Nat.le_of_ble_eq_true rfl) dX0_areMatched_13 rfl ?_
    refine g_iconst (v := (-1)) X dX0_areMatched_16 rfl ?_
    refine g_icmp_eq (tgt := 34) X dX0_areMatched_17 (by decide) (fun c_17 => ?_) (fun c_17 => ?_)
    · refine g_iconst (v := (nI 0)) X dX0_areMatched_34 rfl ?_
      exact g_zretv (r := (nI 0)) X hx rfl (by simp [amB, b2i, c_7, c_17]; try rfl) (by rfl) dX0_areMatched_35
    · refine g_aload_n X 0 dX0_areMatched_20 rfl ?_
      refine g_iconst (v := (nI 0)) X dX0_areMatched_21 rfl ?_
      refine g_iload_n X 3 dX0_areMatched_22 rfl ?_
      refine g_callVr (st2 := [.int (mtI M (nI r))]) (q0 := 0) X (c_X0_mateOf_0 E m rb rc P M (nI r)) cs_X0_75 rfl [0, 1] [] 2 rfl (by decide) rfl rfl rfl rfl rfl (Nat.le_of_ble_eq_true rfl) dX0_areMatched_23 rfl ?_
      refine g_iconst (v := (-1)) X dX0_areMatched_26 rfl ?_
      refine g_icmp_eq (tgt := 34) X dX0_areMatched_27 (by decide) (fun c_27 => ?_) (fun c_27 => ?_)
      · refine g_iconst (v := (nI 0)) X dX0_areMatched_34 rfl ?_
        exact g_zretv (r := (nI 0)) X hx rfl (by simp [amB, b2i, c_7, c_17, c_27]; try rfl) (by rfl) dX0_areMatched_35
      · refine g_iconst (v := (nI 1)) X dX0_areMatched_30 rfl ?_
        refine g_goto (tgt := 35) X dX0_areMatched_31 (by decide) ?_
        exact g_zretv (r := (nI 1)) X hx rfl (by simp [amB, b2i, c_7, c_17, c_27]; try rfl) (by rfl) dX0_areMatched_35
set_option maxHeartbeats 4000000 in
set_option maxRecDepth 100000 in
theorem c_X0_isTurned (E : GE) (m : Nat → Nat) (rb : Nat → Nat) (rc : Nat → Nat) (P : Nat) (M : Nat → Int32) (t : Nat) (a : Nat → Nat) (b : Nat → Nat) (v : TV) (p : Nat) (q : Nat) (r : Nat) (hv : okT v) (hp : p < sM (tA v)) (hq : q < sM (tA v)) (hr : r < sM (tA v)) (kp : okMt (sM (tB v)) M p) (kq : okMt (sM (tB v)) M q) (kr : okMt (sM (tB v)) M r) : CT E m_X0_isTurned [.ref (m 0), .ref t, .int (nI p), .int (nI q), .int (nI r)] ([wMo E m rb rc P, wAr E (m 3) 8 M, wTw E t a b (tR v) (tN v), wSv E a (tA v), wSv E b (tB v)].flatten) (some (.int (b2i (trnB v M p q r)))) ([wMo E m rb rc P, wAr E (m 3) 8 M, wTw E t a b (tR v) (tN v), wSv E a (tA v), wSv E b (tB v)].flatten) := by
  refine CT.intro (by decide +kernel) (Nat.le_of_ble_eq_true rfl) (fun Γ X hx => ?_)
  refine GG.lv [0, 1, 2, 3, 4] (lv' := [(0, .ref (m 0)), (1, .ref t), (2, .int (nI p)), (3, .int (nI q)), (4, .int (nI r))]) rfl ?_
  have hA : okS (tA v) := hv.1
  have hB : okS (tB v) := hv.2.1
  have hv1 : sM (tA v) ≤ 8 := hA.1
  have hv2 : sS (tA v) ≤ 8 := hA.2
  have hv3 : sM (tB v) ≤ 8 := hB.1
  have hv4 : sS (tB v) ≤ 8 := hB.2
  have hv5 : tN v ≤ 3 := hv.2.2
  have kp2 := kp.2
  have kq2 := kq.2
  have kr2 := kr.2
  refine g_aload_n X 1 dX0_isTurned_0 rfl ?_
  refine g_iconst (v := (nI 0)) X dX0_isTurned_1 rfl ?_
  refine g_callVr (st2 := [.ref (a 0)]) (q0 := 0) X (c_X6_surveyOf_0 E t a b v) cs_X0_66 rfl [2, 3, 4] [0, 1] 5 rfl (by decide) rfl rfl rfl rfl rfl (Nat.le_of_ble_eq_true rfl) dX0_isTurned_2 rfl ?_
  refine g_iload_n X 2 dX0_isTurned_5 rfl ?_
  refine g_iload_n X 3 dX0_isTurned_6 rfl ?_
  refine g_iload X 4 dX0_isTurned_7 rfl ?_
  refine g_callVr (st2 := [.int (svArea (tA v) p q r)]) (q0 := 0) X (c_X4_twiceArea E a (tA v) p q r (by first | assumption | omega) (by first | assumption | omega) (by first | assumption | omega) (by first | assumption | omega)) cs_X0_85 rfl [3] [0, 1, 2, 4] 5 rfl (by decide) rfl rfl rfl rfl rfl (Nat.le_of_ble_eq_true rfl) dX0_isTurned_9 rfl ?_
  refine g_istore (lv' := [(5, .int (svArea (tA v) p q r)), (0, .ref (m 0)), (1, .ref t), (2, .int (nI p)), (3, .int (nI q)), (4, .int (nI r))]) X dX0_isTurned_12 (by decide) rfl ?_
  refine g_aload_n X 2 dX0_isTurned_14 rfl ?_
  refine g_iconst (v := (nI 1)) X dX0_isTurned_15 rfl ?_
  refine g_callVr (st2 := [.ref (b 0)]) (q0 := 0) X (c_X6_surveyOf_1 E t a b v) cs_X0_66 rfl [2, 3, 4] [0, 1] 5 rfl (by decide) rfl rfl rfl rfl rfl (Nat.le_of_ble_eq_true rfl) dX0_isTurned_16 rfl ?_
  refine g_aload_n X 1 dX0_isTurned_19 rfl ?_
  refine g_iconst (v := (nI 0)) X dX0_isTurned_20 rfl ?_
  refine g_iload_n X 3 dX0_isTurned_21 rfl ?_
  refine g_callVr (st2 := [.int (mtI M (nI p)), .ref (b 0)]) (q0 := 0) X (c_X0_mateOf_0 E m rb rc P M (nI p)) cs_X0_75 rfl [0, 1] [2, 3, 4] 5 rfl (by decide) rfl rfl rfl rfl rfl (Nat.le_of_ble_eq_true rfl) dX0_isTurned_22 rfl ?_
  rw [kp.1]
  refine g_aload_n X 1 dX0_isTurned_25 rfl ?_
  refine g_iconst (v := (nI 0)) X dX0_isTurned_26 rfl ?_
  refine g_iload_n X 4 dX0_isTurned_27 rfl ?_
  refine g_callVr (st2 := [.int (mtI M (nI q)), .int (nI (mtN M p)), .ref (b 0)]) (q0 := 0) X (c_X0_mateOf_0 E m rb rc P M (nI q)) cs_X0_75 rfl [0, 1] [2, 3, 4] 5 rfl (by decide) rfl rfl rfl rfl rfl (Nat.le_of_ble_eq_true rfl) dX0_isTurned_28 rfl ?_
  rw [kq.1]
  refine g_aload_n X 1 dX0_isTurned_31 rfl ?_
  refine g_iconst (v := (nI 0)) X dX0_isTurned_32 rfl ?_
  refine g_iload X 5 dX0_isTurned_33 rfl ?_
  refine g_callVr (st2 := [.int (mtI M (nI r)), .int (nI (mtN M q)), .int (nI (mtN M p)), .ref (b 0)]) (q0 := 0) X (c_X0_mateOf_0 E m rb rc P M (nI r)) cs_X0_75 rfl [0, 1] [2, 3, 4] 5 rfl (by decide) rfl rfl rfl rfl rfl (Nat.le_of_ble_eq_true rfl) dX0_isTurned_35 rfl ?_
  rw [kr.1]
  refine g_callVr (st2 := [.int (svArea (tB v) (mtN M p) (mtN M q) (mtN M r))]) (q0 := 0) X (c_X4_twiceArea E b (tB v) (mtN M p) (mtN M q) (mtN M r) (by first | assumption | omega) (by first | assumption | omega) (by first | assumption | omega) (by first | assumption | omega)) cs_X0_85 rfl [4] [0, 1, 2, 3] 5 rfl (by decide) rfl rfl rfl rfl rfl (Nat.le_of_ble_eq_true rfl) dX0_isTurned_38 rfl ?_
  refine g_istore (lv' := [(6, .int (svArea (tB v) (mtN M p) (mtN M q) (mtN M r))), (5, .int (svArea (tA v) p q r)), (0, .ref (m 0)), (1, .ref t), (2, .int (nI p)), (3, .int (nI q)), (4, .int (nI r))]) X dX0_isTurned_41 (by decide) rfl ?_
  refine g_iload X 1 dX0_isTurned_43 rfl ?_
  refine g_if_le (tgt := 53) X dX0_isTurned_45 (by decide) (fun c_45 => ?_) (fun c_45 => ?_)
  · refine g_iload X 1 dX0_isTurned_53 rfl ?_
    refine g_if_ge (tgt := 67) X dX0_isTurned_55 (by decide) (fun c_55 => ?_) (fun c_55 => ?_)
    · refine g_iconst (v := (nI 0)) X dX0_isTurned_67 rfl ?_
      exact g_zretv (r := (nI 0)) X hx rfl (by simp only [trnB, b2i, c_45, c_55, decide_true, decide_false, not_true_eq_false, not_false_eq_true, Bool.true_and, Bool.false_and, Bool.and_true, Bool.and_false, Bool.true_or, Bool.false_or, Bool.or_true, Bool.or_false, and_true, true_and, and_false, false_and, or_true, true_or, or_false, false_or, if_true, if_false, Bool.false_eq_true, decide_eq_true_eq]; try rfl) (by rfl) dX0_isTurned_68
    · refine g_iload X 0 dX0_isTurned_58 rfl ?_
      refine g_if_le (tgt := 67) X dX0_isTurned_60 (by decide) (fun c_60 => ?_) (fun c_60 => ?_)
      · refine g_iconst (v := (nI 0)) X dX0_isTurned_67 rfl ?_
        exact g_zretv (r := (nI 0)) X hx rfl (by simp only [trnB, b2i, c_45, c_55, c_60, decide_true, decide_false, not_true_eq_false, not_false_eq_true, Bool.true_and, Bool.false_and, Bool.and_true, Bool.and_false, Bool.true_or, Bool.false_or, Bool.or_true, Bool.or_false, and_true, true_and, and_false, false_and, or_true, true_or, or_false, false_or, if_true, if_false, Bool.false_eq_true, decide_eq_true_eq]; try rfl) (by rfl) dX0_isTurned_68
      · refine g_iconst (v := (nI 1)) X dX0_isTurned_63 rfl ?_
        refine g_goto (tgt := 68) X dX0_isTurned_64 (by decide) ?_
        exact g_zretv (r := (nI 1)) X hx rfl (by simp only [trnB, b2i, c_45, c_55, c_60, decide_true, decide_false, not_true_eq_false, not_false_eq_true, Bool.true_and, Bool.false_and, Bool.and_true, Bool.and_false, Bool.true_or, Bool.false_or, Bool.or_true, Bool.or_false, and_true, true_and, and_false, false_and, or_true, true_or, or_false, false_or, if_true, if_false, Bool.false_eq_true, decide_eq_true_eq]; try rfl) (by rfl) dX0_isTurned_68
  · refine g_iload X 0 dX0_isTurned_48 rfl ?_
    refine g_if_lt (tgt := 63) X dX0_isTurned_50 (by decide) (fun c_50 => ?_) (fun c_50 => ?_)
    · refine g_iconst (v := (nI 1)) X dX0_isTurned_63 rfl ?_
      refine g_goto (tgt := 68) X dX0_isTurned_64 (by decide) ?_
      exact g_zretv (r := (nI 1)) X hx rfl (by simp only [trnB, b2i, c_45, c_50, decide_true, decide_false, not_true_eq_false, not_false_eq_true, Bool.true_and, Bool.false_and, Bool.and_true, Bool.and_false, Bool.true_or, Bool.false_or, Bool.or_true, Bool.or_false, and_true, true_and, and_false, false_and, or_true, true_or, or_false, false_or, if_true, if_false, Bool.false_eq_true, decide_eq_true_eq]; try rfl) (by rfl) dX0_isTurned_68
    · refine g_iload X 1 dX0_isTurned_53 rfl ?_
      refine g_if_ge (tgt := 67) X dX0_isTurned_55 (by decide) (fun c_55 => ?_) (fun c_55 => ?_)
      · refine g_iconst (v := (nI 0)) X dX0_isTurned_67 rfl ?_
        exact g_zretv (r := (nI 0)) X hx rfl (by simp only [trnB, b2i, c_45, c_50, c_55, decide_true, decide_false, not_true_eq_false, not_false_eq_true, Bool.true_and, Bool.false_and, Bool.and_true, Bool.and_false, Bool.true_or, Bool.false_or, Bool.or_true, Bool.or_false, and_true, true_and, and_false, false_and, or_true, true_or, or_false, false_or, if_true, if_false, Bool.false_eq_true, decide_eq_true_eq]; try rfl) (by rfl) dX0_isTurned_68
      · refine g_iload X 0 dX0_isTurned_58 rfl ?_
        refine g_if_le (tgt := 67) X dX0_isTurned_60 (by decide) (fun c_60 => ?_) (fun c_60 => ?_)
        · refine g_iconst (v := (nI 0)) X dX0_isTurned_67 rfl ?_
          exact g_zretv (r := (nI 0)) X hx rfl (by simp only [trnB, b2i, c_45, c_50, c_55, c_60, decide_true, decide_false, not_true_eq_false, not_false_eq_true, Bool.true_and, Bool.false_and, Bool.and_true, Bool.and_false, Bool.true_or, Bool.false_or, Bool.or_true, Bool.or_false, and_true, true_and, and_false, false_and, or_true, true_or, or_false, false_or, if_true, if_false, Bool.false_eq_true, decide_eq_true_eq]; try rfl) (by rfl) dX0_isTurned_68
        · refine g_iconst (v := (nI 1)) X dX0_isTurned_63 rfl ?_
          refine g_goto (tgt := 68) X dX0_isTurned_64 (by decide) ?_
          exact g_zretv (r := (nI 1)) X hx rfl (by simp only [trnB, b2i, c_45, c_50, c_55, c_60, decide_true, decide_false, not_true_eq_false, not_false_eq_true, Bool.true_and, Bool.false_and, Bool.and_true, Bool.and_false, Bool.true_or, Bool.false_or, Bool.or_true, Bool.or_false, and_true, true_and, and_false, false_and, or_true, true_or, or_false, false_or, if_true, if_false, Bool.false_eq_true, decide_eq_true_eq]; try rfl) (by rfl) dX0_isTurned_68
set_option maxHeartbeats 4000000 in
set_option maxRecDepth 100000 in
theorem c_X0_turnedTriples (E : GE) (m : Nat → Nat) (rb : Nat → Nat) (rc : Nat → Nat) (P : Nat) (M : Nat → Int32) (t : Nat) (a : Nat → Nat) (b : Nat → Nat) (v : TV) (hv : okT v) (hM : okMs (sM (tB v)) M) : CT E m_X0_turnedTriples [.ref (m 0), .ref t] ([wMo E m rb rc P, wAr E (m 3) 8 M, wTw E t a b (tR v) (tN v), wSv E a (tA v), wSv E b (tB v)].flatten) (some (.int (nI (trAll v M)))) ([wMo E m rb rc P, wAr E (m 3) 8 M, wTw E t a b (tR v) (tN v), wSv E a (tA v), wSv E b (tB v)].flatten) := by
  refine CT.intro (by decide +kernel) (Nat.le_of_ble_eq_true rfl) (fun Γ X hx => ?_)
  refine GG.lv [0, 1] (lv' := [(0, .ref (m 0)), (1, .ref t)]) rfl ?_
  have hA : okS (tA v) := hv.1
  have hB : okS (tB v) := hv.2.1
  have hv1 : sM (tA v) ≤ 8 := hA.1
  have hv2 : sS (tA v) ≤ 8 := hA.2
  have hv3 : sM (tB v) ≤ 8 := hB.1
  have hv4 : sS (tB v) ≤ 8 := hB.2
  have hv5 : tN v ≤ 3 := hv.2.2
  refine g_aload_n X 1 dX0_turnedTriples_0 rfl ?_
  refine g_iconst (v := (nI 0)) X dX0_turnedTriples_1 rfl ?_
  refine g_callVr (st2 := [.ref (a 0)]) (q0 := 0) X (c_X6_surveyOf_0 E t a b v) cs_X0_66 rfl [2, 3, 4] [0, 1] 5 rfl (by decide) rfl rfl rfl rfl rfl (Nat.le_of_ble_eq_true rfl) dX0_turnedTriples_2 rfl ?_
  refine g_callVr (st2 := [.int (nI (sM (tA v)))]) (q0 := 0) X (c_X4_meetings E a (tA v)) cs_X0_70 rfl [3] [0, 1, 2, 4] 5 rfl (by decide) rfl rfl rfl rfl rfl (Nat.le_of_ble_eq_true rfl) dX0_turnedTriples_5 rfl ?_
  refine g_istore_n (lv' := [(2, .int (nI (sM (tA v)))), (0, .ref (m 0)), (1, .ref t)]) X dX0_turnedTriples_8 (by decide) rfl ?_
  refine g_iconst (v := (nI 0)) X dX0_turnedTriples_9 rfl ?_
  refine g_istore_n (lv' := [(3, .int (nI 0)), (2, .int (nI (sM (tA v)))), (0, .ref (m 0)), (1, .ref t)]) X dX0_turnedTriples_10 (by decide) rfl ?_
  refine g_iconst (v := (nI 0)) X dX0_turnedTriples_11 rfl ?_
  refine g_istore (lv' := [(4, .int (nI 0)), (3, .int (nI 0)), (2, .int (nI (sM (tA v)))), (0, .ref (m 0)), (1, .ref t)]) X dX0_turnedTriples_12 (by decide) rfl ?_
  have L_14 : ∀ (n_14 : Nat) (ga : Nat) (ha : ga ≤ sM (tA v)) (hm_14 : sM (tA v) - ga < n_14) (x_3 : Int32) (ex_3 : x_3 = (nI (itR (tr3 v M) ga 0))) (x_4 : Int32) (ex_4 : x_4 = (nI ga)), GG E m_X0_turnedTriples Γ 0 0 ([wMo E m rb rc P, wAr E (m 3) 8 M, wTw E t a b (tR v) (tN v), wSv E a (tA v), wSv E b (tB v)].flatten) [(0, .ref (m 0)), (1, .ref t), (2, .int (nI (sM (tA v)))), (3, .int x_3), (4, .int x_4)] 14 [] := by
    intro n_14
    induction n_14 with
    | zero => intro ga ha hm_14; exact absurd hm_14 (Nat.not_lt_zero _)
    | succ n_14 ih_14 =>
      intro ga ha hm_14 x_3 ex_3 x_4 ex_4
      subst ex_3
      subst ex_4
      refine g_iload X 4 dX0_turnedTriples_14 rfl ?_
      refine g_iload_n X 2 dX0_turnedTriples_16 rfl ?_
      refine g_icmp_ge (tgt := 92) X dX0_turnedTriples_17 (by decide) (fun c_17 => ?_) (fun c_17 => ?_)
      · have f_c_17 : sM (tA v) ≤ ga := n_le (by omega) (by omega) c_17
        have fn_c_17 := Nat.not_lt.mpr f_c_17
        refine g_iload_n X 3 dX0_turnedTriples_92 rfl ?_
        exact g_iretv (r := (nI (itR (tr3 v M) ga 0))) X hx rfl (by rw [show ga = sM (tA v) by omega]; rfl) (by rfl) dX0_turnedTriples_93
      · have f_c_17 : ga < sM (tA v) := n_nle (by omega) (by omega) c_17
        have fn_c_17 := Nat.not_le.mpr f_c_17
        refine g_iload X 4 dX0_turnedTriples_20 rfl ?_
        refine g_iconst (v := (nI 1)) X dX0_turnedTriples_22 rfl ?_
        refine g_iaddN X dX0_turnedTriples_23 ?_
        refine g_istore (lv' := [(5, .int (nI (ga + 1))), (0, .ref (m 0)), (1, .ref t), (2, .int (nI (sM (tA v)))), (3, .int (nI (itR (tr3 v M) ga 0))), (4, .int (nI ga))]) X dX0_turnedTriples_24 (by decide) rfl ?_
        have L_26 : ∀ (n_26 : Nat) (gb : Nat) (hb : gb ≤ sM (tA v)) (hab : ga + 1 ≤ gb) (hm_26 : sM (tA v) - gb < n_26) (x_3 : Int32) (ex_3 : x_3 = (nI (itF (tr2 v M ga) (ga + 1) gb (itR (tr3 v M) ga 0)))) (x_5 : Int32) (ex_5 : x_5 = (nI gb)), GG E m_X0_turnedTriples Γ 0 0 ([wMo E m rb rc P, wAr E (m 3) 8 M, wTw E t a b (tR v) (tN v), wSv E a (tA v), wSv E b (tB v)].flatten) [(0, .ref (m 0)), (1, .ref t), (2, .int (nI (sM (tA v)))), (3, .int x_3), (4, .int (nI ga)), (5, .int x_5)] 26 [] := by
          intro n_26
          induction n_26 with
          | zero => intro gb hb hab hm_26; exact absurd hm_26 (Nat.not_lt_zero _)
          | succ n_26 ih_26 =>
            intro gb hb hab hm_26 x_3 ex_3 x_5 ex_5
            subst ex_3
            subst ex_5
            refine g_iload X 5 dX0_turnedTriples_26 rfl ?_
            refine g_iload_n X 2 dX0_turnedTriples_28 rfl ?_
            refine g_icmp_ge (tgt := 86) X dX0_turnedTriples_29 (by decide) (fun c_29 => ?_) (fun c_29 => ?_)
            · have f_c_29 : sM (tA v) ≤ gb := n_le (by omega) (by omega) c_29
              have fn_c_29 := Nat.not_lt.mpr f_c_29
              refine g_iincN (lv' := [(4, .int (nI (ga + 1))), (0, .ref (m 0)), (1, .ref t), (2, .int (nI (sM (tA v)))), (3, .int (nI (itF (tr2 v M ga) (ga + 1) gb (itR (tr3 v M) ga 0)))), (5, .int (nI gb))]) X 4 dX0_turnedTriples_86 rfl (by decide) rfl ?_
              refine g_goto (tgt := 14) X dX0_turnedTriples_89 (by decide) ?_
              refine GG.lv [1, 2, 3, 4, 0] rfl ?_
              exact ih_14 (ga + 1) (by omega) (by omega) (nI (itF (tr2 v M ga) (ga + 1) gb (itR (tr3 v M) ga 0))) (by rw [show gb = sM (tA v) by omega]; rfl) (nI (ga + 1)) (by rfl)
            · have f_c_29 : gb < sM (tA v) := n_nle (by omega) (by omega) c_29
              have fn_c_29 := Nat.not_le.mpr f_c_29
              refine g_iload X 5 dX0_turnedTriples_32 rfl ?_
              refine g_iconst (v := (nI 1)) X dX0_turnedTriples_34 rfl ?_
              refine g_iaddN X dX0_turnedTriples_35 ?_
              refine g_istore (lv' := [(6, .int (nI (gb + 1))), (0, .ref (m 0)), (1, .ref t), (2, .int (nI (sM (tA v)))), (3, .int (nI (itF (tr2 v M ga) (ga + 1) gb (itR (tr3 v M) ga 0)))), (4, .int (nI ga)), (5, .int (nI gb))]) X dX0_turnedTriples_36 (by decide) rfl ?_
              have L_38 : ∀ (n_38 : Nat) (gc : Nat) (hc : gc ≤ sM (tA v)) (hbc : gb + 1 ≤ gc) (hm_38 : sM (tA v) - gc < n_38) (x_3 : Int32) (ex_3 : x_3 = (nI (itF (tr1 v M ga gb) (gb + 1) gc (itF (tr2 v M ga) (ga + 1) gb (itR (tr3 v M) ga 0))))) (x_6 : Int32) (ex_6 : x_6 = (nI gc)), GG E m_X0_turnedTriples Γ 0 0 ([wMo E m rb rc P, wAr E (m 3) 8 M, wTw E t a b (tR v) (tN v), wSv E a (tA v), wSv E b (tB v)].flatten) [(0, .ref (m 0)), (1, .ref t), (2, .int (nI (sM (tA v)))), (3, .int x_3), (4, .int (nI ga)), (5, .int (nI gb)), (6, .int x_6)] 38 [] := by
                intro n_38
                induction n_38 with
                | zero => intro gc hc hbc hm_38; exact absurd hm_38 (Nat.not_lt_zero _)
                | succ n_38 ih_38 =>
                  intro gc hc hbc hm_38 x_3 ex_3 x_6 ex_6
                  subst ex_3
                  subst ex_6
                  refine g_iload X 6 dX0_turnedTriples_38 rfl ?_
                  refine g_iload_n X 2 dX0_turnedTriples_40 rfl ?_
                  refine g_icmp_ge (tgt := 80) X dX0_turnedTriples_41 (by decide) (fun c_41 => ?_) (fun c_41 => ?_)
                  · have f_c_41 : sM (tA v) ≤ gc := n_le (by omega) (by omega) c_41
                    have fn_c_41 := Nat.not_lt.mpr f_c_41
                    refine g_iincN (lv' := [(5, .int (nI (gb + 1))), (0, .ref (m 0)), (1, .ref t), (2, .int (nI (sM (tA v)))), (3, .int (nI (itF (tr1 v M ga gb) (gb + 1) gc (itF (tr2 v M ga) (ga + 1) gb (itR (tr3 v M) ga 0))))), (4, .int (nI ga)), (6, .int (nI gc))]) X 5 dX0_turnedTriples_80 rfl (by decide) rfl ?_
                    refine g_goto (tgt := 26) X dX0_turnedTriples_83 (by decide) ?_
                    refine GG.lv [1, 2, 3, 4, 5, 0] rfl ?_
                    exact ih_26 (gb + 1) (by omega) (by omega) (by omega) (nI (itF (tr1 v M ga gb) (gb + 1) gc (itF (tr2 v M ga) (ga + 1) gb (itR (tr3 v M) ga 0)))) (by rw [itF_s _ (by omega), show gc = sM (tA v) by omega]; rfl) (nI (gb + 1)) (by rfl)
                  · have f_c_41 : gc < sM (tA v) := n_nle (by omega) (by omega) c_41
                    have fn_c_41 := Nat.not_le.mpr f_c_41
                    refine g_aload_n X 0 dX0_turnedTriples_44 rfl ?_
                    refine g_iload X 4 dX0_turnedTriples_45 rfl ?_
                    refine g_iload X 5 dX0_turnedTriples_47 rfl ?_
                    refine g_iload X 6 dX0_turnedTriples_49 rfl ?_
                    refine g_callVr (st2 := [.int (b2i (amB M ga gb gc))]) (q0 := 0) X (c_X0_areMatched E m rb rc P M ga gb gc) cs_X0_78 rfl [0, 1] [2, 3, 4] 5 rfl (by decide) rfl rfl rfl rfl rfl (Nat.le_of_ble_eq_true rfl) dX0_turnedTriples_51 rfl ?_
                    refine g_bif_eq (tgt := 74) X dX0_turnedTriples_54 (by decide) (fun c_54 => ?_) (fun c_54 => ?_)
                    · refine g_iincN (lv' := [(6, .int (nI (gc + 1))), (0, .ref (m 0)), (1, .ref t), (2, .int (nI (sM (tA v)))), (3, .int (nI (itF (tr1 v M ga gb) (gb + 1) gc (itF (tr2 v M ga) (ga + 1) gb (itR (tr3 v M) ga 0))))), (4, .int (nI ga)), (5, .int (nI gb))]) X 6 dX0_turnedTriples_74 rfl (by decide) rfl ?_
                      refine g_goto (tgt := 38) X dX0_turnedTriples_77 (by decide) ?_
                      refine GG.lv [1, 2, 3, 4, 5, 6, 0] rfl ?_
                      exact ih_38 (gc + 1) (by omega) (by omega) (by omega) (nI (itF (tr1 v M ga gb) (gb + 1) gc (itF (tr2 v M ga) (ga + 1) gb (itR (tr3 v M) ga 0)))) (by rw [itF_s _ (by omega)]; simp [tr1, c_17, f_c_17, fn_c_17, c_29, f_c_29, fn_c_29, c_41, f_c_41, fn_c_41, c_54]) (nI (gc + 1)) (by rfl)
                    · obtain ⟨k1, k2, k3⟩ := amB_ok hM (by omega) (by omega) (by omega) c_54
                      refine g_aload_n X 0 dX0_turnedTriples_57 rfl ?_
                      refine g_aload_n X 1 dX0_turnedTriples_58 rfl ?_
                      refine g_iload X 4 dX0_turnedTriples_59 rfl ?_
                      refine g_iload X 5 dX0_turnedTriples_61 rfl ?_
                      refine g_iload X 6 dX0_turnedTriples_63 rfl ?_
                      refine g_callVr (st2 := [.int (b2i (trnB v M ga gb gc))]) (q0 := 0) X (c_X0_isTurned E m rb rc P M t a b v ga gb gc (by first | assumption | omega) (by first | assumption | omega) (by first | assumption | omega) (by first | assumption | omega) (by first | assumption | omega) (by first | assumption | omega) (by first | assumption | omega)) cs_X0_81 rfl [0, 1, 2, 3, 4] [] 5 rfl (by decide) rfl rfl rfl rfl rfl (Nat.le_of_ble_eq_true rfl) dX0_turnedTriples_65 rfl ?_
                      refine g_bif_eq (tgt := 74) X dX0_turnedTriples_68 (by decide) (fun c_68 => ?_) (fun c_68 => ?_)
                      · refine g_iincN (lv' := [(6, .int (nI (gc + 1))), (0, .ref (m 0)), (1, .ref t), (2, .int (nI (sM (tA v)))), (3, .int (nI (itF (tr1 v M ga gb) (gb + 1) gc (itF (tr2 v M ga) (ga + 1) gb (itR (tr3 v M) ga 0))))), (4, .int (nI ga)), (5, .int (nI gb))]) X 6 dX0_turnedTriples_74 rfl (by decide) rfl ?_
                        refine g_goto (tgt := 38) X dX0_turnedTriples_77 (by decide) ?_
                        refine GG.lv [1, 2, 3, 4, 5, 6, 0] rfl ?_
                        exact ih_38 (gc + 1) (by omega) (by omega) (by omega) (nI (itF (tr1 v M ga gb) (gb + 1) gc (itF (tr2 v M ga) (ga + 1) gb (itR (tr3 v M) ga 0)))) (by rw [itF_s _ (by omega)]; simp [tr1, c_17, f_c_17, fn_c_17, c_29, f_c_29, fn_c_29, c_41, f_c_41, fn_c_41, c_54, c_68]) (nI (gc + 1)) (by rfl)
                      · refine g_iincN (lv' := [(3, .int (nI (itF (tr1 v M ga gb) (gb + 1) gc (itF (tr2 v M ga) (ga + 1) gb (itR (tr3 v M) ga 0)) + 1))), (0, .ref (m 0)), (1, .ref t), (2, .int (nI (sM (tA v)))), (4, .int (nI ga)), (5, .int (nI gb)), (6, .int (nI gc))]) X 3 dX0_turnedTriples_71 rfl (by decide) rfl ?_
                        refine g_iincN (lv' := [(6, .int (nI (gc + 1))), (3, .int (nI (itF (tr1 v M ga gb) (gb + 1) gc (itF (tr2 v M ga) (ga + 1) gb (itR (tr3 v M) ga 0)) + 1))), (0, .ref (m 0)), (1, .ref t), (2, .int (nI (sM (tA v)))), (4, .int (nI ga)), (5, .int (nI gb))]) X 6 dX0_turnedTriples_74 rfl (by decide) rfl ?_
                        refine g_goto (tgt := 38) X dX0_turnedTriples_77 (by decide) ?_
                        refine GG.lv [2, 3, 4, 1, 5, 6, 0] rfl ?_
                        exact ih_38 (gc + 1) (by omega) (by omega) (by omega) (nI (itF (tr1 v M ga gb) (gb + 1) gc (itF (tr2 v M ga) (ga + 1) gb (itR (tr3 v M) ga 0)) + 1)) (by rw [itF_s _ (by omega)]; simp [tr1, c_17, f_c_17, fn_c_17, c_29, f_c_29, fn_c_29, c_41, f_c_41, fn_c_41, c_54, c_68]) (nI (gc + 1)) (by rfl)
              refine GG.lv [1, 2, 3, 4, 5, 6, 0] rfl ?_
              exact L_38 (sM (tA v) + 1) (gb + 1) (by omega) (by omega) (by omega) (nI (itF (tr2 v M ga) (ga + 1) gb (itR (tr3 v M) ga 0))) (by rw [itF_0]) (nI (gb + 1)) (by rfl)
        refine GG.lv [1, 2, 3, 4, 5, 0] rfl ?_
        exact L_26 (sM (tA v) + 1) (ga + 1) (by omega) (by omega) (by omega) (nI (itR (tr3 v M) ga 0)) (by rw [itF_0]) (nI (ga + 1)) (by rfl)
  refine GG.lv [3, 4, 2, 1, 0] rfl ?_
  exact L_14 (sM (tA v) + 1) 0 (by omega) (by omega) (nI 0) (by rfl) (nI 0) (by rfl)
set_option maxHeartbeats 4000000 in
set_option maxRecDepth 100000 in
theorem c_X0_firstBelief (E : GE) (t : Nat) (a : Nat → Nat) (b : Nat → Nat) (v : TV) (i : Nat) (j : Nat) (hv : okT v) (hi : i < 2 ^ 31) (hj : j < 2 ^ 31) : CT E m_X0_firstBelief [.ref t, .int (nI i), .int (nI j)] ([wTw E t a b (tR v) (tN v), wSv E a (tA v), wSv E b (tB v)].flatten) (some (.int (firstB v i j))) ([wTw E t a b (tR v) (tN v), wSv E a (tA v), wSv E b (tB v)].flatten) := by
  refine CT.intro (by decide +kernel) (Nat.le_of_ble_eq_true rfl) (fun Γ X hx => ?_)
  refine GG.lv [0, 1, 2] (lv' := [(0, .ref t), (1, .int (nI i)), (2, .int (nI j))]) rfl ?_
  have hA : okS (tA v) := hv.1
  have hB : okS (tB v) := hv.2.1
  have hv1 : sM (tA v) ≤ 8 := hA.1
  have hv2 : sS (tA v) ≤ 8 := hA.2
  have hv3 : sM (tB v) ≤ 8 := hB.1
  have hv4 : sS (tB v) ≤ 8 := hB.2
  have hv5 : tN v ≤ 3 := hv.2.2
  refine g_aload_n X 0 dX0_firstBelief_0 rfl ?_
  refine g_iconst (v := (nI 0)) X dX0_firstBelief_1 rfl ?_
  refine g_callVr (st2 := [.ref (a 0)]) (q0 := 0) X (c_X6_surveyOf_0 E t a b v) cs_X0_66 rfl [0, 1, 2] [] 3 rfl (by decide) rfl rfl rfl rfl rfl (Nat.le_of_ble_eq_true rfl) dX0_firstBelief_2 rfl ?_
  refine g_iload_n X 1 dX0_firstBelief_5 rfl ?_
  refine g_callVr (st2 := [.int (b2i (hasN (sM (tA v)) (nI i)))]) (q0 := 0) X (c_X4_hasMeeting E a (tA v) (nI i)) cs_X0_89 rfl [1] [0, 2] 3 rfl (by decide) rfl rfl rfl rfl rfl (Nat.le_of_ble_eq_true rfl) dX0_firstBelief_6 rfl ?_
  refine g_bif_eq (tgt := 24) X dX0_firstBelief_9 (by decide) (fun c_9 => ?_) (fun c_9 => ?_)
  · have hi0 := Nat.not_lt.mpr (hasN_ge (by omega) c_9)
    refine g_iconst (v := (nI 0)) X dX0_firstBelief_24 rfl ?_
    exact g_iretv (r := (nI 0)) X hx rfl (by unfold firstB; exact if_neg (fun h => hi0 h.1)) (by rfl) dX0_firstBelief_25
  · have hi0 := hasN_lt (by omega) hi c_9
    refine g_aload_n X 0 dX0_firstBelief_12 rfl ?_
    refine g_iconst (v := (nI 1)) X dX0_firstBelief_13 rfl ?_
    refine g_callVr (st2 := [.ref (b 0)]) (q0 := 0) X (c_X6_surveyOf_1 E t a b v) cs_X0_66 rfl [0, 1, 2] [] 3 rfl (by decide) rfl rfl rfl rfl rfl (Nat.le_of_ble_eq_true rfl) dX0_firstBelief_14 rfl ?_
    refine g_iload_n X 2 dX0_firstBelief_17 rfl ?_
    refine g_callVr (st2 := [.int (b2i (hasN (sM (tB v)) (nI j)))]) (q0 := 0) X (c_X4_hasMeeting E b (tB v) (nI j)) cs_X0_89 rfl [2] [0, 1] 3 rfl (by decide) rfl rfl rfl rfl rfl (Nat.le_of_ble_eq_true rfl) dX0_firstBelief_18 rfl ?_
    refine g_bif_ne (tgt := 26) X dX0_firstBelief_21 (by decide) (fun c_21 => ?_) (fun c_21 => ?_)
    · have hj0 := hasN_lt (by omega) hj c_21
      refine g_aload_n X 0 dX0_firstBelief_26 rfl ?_
      refine g_iconst (v := (nI 0)) X dX0_firstBelief_27 rfl ?_
      refine g_iload_n X 1 dX0_firstBelief_28 rfl ?_
      refine g_callVr (st2 := [.int (reachV (tR v) (sKd (tA v) i))]) (q0 := 0) X (c_X6_reachOf_0 E t a b v i (by first | assumption | omega) (by first | assumption | omega)) cs_X0_93 rfl [0, 1, 2] [] 3 rfl (by decide) rfl rfl rfl rfl rfl (Nat.le_of_ble_eq_true rfl) dX0_firstBelief_29 rfl ?_
      refine g_aload_n X 0 dX0_firstBelief_32 rfl ?_
      refine g_iconst (v := (nI 1)) X dX0_firstBelief_33 rfl ?_
      refine g_iload_n X 2 dX0_firstBelief_34 rfl ?_
      refine g_callVr (st2 := [.int (reachV (tR v) (sKd (tB v) j)), .int (reachV (tR v) (sKd (tA v) i))]) (q0 := 0) X (c_X6_reachOf_1 E t a b v j (by first | assumption | omega) (by first | assumption | omega)) cs_X0_93 rfl [0, 1, 2] [] 3 rfl (by decide) rfl rfl rfl rfl rfl (Nat.le_of_ble_eq_true rfl) dX0_firstBelief_35 rfl ?_
      refine g_min X cs_X0_96 ⟨by decide, Nat.le_of_ble_eq_true rfl, Nat.zero_le _, Nat.zero_le _⟩ dX0_firstBelief_38 ?_
      refine g_istore_n (lv' := [(3, .int (if (reachV (tR v) (sKd (tB v) j)) < (reachV (tR v) (sKd (tA v) i)) then (reachV (tR v) (sKd (tB v) j)) else (reachV (tR v) (sKd (tA v) i)))), (0, .ref t), (1, .int (nI i)), (2, .int (nI j))]) X dX0_firstBelief_41 (by decide) rfl ?_
      refine g_aload_n X 1 dX0_firstBelief_42 rfl ?_
      refine g_iload_n X 2 dX0_firstBelief_43 rfl ?_
      refine g_iload_n X 3 dX0_firstBelief_44 rfl ?_
      refine g_callVr (st2 := [.int (sqD v i j)]) (q0 := 0) X (c_X6_squaredDistance E t a b v i j (by first | assumption | omega) (by first | assumption | omega) (by first | assumption | omega)) cs_X0_101 rfl [0, 1, 2] [] 3 rfl (by decide) rfl rfl rfl rfl rfl (Nat.le_of_ble_eq_true rfl) dX0_firstBelief_45 rfl ?_
      refine g_istore (lv' := [(4, .int (sqD v i j)), (3, .int (if (reachV (tR v) (sKd (tB v) j)) < (reachV (tR v) (sKd (tA v) i)) then (reachV (tR v) (sKd (tB v) j)) else (reachV (tR v) (sKd (tA v) i)))), (0, .ref t), (1, .int (nI i)), (2, .int (nI j))]) X dX0_firstBelief_48 (by decide) rfl ?_
      refine g_iload X 0 dX0_firstBelief_50 rfl ?_
      refine g_iload_n X 1 dX0_firstBelief_52 rfl ?_
      refine g_iload_n X 1 dX0_firstBelief_53 rfl ?_
      refine g_imul X dX0_firstBelief_54 ?_
      refine g_icmp_le (tgt := 60) X dX0_firstBelief_55 (by decide) (fun c_55 => ?_) (fun c_55 => ?_)
      · refine g_iconst (v := (nI 1)) X dX0_firstBelief_60 rfl ?_
        refine g_aload_n X 2 dX0_firstBelief_61 rfl ?_
        refine g_callVr (st2 := [.int (tR v), .int (nI 1)]) (q0 := 0) X (c_X6_radius E t a b v) cs_X0_104 rfl [0, 1, 2] [] 3 rfl (by decide) rfl rfl rfl rfl rfl (Nat.le_of_ble_eq_true rfl) dX0_firstBelief_62 rfl ?_
        refine g_aload_n X 2 dX0_firstBelief_65 rfl ?_
        refine g_callVr (st2 := [.int (tR v), .int (tR v), .int (nI 1)]) (q0 := 0) X (c_X6_radius E t a b v) cs_X0_104 rfl [0, 1, 2] [] 3 rfl (by decide) rfl rfl rfl rfl rfl (Nat.le_of_ble_eq_true rfl) dX0_firstBelief_66 rfl ?_
        refine g_imul X dX0_firstBelief_69 ?_
        refine g_iconst (v := (nI 1)) X dX0_firstBelief_70 rfl ?_
        refine g_iadd X dX0_firstBelief_71 ?_
        refine g_iload X 0 dX0_firstBelief_72 rfl ?_
        refine g_isub X dX0_firstBelief_74 ?_
        refine g_max X cs_X0_107 ⟨by decide, Nat.le_of_ble_eq_true rfl, Nat.zero_le _, Nat.zero_le _⟩ dX0_firstBelief_75 ?_
        exact g_iretv (r := (if (nI 1) < ((((tR v) * (tR v)) + (nI 1)) - (sqD v i j)) then ((((tR v) * (tR v)) + (nI 1)) - (sqD v i j)) else (nI 1))) X hx rfl (by unfold firstB; exact (if_pos (And.intro hi0 hj0)).trans (if_pos c_55)) (by rfl) dX0_firstBelief_78
      · refine g_iconst (v := (nI 0)) X dX0_firstBelief_58 rfl ?_
        exact g_iretv (r := (nI 0)) X hx rfl (by unfold firstB; exact (if_pos (And.intro hi0 hj0)).trans (if_neg c_55)) (by rfl) dX0_firstBelief_59
    · have hj0 := Nat.not_lt.mpr (hasN_ge (by omega) c_21)
      refine g_iconst (v := (nI 0)) X dX0_firstBelief_24 rfl ?_
      exact g_iretv (r := (nI 0)) X hx rfl (by unfold firstB; exact if_neg (fun h => hj0 h.2)) (by rfl) dX0_firstBelief_25
set_option maxHeartbeats 4000000 in
set_option maxRecDepth 100000 in
theorem c_X0_support_0 (E : GE) (m : Nat → Nat) (rb : Nat → Nat) (rc : Nat → Nat) (P : Nat) (C : Nat → Nat → Int32) (t : Nat) (a : Nat → Nat) (b : Nat → Nat) (v : TV) (i : Nat) (j : Nat) (hv : okT v) : CT E m_X0_support [.ref (m 0), .ref t, .int (nI 0), .int (nI i), .int (nI j)] ([wMo E m rb rc P, wRw E rc C, wTw E t a b (tR v) (tN v), wSv E a (tA v), wSv E b (tB v)].flatten) (some (.int (sup0 v C i j))) ([wMo E m rb rc P, wRw E rc C, wTw E t a b (tR v) (tN v), wSv E a (tA v), wSv E b (tB v)].flatten) := by
  refine CT.intro (by decide +kernel) (Nat.le_of_ble_eq_true rfl) (fun Γ X hx => ?_)
  refine GG.lv [0, 1, 2, 3, 4] (lv' := [(0, .ref (m 0)), (1, .ref t), (2, .int (nI 0)), (3, .int (nI i)), (4, .int (nI j))]) rfl ?_
  have hA : okS (tA v) := hv.1
  have hB : okS (tB v) := hv.2.1
  have hv1 : sM (tA v) ≤ 8 := hA.1
  have hv2 : sS (tA v) ≤ 8 := hA.2
  have hv3 : sM (tB v) ≤ 8 := hB.1
  have hv4 : sS (tB v) ≤ 8 := hB.2
  have hv5 : tN v ≤ 3 := hv.2.2
  refine g_aload_n X 1 dX0_support_0 rfl ?_
  refine g_iload_n X 2 dX0_support_1 rfl ?_
  refine g_callVr (st2 := [.ref (a 0)]) (q0 := 0) X (c_X6_surveyOf_0 E t a b v) cs_X0_66 rfl [2, 3, 4] [0, 1] 5 rfl (by decide) rfl rfl rfl rfl rfl (Nat.le_of_ble_eq_true rfl) dX0_support_2 rfl ?_
  refine g_astore (lv' := [(5, .ref (a 0)), (0, .ref (m 0)), (1, .ref t), (2, .int (nI 0)), (3, .int (nI i)), (4, .int (nI j))]) X dX0_support_5 (by decide) rfl ?_
  refine g_aload_n X 2 dX0_support_7 rfl ?_
  refine g_iconst (v := (nI 1)) X dX0_support_8 rfl ?_
  refine g_iload_n X 3 dX0_support_9 rfl ?_
  refine g_isubN X (by omega) dX0_support_10 ?_
  refine g_callVr (st2 := [.ref (b 0)]) (q0 := 0) X (c_X6_surveyOf_1 E t a b v) cs_X0_66 rfl [2, 3, 4] [0, 1] 5 rfl (by decide) rfl rfl rfl rfl rfl (Nat.le_of_ble_eq_true rfl) dX0_support_11 rfl ?_
  refine g_astore (lv' := [(6, .ref (b 0)), (5, .ref (a 0)), (0, .ref (m 0)), (1, .ref t), (2, .int (nI 0)), (3, .int (nI i)), (4, .int (nI j))]) X dX0_support_14 (by decide) rfl ?_
  refine g_iconst (v := (nI 0)) X dX0_support_16 rfl ?_
  refine g_istore (lv' := [(7, .int (nI 0)), (6, .ref (b 0)), (5, .ref (a 0)), (0, .ref (m 0)), (1, .ref t), (2, .int (nI 0)), (3, .int (nI i)), (4, .int (nI j))]) X dX0_support_17 (by decide) rfl ?_
  refine g_iconst (v := (nI 0)) X dX0_support_19 rfl ?_
  refine g_istore (lv' := [(8, .int (nI 0)), (7, .int (nI 0)), (6, .ref (b 0)), (5, .ref (a 0)), (0, .ref (m 0)), (1, .ref t), (2, .int (nI 0)), (3, .int (nI i)), (4, .int (nI j))]) X dX0_support_20 (by decide) rfl ?_
  have L_22 : ∀ (n_22 : Nat) (s : Nat) (hs : s ≤ sS (tA v)) (hm_22 : sS (tA v) - s < n_22) (x_7 : Int32) (ex_7 : x_7 = (sumI (fun s => gvI (svOther (tA v) s (nI i)) (fun t1 => bIn C (svOther (tA v) s (nI i)) (svOther (tB v) t1 (nI j))) (sS (tB v))) s)) (x_8 : Int32) (ex_8 : x_8 = (nI s)), GG E m_X0_support Γ 0 0 ([wMo E m rb rc P, wRw E rc C, wTw E t a b (tR v) (tN v), wSv E a (tA v), wSv E b (tB v)].flatten) [(0, .ref (m 0)), (1, .ref t), (2, .int (nI 0)), (3, .int (nI i)), (4, .int (nI j)), (5, .ref (a 0)), (6, .ref (b 0)), (7, .int x_7), (8, .int x_8)] 22 [] := by
    intro n_22
    induction n_22 with
    | zero => intro s hs hm_22; exact absurd hm_22 (Nat.not_lt_zero _)
    | succ n_22 ih_22 =>
      intro s hs hm_22 x_7 ex_7 x_8 ex_8
      subst ex_7
      subst ex_8
      refine g_iload X 8 dX0_support_22 rfl ?_
      refine g_aload X 5 dX0_support_24 rfl ?_
      refine g_callVr (st2 := [.int (nI (sS (tA v))), .int (nI s)]) (q0 := 0) X (c_X4_streets E a (tA v)) cs_X0_120 rfl [3] [0, 1, 2, 4] 5 rfl (by decide) rfl rfl rfl rfl rfl (Nat.le_of_ble_eq_true rfl) dX0_support_26 rfl ?_
      refine g_icmp_ge (tgt := 128) X dX0_support_29 (by decide) (fun c_29 => ?_) (fun c_29 => ?_)
      · have f_c_29 : sS (tA v) ≤ s := n_le (by omega) (by omega) c_29
        have fn_c_29 := Nat.not_lt.mpr f_c_29
        refine g_iload X 7 dX0_support_128 rfl ?_
        exact g_iretv (r := (sumI (fun s => gvI (svOther (tA v) s (nI i)) (fun t1 => bIn C (svOther (tA v) s (nI i)) (svOther (tB v) t1 (nI j))) (sS (tB v))) s)) X hx rfl (by unfold sup0; rw [show sS (tA v) = s by omega]) (by rfl) dX0_support_130
      · have f_c_29 : s < sS (tA v) := n_nle (by omega) (by omega) c_29
        have fn_c_29 := Nat.not_le.mpr f_c_29
        refine g_aload X 5 dX0_support_32 rfl ?_
        refine g_iload X 8 dX0_support_34 rfl ?_
        refine g_iload_n X 3 dX0_support_36 rfl ?_
        refine g_callVr (st2 := [.int (svOther (tA v) s (nI i))]) (q0 := 0) X (c_X4_otherEnd E a (tA v) s (nI i) (by first | assumption | omega) (by first | assumption | omega)) cs_X0_123 rfl [3] [0, 1, 2, 4] 5 rfl (by decide) rfl rfl rfl rfl rfl (Nat.le_of_ble_eq_true rfl) dX0_support_37 rfl ?_
        refine g_istore (lv' := [(9, .int (svOther (tA v) s (nI i))), (0, .ref (m 0)), (1, .ref t), (2, .int (nI 0)), (3, .int (nI i)), (4, .int (nI j)), (5, .ref (a 0)), (6, .ref (b 0)), (7, .int (sumI (fun s => gvI (svOther (tA v) s (nI i)) (fun t1 => bIn C (svOther (tA v) s (nI i)) (svOther (tB v) t1 (nI j))) (sS (tB v))) s)), (8, .int (nI s))]) X dX0_support_40 (by decide) rfl ?_
        refine g_iconst (v := (nI 0)) X dX0_support_42 rfl ?_
        refine g_istore (lv' := [(10, .int (nI 0)), (9, .int (svOther (tA v) s (nI i))), (0, .ref (m 0)), (1, .ref t), (2, .int (nI 0)), (3, .int (nI i)), (4, .int (nI j)), (5, .ref (a 0)), (6, .ref (b 0)), (7, .int (sumI (fun s => gvI (svOther (tA v) s (nI i)) (fun t1 => bIn C (svOther (tA v) s (nI i)) (svOther (tB v) t1 (nI j))) (sS (tB v))) s)), (8, .int (nI s))]) X dX0_support_43 (by decide) rfl ?_
        refine g_iconst (v := (nI 0)) X dX0_support_45 rfl ?_
        refine g_istore (lv' := [(11, .int (nI 0)), (10, .int (nI 0)), (9, .int (svOther (tA v) s (nI i))), (0, .ref (m 0)), (1, .ref t), (2, .int (nI 0)), (3, .int (nI i)), (4, .int (nI j)), (5, .ref (a 0)), (6, .ref (b 0)), (7, .int (sumI (fun s => gvI (svOther (tA v) s (nI i)) (fun t1 => bIn C (svOther (tA v) s (nI i)) (svOther (tB v) t1 (nI j))) (sS (tB v))) s)), (8, .int (nI s))]) X dX0_support_46 (by decide) rfl ?_
        have L_48 : ∀ (n_48 : Nat) (t1 : Nat) (ht1 : t1 ≤ sS (tB v)) (hk : svOther (tA v) s (nI i) = -1 → t1 = 0) (hm_48 : sS (tB v) - t1 < n_48) (x_10 : Int32) (ex_10 : x_10 = (maxI (fun t1 => bIn C (svOther (tA v) s (nI i)) (svOther (tB v) t1 (nI j))) t1)) (x_11 : Int32) (ex_11 : x_11 = (nI t1)), GG E m_X0_support Γ 0 0 ([wMo E m rb rc P, wRw E rc C, wTw E t a b (tR v) (tN v), wSv E a (tA v), wSv E b (tB v)].flatten) [(0, .ref (m 0)), (1, .ref t), (2, .int (nI 0)), (3, .int (nI i)), (4, .int (nI j)), (5, .ref (a 0)), (6, .ref (b 0)), (7, .int (sumI (fun s => gvI (svOther (tA v) s (nI i)) (fun t1 => bIn C (svOther (tA v) s (nI i)) (svOther (tB v) t1 (nI j))) (sS (tB v))) s)), (8, .int (nI s)), (9, .int (svOther (tA v) s (nI i))), (10, .int x_10), (11, .int x_11)] 48 [] := by
          intro n_48
          induction n_48 with
          | zero => intro t1 ht1 hk hm_48; exact absurd hm_48 (Nat.not_lt_zero _)
          | succ n_48 ih_48 =>
            intro t1 ht1 hk hm_48 x_10 ex_10 x_11 ex_11
            subst ex_10
            subst ex_11
            refine g_iload X 9 dX0_support_48 rfl ?_
            refine g_iconst (v := (-1)) X dX0_support_50 rfl ?_
            refine g_icmp_eq (tgt := 115) X dX0_support_51 (by decide) (fun c_51 => ?_) (fun c_51 => ?_)
            · refine g_iload X 7 dX0_support_115 rfl ?_
              refine g_iload X 10 dX0_support_117 rfl ?_
              refine g_iadd X dX0_support_119 ?_
              refine g_istore (lv' := [(7, .int ((sumI (fun s => gvI (svOther (tA v) s (nI i)) (fun t1 => bIn C (svOther (tA v) s (nI i)) (svOther (tB v) t1 (nI j))) (sS (tB v))) s) + (maxI (fun t1 => bIn C (svOther (tA v) s (nI i)) (svOther (tB v) t1 (nI j))) t1))), (0, .ref (m 0)), (1, .ref t), (2, .int (nI 0)), (3, .int (nI i)), (4, .int (nI j)), (5, .ref (a 0)), (6, .ref (b 0)), (8, .int (nI s)), (9, .int (svOther (tA v) s (nI i))), (10, .int (maxI (fun t1 => bIn C (svOther (tA v) s (nI i)) (svOther (tB v) t1 (nI j))) t1)), (11, .int (nI t1))]) X dX0_support_120 (by decide) rfl ?_
              refine g_iincN (lv' := [(8, .int (nI (s + 1))), (7, .int ((sumI (fun s => gvI (svOther (tA v) s (nI i)) (fun t1 => bIn C (svOther (tA v) s (nI i)) (svOther (tB v) t1 (nI j))) (sS (tB v))) s) + (maxI (fun t1 => bIn C (svOther (tA v) s (nI i)) (svOther (tB v) t1 (nI j))) t1))), (0, .ref (m 0)), (1, .ref t), (2, .int (nI 0)), (3, .int (nI i)), (4, .int (nI j)), (5, .ref (a 0)), (6, .ref (b 0)), (9, .int (svOther (tA v) s (nI i))), (10, .int (maxI (fun t1 => bIn C (svOther (tA v) s (nI i)) (svOther (tB v) t1 (nI j))) t1)), (11, .int (nI t1))]) X 8 dX0_support_122 rfl (by decide) rfl ?_
              refine g_goto (tgt := 22) X dX0_support_125 (by decide) ?_
              refine GG.lv [2, 3, 4, 5, 6, 7, 8, 1, 0] rfl ?_
              exact ih_22 (s + 1) (by omega) (by omega) ((sumI (fun s => gvI (svOther (tA v) s (nI i)) (fun t1 => bIn C (svOther (tA v) s (nI i)) (svOther (tB v) t1 (nI j))) (sS (tB v))) s) + (maxI (fun t1 => bIn C (svOther (tA v) s (nI i)) (svOther (tB v) t1 (nI j))) t1)) (by show _ = sumI _ s + gvI _ _ _; unfold gvI; rw [if_pos c_51, hk c_51]; rfl) (nI (s + 1)) (by rfl)
            · refine g_iload X 11 dX0_support_54 rfl ?_
              refine g_aload X 6 dX0_support_56 rfl ?_
              refine g_callVr (st2 := [.int (nI (sS (tB v))), .int (nI t1)]) (q0 := 0) X (c_X4_streets E b (tB v)) cs_X0_120 rfl [4] [0, 1, 2, 3] 5 rfl (by decide) rfl rfl rfl rfl rfl (Nat.le_of_ble_eq_true rfl) dX0_support_58 rfl ?_
              refine g_icmp_ge (tgt := 115) X dX0_support_61 (by decide) (fun c_61 => ?_) (fun c_61 => ?_)
              · have f_c_61 : sS (tB v) ≤ t1 := n_le (by omega) (by omega) c_61
                have fn_c_61 := Nat.not_lt.mpr f_c_61
                refine g_iload X 7 dX0_support_115 rfl ?_
                refine g_iload X 10 dX0_support_117 rfl ?_
                refine g_iadd X dX0_support_119 ?_
                refine g_istore (lv' := [(7, .int ((sumI (fun s => gvI (svOther (tA v) s (nI i)) (fun t1 => bIn C (svOther (tA v) s (nI i)) (svOther (tB v) t1 (nI j))) (sS (tB v))) s) + (maxI (fun t1 => bIn C (svOther (tA v) s (nI i)) (svOther (tB v) t1 (nI j))) t1))), (0, .ref (m 0)), (1, .ref t), (2, .int (nI 0)), (3, .int (nI i)), (4, .int (nI j)), (5, .ref (a 0)), (6, .ref (b 0)), (8, .int (nI s)), (9, .int (svOther (tA v) s (nI i))), (10, .int (maxI (fun t1 => bIn C (svOther (tA v) s (nI i)) (svOther (tB v) t1 (nI j))) t1)), (11, .int (nI t1))]) X dX0_support_120 (by decide) rfl ?_
                refine g_iincN (lv' := [(8, .int (nI (s + 1))), (7, .int ((sumI (fun s => gvI (svOther (tA v) s (nI i)) (fun t1 => bIn C (svOther (tA v) s (nI i)) (svOther (tB v) t1 (nI j))) (sS (tB v))) s) + (maxI (fun t1 => bIn C (svOther (tA v) s (nI i)) (svOther (tB v) t1 (nI j))) t1))), (0, .ref (m 0)), (1, .ref t), (2, .int (nI 0)), (3, .int (nI i)), (4, .int (nI j)), (5, .ref (a 0)), (6, .ref (b 0)), (9, .int (svOther (tA v) s (nI i))), (10, .int (maxI (fun t1 => bIn C (svOther (tA v) s (nI i)) (svOther (tB v) t1 (nI j))) t1)), (11, .int (nI t1))]) X 8 dX0_support_122 rfl (by decide) rfl ?_
                refine g_goto (tgt := 22) X dX0_support_125 (by decide) ?_
                refine GG.lv [2, 3, 4, 5, 6, 7, 8, 1, 0] rfl ?_
                exact ih_22 (s + 1) (by omega) (by omega) ((sumI (fun s => gvI (svOther (tA v) s (nI i)) (fun t1 => bIn C (svOther (tA v) s (nI i)) (svOther (tB v) t1 (nI j))) (sS (tB v))) s) + (maxI (fun t1 => bIn C (svOther (tA v) s (nI i)) (svOther (tB v) t1 (nI j))) t1)) (by show _ = sumI _ s + gvI _ _ _; unfold gvI; rw [if_neg c_51, show sS (tB v) = t1 by omega]) (nI (s + 1)) (by rfl)
              · have f_c_61 : t1 < sS (tB v) := n_nle (by omega) (by omega) c_61
                have fn_c_61 := Nat.not_le.mpr f_c_61
                refine g_aload X 6 dX0_support_64 rfl ?_
                refine g_iload X 11 dX0_support_66 rfl ?_
                refine g_iload X 4 dX0_support_68 rfl ?_
                refine g_callVr (st2 := [.int (svOther (tB v) t1 (nI j))]) (q0 := 0) X (c_X4_otherEnd E b (tB v) t1 (nI j) (by first | assumption | omega) (by first | assumption | omega)) cs_X0_123 rfl [4] [0, 1, 2, 3] 5 rfl (by decide) rfl rfl rfl rfl rfl (Nat.le_of_ble_eq_true rfl) dX0_support_70 rfl ?_
                refine g_istore (lv' := [(12, .int (svOther (tB v) t1 (nI j))), (0, .ref (m 0)), (1, .ref t), (2, .int (nI 0)), (3, .int (nI i)), (4, .int (nI j)), (5, .ref (a 0)), (6, .ref (b 0)), (7, .int (sumI (fun s => gvI (svOther (tA v) s (nI i)) (fun t1 => bIn C (svOther (tA v) s (nI i)) (svOther (tB v) t1 (nI j))) (sS (tB v))) s)), (8, .int (nI s)), (9, .int (svOther (tA v) s (nI i))), (10, .int (maxI (fun t1 => bIn C (svOther (tA v) s (nI i)) (svOther (tB v) t1 (nI j))) t1)), (11, .int (nI t1))]) X dX0_support_73 (by decide) rfl ?_
                refine g_iload_n X 3 dX0_support_75 rfl ?_
                refine g_if_ne (tgt := 90) X dX0_support_76 (by decide) (fun c_76 => absurd c_76 (by decide)) (fun c_76 => ?_)
                refine g_aload_n X 1 dX0_support_79 rfl ?_
                refine g_iload X 10 dX0_support_80 rfl ?_
                refine g_iload X 0 dX0_support_82 rfl ?_
                refine g_callVr (st2 := [.int (bIn C (svOther (tA v) s (nI i)) (svOther (tB v) t1 (nI j)))]) (q0 := 0) X (c_X0_beliefBefore E m rb rc P C (svOther (tA v) s (nI i)) (svOther (tB v) t1 (nI j))) cs_X0_126 rfl [0, 1] [2, 3, 4] 5 rfl (by decide) rfl rfl rfl rfl rfl (Nat.le_of_ble_eq_true rfl) dX0_support_84 rfl ?_
                refine g_goto (tgt := 98) X dX0_support_87 (by decide) ?_
                refine g_istore (lv' := [(13, .int (bIn C (svOther (tA v) s (nI i)) (svOther (tB v) t1 (nI j)))), (12, .int (svOther (tB v) t1 (nI j))), (0, .ref (m 0)), (1, .ref t), (2, .int (nI 0)), (3, .int (nI i)), (4, .int (nI j)), (5, .ref (a 0)), (6, .ref (b 0)), (7, .int (sumI (fun s => gvI (svOther (tA v) s (nI i)) (fun t1 => bIn C (svOther (tA v) s (nI i)) (svOther (tB v) t1 (nI j))) (sS (tB v))) s)), (8, .int (nI s)), (9, .int (svOther (tA v) s (nI i))), (10, .int (maxI (fun t1 => bIn C (svOther (tA v) s (nI i)) (svOther (tB v) t1 (nI j))) t1)), (11, .int (nI t1))]) X dX0_support_98 (by decide) rfl ?_
                refine g_iload X 12 dX0_support_100 rfl ?_
                refine g_iload X 0 dX0_support_102 rfl ?_
                refine g_max X cs_X0_107 ⟨by decide, Nat.le_of_ble_eq_true rfl, Nat.zero_le _, Nat.zero_le _⟩ dX0_support_104 ?_
                refine g_istore (lv' := [(10, .int (if (maxI (fun t1 => bIn C (svOther (tA v) s (nI i)) (svOther (tB v) t1 (nI j))) t1) < (bIn C (svOther (tA v) s (nI i)) (svOther (tB v) t1 (nI j))) then (bIn C (svOther (tA v) s (nI i)) (svOther (tB v) t1 (nI j))) else (maxI (fun t1 => bIn C (svOther (tA v) s (nI i)) (svOther (tB v) t1 (nI j))) t1))), (13, .int (bIn C (svOther (tA v) s (nI i)) (svOther (tB v) t1 (nI j)))), (12, .int (svOther (tB v) t1 (nI j))), (0, .ref (m 0)), (1, .ref t), (2, .int (nI 0)), (3, .int (nI i)), (4, .int (nI j)), (5, .ref (a 0)), (6, .ref (b 0)), (7, .int (sumI (fun s => gvI (svOther (tA v) s (nI i)) (fun t1 => bIn C (svOther (tA v) s (nI i)) (svOther (tB v) t1 (nI j))) (sS (tB v))) s)), (8, .int (nI s)), (9, .int (svOther (tA v) s (nI i))), (11, .int (nI t1))]) X dX0_support_107 (by decide) rfl ?_
                refine g_iincN (lv' := [(11, .int (nI (t1 + 1))), (10, .int (if (maxI (fun t1 => bIn C (svOther (tA v) s (nI i)) (svOther (tB v) t1 (nI j))) t1) < (bIn C (svOther (tA v) s (nI i)) (svOther (tB v) t1 (nI j))) then (bIn C (svOther (tA v) s (nI i)) (svOther (tB v) t1 (nI j))) else (maxI (fun t1 => bIn C (svOther (tA v) s (nI i)) (svOther (tB v) t1 (nI j))) t1))), (13, .int (bIn C (svOther (tA v) s (nI i)) (svOther (tB v) t1 (nI j)))), (12, .int (svOther (tB v) t1 (nI j))), (0, .ref (m 0)), (1, .ref t), (2, .int (nI 0)), (3, .int (nI i)), (4, .int (nI j)), (5, .ref (a 0)), (6, .ref (b 0)), (7, .int (sumI (fun s => gvI (svOther (tA v) s (nI i)) (fun t1 => bIn C (svOther (tA v) s (nI i)) (svOther (tB v) t1 (nI j))) (sS (tB v))) s)), (8, .int (nI s)), (9, .int (svOther (tA v) s (nI i)))]) X 13 dX0_support_109 rfl (by decide) rfl ?_
                refine g_goto (tgt := 48) X dX0_support_112 (by decide) ?_
                refine GG.lv [4, 5, 6, 7, 8, 9, 10, 11, 12, 13, 1, 0] rfl ?_
                exact ih_48 (t1 + 1) (by omega) (fun e => absurd e c_51) (by omega) (if (maxI (fun t1 => bIn C (svOther (tA v) s (nI i)) (svOther (tB v) t1 (nI j))) t1) < (bIn C (svOther (tA v) s (nI i)) (svOther (tB v) t1 (nI j))) then (bIn C (svOther (tA v) s (nI i)) (svOther (tB v) t1 (nI j))) else (maxI (fun t1 => bIn C (svOther (tA v) s (nI i)) (svOther (tB v) t1 (nI j))) t1)) (by rfl) (nI (t1 + 1)) (by rfl)
        refine GG.lv [3, 4, 5, 6, 7, 8, 9, 10, 11, 2, 1, 0] rfl ?_
        exact L_48 (sS (tB v) + 1) 0 (by omega) (fun _ => rfl) (by omega) (nI 0) (by rfl) (nI 0) (by rfl)
  refine GG.lv [4, 5, 6, 7, 8, 3, 2, 1, 0] rfl ?_
  exact L_22 (sS (tA v) + 1) 0 (by omega) (by omega) (nI 0) (by rfl) (nI 0) (by rfl)
set_option maxHeartbeats 4000000 in
set_option maxRecDepth 100000 in
theorem c_X0_support_1 (E : GE) (m : Nat → Nat) (rb : Nat → Nat) (rc : Nat → Nat) (P : Nat) (C : Nat → Nat → Int32) (t : Nat) (a : Nat → Nat) (b : Nat → Nat) (v : TV) (i : Nat) (j : Nat) (hv : okT v) : CT E m_X0_support [.ref (m 0), .ref t, .int (nI 1), .int (nI i), .int (nI j)] ([wMo E m rb rc P, wRw E rc C, wTw E t a b (tR v) (tN v), wSv E a (tA v), wSv E b (tB v)].flatten) (some (.int (sup1 v C i j))) ([wMo E m rb rc P, wRw E rc C, wTw E t a b (tR v) (tN v), wSv E a (tA v), wSv E b (tB v)].flatten) := by
  refine CT.intro (by decide +kernel) (Nat.le_of_ble_eq_true rfl) (fun Γ X hx => ?_)
  refine GG.lv [0, 1, 2, 3, 4] (lv' := [(0, .ref (m 0)), (1, .ref t), (2, .int (nI 1)), (3, .int (nI i)), (4, .int (nI j))]) rfl ?_
  have hA : okS (tA v) := hv.1
  have hB : okS (tB v) := hv.2.1
  have hv1 : sM (tA v) ≤ 8 := hA.1
  have hv2 : sS (tA v) ≤ 8 := hA.2
  have hv3 : sM (tB v) ≤ 8 := hB.1
  have hv4 : sS (tB v) ≤ 8 := hB.2
  have hv5 : tN v ≤ 3 := hv.2.2
  refine g_aload_n X 1 dX0_support_0 rfl ?_
  refine g_iload_n X 2 dX0_support_1 rfl ?_
  refine g_callVr (st2 := [.ref (b 0)]) (q0 := 0) X (c_X6_surveyOf_1 E t a b v) cs_X0_66 rfl [2, 3, 4] [0, 1] 5 rfl (by decide) rfl rfl rfl rfl rfl (Nat.le_of_ble_eq_true rfl) dX0_support_2 rfl ?_
  refine g_astore (lv' := [(5, .ref (b 0)), (0, .ref (m 0)), (1, .ref t), (2, .int (nI 1)), (3, .int (nI i)), (4, .int (nI j))]) X dX0_support_5 (by decide) rfl ?_
  refine g_aload_n X 2 dX0_support_7 rfl ?_
  refine g_iconst (v := (nI 1)) X dX0_support_8 rfl ?_
  refine g_iload_n X 3 dX0_support_9 rfl ?_
  refine g_isubN X (by omega) dX0_support_10 ?_
  refine g_callVr (st2 := [.ref (a 0)]) (q0 := 0) X (c_X6_surveyOf_0 E t a b v) cs_X0_66 rfl [2, 3, 4] [0, 1] 5 rfl (by decide) rfl rfl rfl rfl rfl (Nat.le_of_ble_eq_true rfl) dX0_support_11 rfl ?_
  refine g_astore (lv' := [(6, .ref (a 0)), (5, .ref (b 0)), (0, .ref (m 0)), (1, .ref t), (2, .int (nI 1)), (3, .int (nI i)), (4, .int (nI j))]) X dX0_support_14 (by decide) rfl ?_
  refine g_iconst (v := (nI 0)) X dX0_support_16 rfl ?_
  refine g_istore (lv' := [(7, .int (nI 0)), (6, .ref (a 0)), (5, .ref (b 0)), (0, .ref (m 0)), (1, .ref t), (2, .int (nI 1)), (3, .int (nI i)), (4, .int (nI j))]) X dX0_support_17 (by decide) rfl ?_
  refine g_iconst (v := (nI 0)) X dX0_support_19 rfl ?_
  refine g_istore (lv' := [(8, .int (nI 0)), (7, .int (nI 0)), (6, .ref (a 0)), (5, .ref (b 0)), (0, .ref (m 0)), (1, .ref t), (2, .int (nI 1)), (3, .int (nI i)), (4, .int (nI j))]) X dX0_support_20 (by decide) rfl ?_
  have L_22 : ∀ (n_22 : Nat) (s : Nat) (hs : s ≤ sS (tB v)) (hm_22 : sS (tB v) - s < n_22) (x_7 : Int32) (ex_7 : x_7 = (sumI (fun s => gvI (svOther (tB v) s (nI i)) (fun t1 => bIn C (svOther (tA v) t1 (nI j)) (svOther (tB v) s (nI i))) (sS (tA v))) s)) (x_8 : Int32) (ex_8 : x_8 = (nI s)), GG E m_X0_support Γ 0 0 ([wMo E m rb rc P, wRw E rc C, wTw E t a b (tR v) (tN v), wSv E a (tA v), wSv E b (tB v)].flatten) [(0, .ref (m 0)), (1, .ref t), (2, .int (nI 1)), (3, .int (nI i)), (4, .int (nI j)), (5, .ref (b 0)), (6, .ref (a 0)), (7, .int x_7), (8, .int x_8)] 22 [] := by
    intro n_22
    induction n_22 with
    | zero => intro s hs hm_22; exact absurd hm_22 (Nat.not_lt_zero _)
    | succ n_22 ih_22 =>
      intro s hs hm_22 x_7 ex_7 x_8 ex_8
      subst ex_7
      subst ex_8
      refine g_iload X 8 dX0_support_22 rfl ?_
      refine g_aload X 5 dX0_support_24 rfl ?_
      refine g_callVr (st2 := [.int (nI (sS (tB v))), .int (nI s)]) (q0 := 0) X (c_X4_streets E b (tB v)) cs_X0_120 rfl [4] [0, 1, 2, 3] 5 rfl (by decide) rfl rfl rfl rfl rfl (Nat.le_of_ble_eq_true rfl) dX0_support_26 rfl ?_
      refine g_icmp_ge (tgt := 128) X dX0_support_29 (by decide) (fun c_29 => ?_) (fun c_29 => ?_)
      · have f_c_29 : sS (tB v) ≤ s := n_le (by omega) (by omega) c_29
        have fn_c_29 := Nat.not_lt.mpr f_c_29
        refine g_iload X 7 dX0_support_128 rfl ?_
        exact g_iretv (r := (sumI (fun s => gvI (svOther (tB v) s (nI i)) (fun t1 => bIn C (svOther (tA v) t1 (nI j)) (svOther (tB v) s (nI i))) (sS (tA v))) s)) X hx rfl (by unfold sup1; rw [show sS (tB v) = s by omega]) (by rfl) dX0_support_130
      · have f_c_29 : s < sS (tB v) := n_nle (by omega) (by omega) c_29
        have fn_c_29 := Nat.not_le.mpr f_c_29
        refine g_aload X 5 dX0_support_32 rfl ?_
        refine g_iload X 8 dX0_support_34 rfl ?_
        refine g_iload_n X 3 dX0_support_36 rfl ?_
        refine g_callVr (st2 := [.int (svOther (tB v) s (nI i))]) (q0 := 0) X (c_X4_otherEnd E b (tB v) s (nI i) (by first | assumption | omega) (by first | assumption | omega)) cs_X0_123 rfl [4] [0, 1, 2, 3] 5 rfl (by decide) rfl rfl rfl rfl rfl (Nat.le_of_ble_eq_true rfl) dX0_support_37 rfl ?_
        refine g_istore (lv' := [(9, .int (svOther (tB v) s (nI i))), (0, .ref (m 0)), (1, .ref t), (2, .int (nI 1)), (3, .int (nI i)), (4, .int (nI j)), (5, .ref (b 0)), (6, .ref (a 0)), (7, .int (sumI (fun s => gvI (svOther (tB v) s (nI i)) (fun t1 => bIn C (svOther (tA v) t1 (nI j)) (svOther (tB v) s (nI i))) (sS (tA v))) s)), (8, .int (nI s))]) X dX0_support_40 (by decide) rfl ?_
        refine g_iconst (v := (nI 0)) X dX0_support_42 rfl ?_
        refine g_istore (lv' := [(10, .int (nI 0)), (9, .int (svOther (tB v) s (nI i))), (0, .ref (m 0)), (1, .ref t), (2, .int (nI 1)), (3, .int (nI i)), (4, .int (nI j)), (5, .ref (b 0)), (6, .ref (a 0)), (7, .int (sumI (fun s => gvI (svOther (tB v) s (nI i)) (fun t1 => bIn C (svOther (tA v) t1 (nI j)) (svOther (tB v) s (nI i))) (sS (tA v))) s)), (8, .int (nI s))]) X dX0_support_43 (by decide) rfl ?_
        refine g_iconst (v := (nI 0)) X dX0_support_45 rfl ?_
        refine g_istore (lv' := [(11, .int (nI 0)), (10, .int (nI 0)), (9, .int (svOther (tB v) s (nI i))), (0, .ref (m 0)), (1, .ref t), (2, .int (nI 1)), (3, .int (nI i)), (4, .int (nI j)), (5, .ref (b 0)), (6, .ref (a 0)), (7, .int (sumI (fun s => gvI (svOther (tB v) s (nI i)) (fun t1 => bIn C (svOther (tA v) t1 (nI j)) (svOther (tB v) s (nI i))) (sS (tA v))) s)), (8, .int (nI s))]) X dX0_support_46 (by decide) rfl ?_
        have L_48 : ∀ (n_48 : Nat) (t1 : Nat) (ht1 : t1 ≤ sS (tA v)) (hk : svOther (tB v) s (nI i) = -1 → t1 = 0) (hm_48 : sS (tA v) - t1 < n_48) (x_10 : Int32) (ex_10 : x_10 = (maxI (fun t1 => bIn C (svOther (tA v) t1 (nI j)) (svOther (tB v) s (nI i))) t1)) (x_11 : Int32) (ex_11 : x_11 = (nI t1)), GG E m_X0_support Γ 0 0 ([wMo E m rb rc P, wRw E rc C, wTw E t a b (tR v) (tN v), wSv E a (tA v), wSv E b (tB v)].flatten) [(0, .ref (m 0)), (1, .ref t), (2, .int (nI 1)), (3, .int (nI i)), (4, .int (nI j)), (5, .ref (b 0)), (6, .ref (a 0)), (7, .int (sumI (fun s => gvI (svOther (tB v) s (nI i)) (fun t1 => bIn C (svOther (tA v) t1 (nI j)) (svOther (tB v) s (nI i))) (sS (tA v))) s)), (8, .int (nI s)), (9, .int (svOther (tB v) s (nI i))), (10, .int x_10), (11, .int x_11)] 48 [] := by
          intro n_48
          induction n_48 with
          | zero => intro t1 ht1 hk hm_48; exact absurd hm_48 (Nat.not_lt_zero _)
          | succ n_48 ih_48 =>
            intro t1 ht1 hk hm_48 x_10 ex_10 x_11 ex_11
            subst ex_10
            subst ex_11
            refine g_iload X 9 dX0_support_48 rfl ?_
            refine g_iconst (v := (-1)) X dX0_support_50 rfl ?_
            refine g_icmp_eq (tgt := 115) X dX0_support_51 (by decide) (fun c_51 => ?_) (fun c_51 => ?_)
            · refine g_iload X 7 dX0_support_115 rfl ?_
              refine g_iload X 10 dX0_support_117 rfl ?_
              refine g_iadd X dX0_support_119 ?_
              refine g_istore (lv' := [(7, .int ((sumI (fun s => gvI (svOther (tB v) s (nI i)) (fun t1 => bIn C (svOther (tA v) t1 (nI j)) (svOther (tB v) s (nI i))) (sS (tA v))) s) + (maxI (fun t1 => bIn C (svOther (tA v) t1 (nI j)) (svOther (tB v) s (nI i))) t1))), (0, .ref (m 0)), (1, .ref t), (2, .int (nI 1)), (3, .int (nI i)), (4, .int (nI j)), (5, .ref (b 0)), (6, .ref (a 0)), (8, .int (nI s)), (9, .int (svOther (tB v) s (nI i))), (10, .int (maxI (fun t1 => bIn C (svOther (tA v) t1 (nI j)) (svOther (tB v) s (nI i))) t1)), (11, .int (nI t1))]) X dX0_support_120 (by decide) rfl ?_
              refine g_iincN (lv' := [(8, .int (nI (s + 1))), (7, .int ((sumI (fun s => gvI (svOther (tB v) s (nI i)) (fun t1 => bIn C (svOther (tA v) t1 (nI j)) (svOther (tB v) s (nI i))) (sS (tA v))) s) + (maxI (fun t1 => bIn C (svOther (tA v) t1 (nI j)) (svOther (tB v) s (nI i))) t1))), (0, .ref (m 0)), (1, .ref t), (2, .int (nI 1)), (3, .int (nI i)), (4, .int (nI j)), (5, .ref (b 0)), (6, .ref (a 0)), (9, .int (svOther (tB v) s (nI i))), (10, .int (maxI (fun t1 => bIn C (svOther (tA v) t1 (nI j)) (svOther (tB v) s (nI i))) t1)), (11, .int (nI t1))]) X 8 dX0_support_122 rfl (by decide) rfl ?_
              refine g_goto (tgt := 22) X dX0_support_125 (by decide) ?_
              refine GG.lv [2, 3, 4, 5, 6, 7, 8, 1, 0] rfl ?_
              exact ih_22 (s + 1) (by omega) (by omega) ((sumI (fun s => gvI (svOther (tB v) s (nI i)) (fun t1 => bIn C (svOther (tA v) t1 (nI j)) (svOther (tB v) s (nI i))) (sS (tA v))) s) + (maxI (fun t1 => bIn C (svOther (tA v) t1 (nI j)) (svOther (tB v) s (nI i))) t1)) (by show _ = sumI _ s + gvI _ _ _; unfold gvI; rw [if_pos c_51, hk c_51]; rfl) (nI (s + 1)) (by rfl)
            · refine g_iload X 11 dX0_support_54 rfl ?_
              refine g_aload X 6 dX0_support_56 rfl ?_
              refine g_callVr (st2 := [.int (nI (sS (tA v))), .int (nI t1)]) (q0 := 0) X (c_X4_streets E a (tA v)) cs_X0_120 rfl [3] [0, 1, 2, 4] 5 rfl (by decide) rfl rfl rfl rfl rfl (Nat.le_of_ble_eq_true rfl) dX0_support_58 rfl ?_
              refine g_icmp_ge (tgt := 115) X dX0_support_61 (by decide) (fun c_61 => ?_) (fun c_61 => ?_)
              · have f_c_61 : sS (tA v) ≤ t1 := n_le (by omega) (by omega) c_61
                have fn_c_61 := Nat.not_lt.mpr f_c_61
                refine g_iload X 7 dX0_support_115 rfl ?_
                refine g_iload X 10 dX0_support_117 rfl ?_
                refine g_iadd X dX0_support_119 ?_
                refine g_istore (lv' := [(7, .int ((sumI (fun s => gvI (svOther (tB v) s (nI i)) (fun t1 => bIn C (svOther (tA v) t1 (nI j)) (svOther (tB v) s (nI i))) (sS (tA v))) s) + (maxI (fun t1 => bIn C (svOther (tA v) t1 (nI j)) (svOther (tB v) s (nI i))) t1))), (0, .ref (m 0)), (1, .ref t), (2, .int (nI 1)), (3, .int (nI i)), (4, .int (nI j)), (5, .ref (b 0)), (6, .ref (a 0)), (8, .int (nI s)), (9, .int (svOther (tB v) s (nI i))), (10, .int (maxI (fun t1 => bIn C (svOther (tA v) t1 (nI j)) (svOther (tB v) s (nI i))) t1)), (11, .int (nI t1))]) X dX0_support_120 (by decide) rfl ?_
                refine g_iincN (lv' := [(8, .int (nI (s + 1))), (7, .int ((sumI (fun s => gvI (svOther (tB v) s (nI i)) (fun t1 => bIn C (svOther (tA v) t1 (nI j)) (svOther (tB v) s (nI i))) (sS (tA v))) s) + (maxI (fun t1 => bIn C (svOther (tA v) t1 (nI j)) (svOther (tB v) s (nI i))) t1))), (0, .ref (m 0)), (1, .ref t), (2, .int (nI 1)), (3, .int (nI i)), (4, .int (nI j)), (5, .ref (b 0)), (6, .ref (a 0)), (9, .int (svOther (tB v) s (nI i))), (10, .int (maxI (fun t1 => bIn C (svOther (tA v) t1 (nI j)) (svOther (tB v) s (nI i))) t1)), (11, .int (nI t1))]) X 8 dX0_support_122 rfl (by decide) rfl ?_
                refine g_goto (tgt := 22) X dX0_support_125 (by decide) ?_
                refine GG.lv [2, 3, 4, 5, 6, 7, 8, 1, 0] rfl ?_
                exact ih_22 (s + 1) (by omega) (by omega) ((sumI (fun s => gvI (svOther (tB v) s (nI i)) (fun t1 => bIn C (svOther (tA v) t1 (nI j)) (svOther (tB v) s (nI i))) (sS (tA v))) s) + (maxI (fun t1 => bIn C (svOther (tA v) t1 (nI j)) (svOther (tB v) s (nI i))) t1)) (by show _ = sumI _ s + gvI _ _ _; unfold gvI; rw [if_neg c_51, show sS (tA v) = t1 by omega]) (nI (s + 1)) (by rfl)
              · have f_c_61 : t1 < sS (tA v) := n_nle (by omega) (by omega) c_61
                have fn_c_61 := Nat.not_le.mpr f_c_61
                refine g_aload X 6 dX0_support_64 rfl ?_
                refine g_iload X 11 dX0_support_66 rfl ?_
                refine g_iload X 4 dX0_support_68 rfl ?_
                refine g_callVr (st2 := [.int (svOther (tA v) t1 (nI j))]) (q0 := 0) X (c_X4_otherEnd E a (tA v) t1 (nI j) (by first | assumption | omega) (by first | assumption | omega)) cs_X0_123 rfl [3] [0, 1, 2, 4] 5 rfl (by decide) rfl rfl rfl rfl rfl (Nat.le_of_ble_eq_true rfl) dX0_support_70 rfl ?_
                refine g_istore (lv' := [(12, .int (svOther (tA v) t1 (nI j))), (0, .ref (m 0)), (1, .ref t), (2, .int (nI 1)), (3, .int (nI i)), (4, .int (nI j)), (5, .ref (b 0)), (6, .ref (a 0)), (7, .int (sumI (fun s => gvI (svOther (tB v) s (nI i)) (fun t1 => bIn C (svOther (tA v) t1 (nI j)) (svOther (tB v) s (nI i))) (sS (tA v))) s)), (8, .int (nI s)), (9, .int (svOther (tB v) s (nI i))), (10, .int (maxI (fun t1 => bIn C (svOther (tA v) t1 (nI j)) (svOther (tB v) s (nI i))) t1)), (11, .int (nI t1))]) X dX0_support_73 (by decide) rfl ?_
                refine g_iload_n X 3 dX0_support_75 rfl ?_
                refine g_if_ne (tgt := 90) X dX0_support_76 (by decide) (fun c_76 => ?_) (fun c_76 => absurd c_76 (by decide))
                refine g_aload_n X 1 dX0_support_90 rfl ?_
                refine g_iload X 0 dX0_support_91 rfl ?_
                refine g_iload X 10 dX0_support_93 rfl ?_
                refine g_callVr (st2 := [.int (bIn C (svOther (tA v) t1 (nI j)) (svOther (tB v) s (nI i)))]) (q0 := 0) X (c_X0_beliefBefore E m rb rc P C (svOther (tA v) t1 (nI j)) (svOther (tB v) s (nI i))) cs_X0_126 rfl [0, 1] [2, 3, 4] 5 rfl (by decide) rfl rfl rfl rfl rfl (Nat.le_of_ble_eq_true rfl) dX0_support_95 rfl ?_
                refine g_istore (lv' := [(13, .int (bIn C (svOther (tA v) t1 (nI j)) (svOther (tB v) s (nI i)))), (12, .int (svOther (tA v) t1 (nI j))), (0, .ref (m 0)), (1, .ref t), (2, .int (nI 1)), (3, .int (nI i)), (4, .int (nI j)), (5, .ref (b 0)), (6, .ref (a 0)), (7, .int (sumI (fun s => gvI (svOther (tB v) s (nI i)) (fun t1 => bIn C (svOther (tA v) t1 (nI j)) (svOther (tB v) s (nI i))) (sS (tA v))) s)), (8, .int (nI s)), (9, .int (svOther (tB v) s (nI i))), (10, .int (maxI (fun t1 => bIn C (svOther (tA v) t1 (nI j)) (svOther (tB v) s (nI i))) t1)), (11, .int (nI t1))]) X dX0_support_98 (by decide) rfl ?_
                refine g_iload X 12 dX0_support_100 rfl ?_
                refine g_iload X 0 dX0_support_102 rfl ?_
                refine g_max X cs_X0_107 ⟨by decide, Nat.le_of_ble_eq_true rfl, Nat.zero_le _, Nat.zero_le _⟩ dX0_support_104 ?_
                refine g_istore (lv' := [(10, .int (if (maxI (fun t1 => bIn C (svOther (tA v) t1 (nI j)) (svOther (tB v) s (nI i))) t1) < (bIn C (svOther (tA v) t1 (nI j)) (svOther (tB v) s (nI i))) then (bIn C (svOther (tA v) t1 (nI j)) (svOther (tB v) s (nI i))) else (maxI (fun t1 => bIn C (svOther (tA v) t1 (nI j)) (svOther (tB v) s (nI i))) t1))), (13, .int (bIn C (svOther (tA v) t1 (nI j)) (svOther (tB v) s (nI i)))), (12, .int (svOther (tA v) t1 (nI j))), (0, .ref (m 0)), (1, .ref t), (2, .int (nI 1)), (3, .int (nI i)), (4, .int (nI j)), (5, .ref (b 0)), (6, .ref (a 0)), (7, .int (sumI (fun s => gvI (svOther (tB v) s (nI i)) (fun t1 => bIn C (svOther (tA v) t1 (nI j)) (svOther (tB v) s (nI i))) (sS (tA v))) s)), (8, .int (nI s)), (9, .int (svOther (tB v) s (nI i))), (11, .int (nI t1))]) X dX0_support_107 (by decide) rfl ?_
                refine g_iincN (lv' := [(11, .int (nI (t1 + 1))), (10, .int (if (maxI (fun t1 => bIn C (svOther (tA v) t1 (nI j)) (svOther (tB v) s (nI i))) t1) < (bIn C (svOther (tA v) t1 (nI j)) (svOther (tB v) s (nI i))) then (bIn C (svOther (tA v) t1 (nI j)) (svOther (tB v) s (nI i))) else (maxI (fun t1 => bIn C (svOther (tA v) t1 (nI j)) (svOther (tB v) s (nI i))) t1))), (13, .int (bIn C (svOther (tA v) t1 (nI j)) (svOther (tB v) s (nI i)))), (12, .int (svOther (tA v) t1 (nI j))), (0, .ref (m 0)), (1, .ref t), (2, .int (nI 1)), (3, .int (nI i)), (4, .int (nI j)), (5, .ref (b 0)), (6, .ref (a 0)), (7, .int (sumI (fun s => gvI (svOther (tB v) s (nI i)) (fun t1 => bIn C (svOther (tA v) t1 (nI j)) (svOther (tB v) s (nI i))) (sS (tA v))) s)), (8, .int (nI s)), (9, .int (svOther (tB v) s (nI i)))]) X 13 dX0_support_109 rfl (by decide) rfl ?_
                refine g_goto (tgt := 48) X dX0_support_112 (by decide) ?_
                refine GG.lv [4, 5, 6, 7, 8, 9, 10, 11, 12, 13, 1, 0] rfl ?_
                exact ih_48 (t1 + 1) (by omega) (fun e => absurd e c_51) (by omega) (if (maxI (fun t1 => bIn C (svOther (tA v) t1 (nI j)) (svOther (tB v) s (nI i))) t1) < (bIn C (svOther (tA v) t1 (nI j)) (svOther (tB v) s (nI i))) then (bIn C (svOther (tA v) t1 (nI j)) (svOther (tB v) s (nI i))) else (maxI (fun t1 => bIn C (svOther (tA v) t1 (nI j)) (svOther (tB v) s (nI i))) t1)) (by rfl) (nI (t1 + 1)) (by rfl)
        refine GG.lv [3, 4, 5, 6, 7, 8, 9, 10, 11, 2, 1, 0] rfl ?_
        exact L_48 (sS (tA v) + 1) 0 (by omega) (fun _ => rfl) (by omega) (nI 0) (by rfl) (nI 0) (by rfl)
  refine GG.lv [4, 5, 6, 7, 8, 3, 2, 1, 0] rfl ?_
  exact L_22 (sS (tB v) + 1) 0 (by omega) (by omega) (nI 0) (by rfl) (nI 0) (by rfl)
set_option maxHeartbeats 4000000 in
set_option maxRecDepth 100000 in
theorem c_X0_improve (E : GE) (m : Nat → Nat) (rb : Nat → Nat) (rc : Nat → Nat) (P : Nat) (B : Nat → Nat → Int32) (C : Nat → Nat → Int32) (t : Nat) (a : Nat → Nat) (b : Nat → Nat) (v : TV) (hv : okT v) : CT E m_X0_improve [.ref (m 0), .ref t] ([wMo E m rb rc P, wRw E rb B, wRw E rc C, wTw E t a b (tR v) (tN v), wSv E a (tA v), wSv E b (tB v)].flatten) none ([wMo E m rb rc P, wRw E rb ((impS v (B, C)).1), wRw E rc ((impS v (B, C)).2), wTw E t a b (tR v) (tN v), wSv E a (tA v), wSv E b (tB v)].flatten) := by
  refine CT.intro (by decide +kernel) (Nat.le_of_ble_eq_true rfl) (fun Γ X hx => ?_)
  refine GG.lv [0, 1] (lv' := [(0, .ref (m 0)), (1, .ref t)]) rfl ?_
  have hA : okS (tA v) := hv.1
  have hB : okS (tB v) := hv.2.1
  have hv1 : sM (tA v) ≤ 8 := hA.1
  have hv2 : sS (tA v) ≤ 8 := hA.2
  have hv3 : sM (tB v) ≤ 8 := hB.1
  have hv4 : sS (tB v) ≤ 8 := hB.2
  have hv5 : tN v ≤ 3 := hv.2.2
  refine g_iconst (v := (nI 0)) X dX0_improve_0 rfl ?_
  refine g_istore_n (lv' := [(2, .int (nI 0)), (0, .ref (m 0)), (1, .ref t)]) X dX0_improve_1 (by decide) rfl ?_
  have L_2 : ∀ (n_2 : Nat) (k : Nat) (hk : k ≤ 8) (hm_2 : 8 - k < n_2) (x_2 : Int32) (ex_2 : x_2 = (nI k)) (u_0 : Nat → Nat → Int32) (eu_0 : u_0 = cpyR B C k), GG E m_X0_improve Γ 0 0 ([wMo E m rb rc P, wRw E rb B, wRw E rc u_0, wTw E t a b (tR v) (tN v), wSv E a (tA v), wSv E b (tB v)].flatten) [(0, .ref (m 0)), (1, .ref t), (2, .int x_2)] 2 [] := by
    intro n_2
    induction n_2 with
    | zero => intro k hk hm_2; exact absurd hm_2 (Nat.not_lt_zero _)
    | succ n_2 ih_2 =>
      intro k hk hm_2 x_2 ex_2 u_0 eu_0
      subst ex_2
      subst eu_0
      refine g_iload_n X 2 dX0_improve_2 rfl ?_
      refine g_bipush (v := (nI 8)) X dX0_improve_3 rfl ?_
      refine g_icmp_ge (tgt := 33) X dX0_improve_5 (by decide) (fun c_5 => ?_) (fun c_5 => ?_)
      · have f_c_5 : 8 ≤ k := n_le (by omega) (by omega) c_5
        have fn_c_5 := Nat.not_lt.mpr f_c_5
        have ek : k = 8 := by omega
        subst ek
        refine g_iconst (v := (nI 0)) X dX0_improve_33 rfl ?_
        refine g_istore_n (lv' := [(2, .int (nI 0)), (0, .ref (m 0)), (1, .ref t)]) X dX0_improve_34 (by decide) rfl ?_
        have L_35 : ∀ (n_35 : Nat) (i : Nat) (hi : i ≤ 8) (hm_35 : 8 - i < n_35) (x_2 : Int32) (ex_2 : x_2 = (nI i)) (u_0 : Nat → Nat → Int32) (eu_0 : u_0 = fillB (impF v (cpyR B C 8) B) B i 0), GG E m_X0_improve Γ 0 0 ([wMo E m rb rc P, wRw E rb u_0, wRw E rc (cpyR B C 8), wTw E t a b (tR v) (tN v), wSv E a (tA v), wSv E b (tB v)].flatten) [(0, .ref (m 0)), (1, .ref t), (2, .int x_2)] 35 [] := by
          intro n_35
          induction n_35 with
          | zero => intro i hi hm_35; exact absurd hm_35 (Nat.not_lt_zero _)
          | succ n_35 ih_35 =>
            intro i hi hm_35 x_2 ex_2 u_0 eu_0
            subst ex_2
            subst eu_0
            refine g_iload_n X 2 dX0_improve_35 rfl ?_
            refine g_bipush (v := (nI 8)) X dX0_improve_36 rfl ?_
            refine g_icmp_ge (tgt := 115) X dX0_improve_38 (by decide) (fun c_38 => ?_) (fun c_38 => ?_)
            · have f_c_38 : 8 ≤ i := n_le (by omega) (by omega) c_38
              have fn_c_38 := Nat.not_lt.mpr f_c_38
              exact g_vret X hx rfl rfl (by rw [show i = 8 by omega]; rfl) dX0_improve_115
            · have f_c_38 : i < 8 := n_nle (by omega) (by omega) c_38
              have fn_c_38 := Nat.not_le.mpr f_c_38
              refine g_iconst (v := (nI 0)) X dX0_improve_41 rfl ?_
              refine g_istore_n (lv' := [(3, .int (nI 0)), (0, .ref (m 0)), (1, .ref t), (2, .int (nI i))]) X dX0_improve_42 (by decide) rfl ?_
              have L_43 : ∀ (n_43 : Nat) (j : Nat) (hj : j ≤ 8) (hm_43 : 8 - j < n_43) (x_3 : Int32) (ex_3 : x_3 = (nI j)) (u_0 : Nat → Nat → Int32) (eu_0 : u_0 = fillB (impF v (cpyR B C 8) B) B i j), GG E m_X0_improve Γ 0 0 ([wMo E m rb rc P, wRw E rb u_0, wRw E rc (cpyR B C 8), wTw E t a b (tR v) (tN v), wSv E a (tA v), wSv E b (tB v)].flatten) [(0, .ref (m 0)), (1, .ref t), (2, .int (nI i)), (3, .int x_3)] 43 [] := by
                intro n_43
                induction n_43 with
                | zero => intro j hj hm_43; exact absurd hm_43 (Nat.not_lt_zero _)
                | succ n_43 ih_43 =>
                  intro j hj hm_43 x_3 ex_3 u_0 eu_0
                  subst ex_3
                  subst eu_0
                  refine g_iload_n X 3 dX0_improve_43 rfl ?_
                  refine g_bipush (v := (nI 8)) X dX0_improve_44 rfl ?_
                  refine g_icmp_ge (tgt := 109) X dX0_improve_46 (by decide) (fun c_46 => ?_) (fun c_46 => ?_)
                  · have f_c_46 : 8 ≤ j := n_le (by omega) (by omega) c_46
                    have fn_c_46 := Nat.not_lt.mpr f_c_46
                    refine g_iincN (lv' := [(2, .int (nI (i + 1))), (0, .ref (m 0)), (1, .ref t), (3, .int (nI j))]) X 2 dX0_improve_109 rfl (by decide) rfl ?_
                    refine g_goto (tgt := 35) X dX0_improve_112 (by decide) ?_
                    refine GG.lv [1, 2, 0] rfl ?_
                    exact ih_35 (i + 1) (by omega) (by omega) (nI (i + 1)) (by rfl) (fillB (impF v (cpyR B C 8) B) B i j) (by rw [show j = 8 by omega]; exact fillB_row _ _ _)
                  · have f_c_46 : j < 8 := n_nle (by omega) (by omega) c_46
                    have fn_c_46 := Nat.not_le.mpr f_c_46
                    refine g_aload_n X 0 dX0_improve_49 rfl ?_
                    refine g_getf (v := .ref (m 2)) X fs_X0_16 0 rfl rfl dX0_improve_50 ?_
                    refine g_iload_n X 2 dX0_improve_53 rfl ?_
                    refine g_raald (y := rc i) X 2 rfl i (ix_nI (by omega) (by decide)) rfl dX0_improve_54 ?_
                    refine g_iload_n X 3 dX0_improve_55 rfl ?_
                    refine g_rald X 2 rfl (show i < 8 by omega) j (ix_nI (by omega) (by decide)) dX0_improve_56 ?_
                    refine g_if_le (tgt := 103) X dX0_improve_57 (by decide) (fun c_57 => ?_) (fun c_57 => ?_)
                    · refine g_iincN (lv' := [(3, .int (nI (j + 1))), (0, .ref (m 0)), (1, .ref t), (2, .int (nI i))]) X 3 dX0_improve_103 rfl (by decide) rfl ?_
                      refine g_goto (tgt := 43) X dX0_improve_106 (by decide) ?_
                      refine GG.lv [1, 2, 3, 0] rfl ?_
                      exact ih_43 (j + 1) (by omega) (by omega) (nI (j + 1)) (by rfl) (fillB (impF v (cpyR B C 8) B) B i j) (by exact fillB_k _ _ (by unfold impF; rw [if_pos c_57]))
                    · refine g_aload_n X 0 dX0_improve_60 rfl ?_
                      refine g_aload_n X 1 dX0_improve_61 rfl ?_
                      refine g_iconst (v := (nI 0)) X dX0_improve_62 rfl ?_
                      refine g_iload_n X 2 dX0_improve_63 rfl ?_
                      refine g_iload_n X 3 dX0_improve_64 rfl ?_
                      refine g_callVr (st2 := [.int (sup0 v (cpyR B C 8) i j)]) (q0 := 0) X (c_X0_support_0 E m rb rc P (cpyR B C 8) t a b v i j (by first | assumption | omega)) cs_X0_116 rfl [0, 2, 3, 4, 5] [1] 6 rfl (by decide) rfl rfl rfl rfl rfl (Nat.le_of_ble_eq_true rfl) dX0_improve_65 rfl ?_
                      refine g_aload_n X 0 dX0_improve_68 rfl ?_
                      refine g_aload_n X 1 dX0_improve_69 rfl ?_
                      refine g_iconst (v := (nI 1)) X dX0_improve_70 rfl ?_
                      refine g_iload_n X 3 dX0_improve_71 rfl ?_
                      refine g_iload_n X 2 dX0_improve_72 rfl ?_
                      refine g_callVr (st2 := [.int (sup1 v (cpyR B C 8) j i), .int (sup0 v (cpyR B C 8) i j)]) (q0 := 0) X (c_X0_support_1 E m rb rc P (cpyR B C 8) t a b v j i (by first | assumption | omega)) cs_X0_116 rfl [0, 2, 3, 4, 5] [1] 6 rfl (by decide) rfl rfl rfl rfl rfl (Nat.le_of_ble_eq_true rfl) dX0_improve_73 rfl ?_
                      refine g_iadd X dX0_improve_76 ?_
                      refine g_istore (lv' := [(4, .int ((sup0 v (cpyR B C 8) i j) + (sup1 v (cpyR B C 8) j i))), (0, .ref (m 0)), (1, .ref t), (2, .int (nI i)), (3, .int (nI j))]) X dX0_improve_77 (by decide) rfl ?_
                      refine g_aload_n X 1 dX0_improve_79 rfl ?_
                      refine g_getf (v := .ref (m 1)) X fs_X0_11 0 rfl rfl dX0_improve_80 ?_
                      refine g_iload_n X 3 dX0_improve_83 rfl ?_
                      refine g_raald (y := rb i) X 1 rfl i (ix_nI (by omega) (by decide)) rfl dX0_improve_84 ?_
                      refine g_iload_n X 4 dX0_improve_85 rfl ?_
                      refine g_aload_n X 1 dX0_improve_86 rfl ?_
                      refine g_getf (v := .ref (m 2)) X fs_X0_16 0 rfl rfl dX0_improve_87 ?_
                      refine g_iload_n X 3 dX0_improve_90 rfl ?_
                      refine g_raald (y := rc i) X 2 rfl i (ix_nI (by omega) (by decide)) rfl dX0_improve_91 ?_
                      refine g_iload_n X 4 dX0_improve_92 rfl ?_
                      refine g_rald X 2 rfl (show i < 8 by omega) j (ix_nI (by omega) (by decide)) dX0_improve_93 ?_
                      refine g_iconst (v := (nI 2)) X dX0_improve_94 rfl ?_
                      refine g_idiv X dX0_improve_95 (by decide) ?_
                      refine g_iload X 0 dX0_improve_96 rfl ?_
                      refine g_bipush (v := (nI 8)) X dX0_improve_98 rfl ?_
                      refine g_idiv X dX0_improve_100 (by decide) ?_
                      refine g_iadd X dX0_improve_101 ?_
                      refine g_rast (S' := [wMo E m rb rc P, wRw E rb (upR (fillB (impF v (cpyR B C 8) B) B i j) i (upd ((fillB (impF v (cpyR B C 8) B) B i j) i) j ((((cpyR B C 8) i j) / (nI 2)) + (((sup0 v (cpyR B C 8) i j) + (sup1 v (cpyR B C 8) j i)) / (nI 8))))), wRw E rc (cpyR B C 8), wTw E t a b (tR v) (tN v), wSv E a (tA v), wSv E b (tB v)]) X 1 rfl (show i < 8 by omega) j (ix_nI (by omega) (by decide)) rfl dX0_improve_102 ?_
                      refine g_iincN (lv' := [(3, .int (nI (j + 1))), (4, .int ((sup0 v (cpyR B C 8) i j) + (sup1 v (cpyR B C 8) j i))), (0, .ref (m 0)), (1, .ref t), (2, .int (nI i))]) X 4 dX0_improve_103 rfl (by decide) rfl ?_
                      refine g_goto (tgt := 43) X dX0_improve_106 (by decide) ?_
                      refine GG.lv [2, 3, 4, 0] rfl ?_
                      exact ih_43 (j + 1) (by omega) (by omega) (nI (j + 1)) (by rfl) (upR (fillB (impF v (cpyR B C 8) B) B i j) i (upd ((fillB (impF v (cpyR B C 8) B) B i j) i) j ((((cpyR B C 8) i j) / (nI 2)) + (((sup0 v (cpyR B C 8) i j) + (sup1 v (cpyR B C 8) j i)) / (nI 8))))) (by exact fillB_s _ _ (by omega) (by unfold impF; rw [if_neg c_57]))
              refine GG.lv [1, 2, 3, 0] rfl ?_
              exact L_43 (9) 0 (by omega) (by omega) (nI 0) (by rfl) (fillB (impF v (cpyR B C 8) B) B i 0) (by rfl)
        refine GG.lv [1, 2, 0] rfl ?_
        exact L_35 (9) 0 (by omega) (by omega) (nI 0) (by rfl) B (by exact (fillB_0 _ _).symm)
      · have f_c_5 : k < 8 := n_nle (by omega) (by omega) c_5
        have fn_c_5 := Nat.not_le.mpr f_c_5
        refine g_aload_n X 0 dX0_improve_8 rfl ?_
        refine g_getf (v := .ref (m 1)) X fs_X0_11 0 rfl rfl dX0_improve_9 ?_
        refine g_iload_n X 2 dX0_improve_12 rfl ?_
        refine g_raald (y := rb k) X 1 rfl k (ix_nI (by omega) (by decide)) rfl dX0_improve_13 ?_
        refine g_iconst (v := (nI 0)) X dX0_improve_14 rfl ?_
        refine g_aload_n X 0 dX0_improve_15 rfl ?_
        refine g_getf (v := .ref (m 2)) X fs_X0_16 0 rfl rfl dX0_improve_16 ?_
        refine g_iload_n X 2 dX0_improve_19 rfl ?_
        refine g_raald (y := rc k) X 2 rfl k (ix_nI (by omega) (by decide)) rfl dX0_improve_20 ?_
        refine g_iconst (v := (nI 0)) X dX0_improve_21 rfl ?_
        refine g_bipush (v := (nI 8)) X dX0_improve_22 rfl ?_
        refine g_rcopy (S' := [wMo E m rb rc P, wRw E rb B, wRw E rc (upR (cpyR B C k) k (va_cpy (B k) ((cpyR B C k) k) 0 0 8)), wTw E t a b (tR v) (tN v), wSv E a (tA v), wSv E b (tB v)]) X cs_X0_110 1 2 rfl rfl (show k < 8 by omega) (ix_nI (by decide) (by decide)) rfl ⟨by decide, by decide⟩ dX0_improve_24 ?_
        refine g_iincN (lv' := [(2, .int (nI (k + 1))), (0, .ref (m 0)), (1, .ref t)]) X 2 dX0_improve_27 rfl (by decide) rfl ?_
        refine g_goto (tgt := 2) X dX0_improve_30 (by decide) ?_
        refine GG.lv [1, 2, 0] rfl ?_
        exact ih_2 (k + 1) (by omega) (by omega) (nI (k + 1)) (by rfl) (upR (cpyR B C k) k (va_cpy (B k) ((cpyR B C k) k) 0 0 8)) (by exact cpyR_s _ _ _)
  refine GG.lv [1, 2, 0] rfl ?_
  exact L_2 (9) 0 (by omega) (by omega) (nI 0) (by rfl) C (by exact (cpyR_0 _ _).symm)
set_option maxHeartbeats 4000000 in
set_option maxRecDepth 100000 in
theorem c_X0_pairUpOne_0 (E : GE) (m : Nat → Nat) (rb : Nat → Nat) (rc : Nat → Nat) (P : Nat) (B : Nat → Nat → Int32) (o0 : Nat) (o1 : Nat) (f : Nat → Int32) (g : Nat → Int32) : CT E m_X0_pairUpOne [.ref (m 0), .int (nI 0), .ref o0, .ref o1] ([wMo E m rb rc P, wRw E rb B, wAr E o0 8 f, wAr E o1 8 g].flatten) (some (.int (b2i (decide (¬ (bScan false B f g 8).1 = 0))))) ([wMo E m rb rc P, wRw E rb B, wAr E o0 8 (puF false B f g), wAr E o1 8 (puG false B f g)].flatten) := by
  refine CT.intro (by decide +kernel) (Nat.le_of_ble_eq_true rfl) (fun Γ X hx => ?_)
  refine GG.lv [0, 1, 2, 3] (lv' := [(0, .ref (m 0)), (1, .int (nI 0)), (2, .ref o0), (3, .ref o1)]) rfl ?_
  refine g_iconst (v := (nI 0)) X dX0_pairUpOne_0 rfl ?_
  refine g_istore (lv' := [(4, .int (nI 0)), (0, .ref (m 0)), (1, .int (nI 0)), (2, .ref o0), (3, .ref o1)]) X dX0_pairUpOne_1 (by decide) rfl ?_
  refine g_iconst (v := (nI 0)) X dX0_pairUpOne_3 rfl ?_
  refine g_istore (lv' := [(5, .int (nI 0)), (4, .int (nI 0)), (0, .ref (m 0)), (1, .int (nI 0)), (2, .ref o0), (3, .ref o1)]) X dX0_pairUpOne_4 (by decide) rfl ?_
  refine g_iconst (v := (nI 0)) X dX0_pairUpOne_6 rfl ?_
  refine g_istore (lv' := [(6, .int (nI 0)), (5, .int (nI 0)), (4, .int (nI 0)), (0, .ref (m 0)), (1, .int (nI 0)), (2, .ref o0), (3, .ref o1)]) X dX0_pairUpOne_7 (by decide) rfl ?_
  refine g_iconst (v := (nI 0)) X dX0_pairUpOne_9 rfl ?_
  refine g_istore (lv' := [(7, .int (nI 0)), (6, .int (nI 0)), (5, .int (nI 0)), (4, .int (nI 0)), (0, .ref (m 0)), (1, .int (nI 0)), (2, .ref o0), (3, .ref o1)]) X dX0_pairUpOne_10 (by decide) rfl ?_
  have L_12 : ∀ (n_12 : Nat) (a : Nat) (ha : a ≤ 8) (hm_12 : 8 - a < n_12) (x_4 : Int32) (ex_4 : x_4 = ((bScan false B f g a).1)) (x_5 : Int32) (ex_5 : x_5 = (nI ((bScan false B f g a).2.1))) (x_6 : Int32) (ex_6 : x_6 = (nI ((bScan false B f g a).2.2))) (x_7 : Int32) (ex_7 : x_7 = (nI a)), GG E m_X0_pairUpOne Γ 0 0 ([wMo E m rb rc P, wRw E rb B, wAr E o0 8 f, wAr E o1 8 g].flatten) [(0, .ref (m 0)), (1, .int (nI 0)), (2, .ref o0), (3, .ref o1), (4, .int x_4), (5, .int x_5), (6, .int x_6), (7, .int x_7)] 12 [] := by
    intro n_12
    induction n_12 with
    | zero => intro a ha hm_12; exact absurd hm_12 (Nat.not_lt_zero _)
    | succ n_12 ih_12 =>
      intro a ha hm_12 x_4 ex_4 x_5 ex_5 x_6 ex_6 x_7 ex_7
      subst ex_4
      subst ex_5
      subst ex_6
      subst ex_7
      refine g_iload X 7 dX0_pairUpOne_12 rfl ?_
      refine g_bipush (v := (nI 8)) X dX0_pairUpOne_14 rfl ?_
      refine g_icmp_ge (tgt := 118) X dX0_pairUpOne_16 (by decide) (fun c_16 => ?_) (fun c_16 => ?_)
      · have f_c_16 : 8 ≤ a := n_le (by omega) (by omega) c_16
        have fn_c_16 := Nat.not_lt.mpr f_c_16
        have ea : a = 8 := by omega
        subst ea
        obtain ⟨hl1, hl2⟩ := bScan_lt false B f g (n := 8) (Nat.le_refl 8)
        refine g_iload X 4 dX0_pairUpOne_118 rfl ?_
        refine g_if_ne (tgt := 125) X dX0_pairUpOne_120 (by decide) (fun c_120 => ?_) (fun c_120 => ?_)
        · refine g_aload_n X 2 dX0_pairUpOne_125 rfl ?_
          refine g_iload X 5 dX0_pairUpOne_126 rfl ?_
          refine g_iload X 6 dX0_pairUpOne_128 rfl ?_
          refine g_iast (ws' := [wMo E m rb rc P, wRw E rb B, wAr E o0 8 (upd f ((bScan false B f g 8).2.1) (nI ((bScan false B f g 8).2.2))), wAr E o1 8 g].flatten) X 11 rfl ((bScan false B f g 8).2.1) (ix_nI (by omega) (by decide)) rfl dX0_pairUpOne_130 ?_
          refine g_aload_n X 3 dX0_pairUpOne_131 rfl ?_
          refine g_iload X 6 dX0_pairUpOne_132 rfl ?_
          refine g_iload X 5 dX0_pairUpOne_134 rfl ?_
          refine g_iast (ws' := [wMo E m rb rc P, wRw E rb B, wAr E o0 8 (upd f ((bScan false B f g 8).2.1) (nI ((bScan false B f g 8).2.2))), wAr E o1 8 (upd g ((bScan false B f g 8).2.2) (nI ((bScan false B f g 8).2.1)))].flatten) X 12 rfl ((bScan false B f g 8).2.2) (ix_nI (by omega) (by decide)) rfl dX0_pairUpOne_136 ?_
          refine g_iconst (v := (nI 1)) X dX0_pairUpOne_137 rfl ?_
          exact g_zretv (r := (nI 1)) X hx rfl (by simp [b2i, c_16, f_c_16, fn_c_16, c_120]; try rfl) (by simp [puF, puG, c_16, f_c_16, fn_c_16, c_120]) dX0_pairUpOne_138
        · refine g_iconst (v := (nI 0)) X dX0_pairUpOne_123 rfl ?_
          exact g_zretv (r := (nI 0)) X hx rfl (by simp [b2i, c_16, f_c_16, fn_c_16, c_120]; try rfl) (by simp [puF, puG, c_16, f_c_16, fn_c_16, c_120]) dX0_pairUpOne_124
      · have f_c_16 : a < 8 := n_nle (by omega) (by omega) c_16
        have fn_c_16 := Nat.not_le.mpr f_c_16
        refine g_iconst (v := (nI 0)) X dX0_pairUpOne_19 rfl ?_
        refine g_istore (lv' := [(8, .int (nI 0)), (0, .ref (m 0)), (1, .int (nI 0)), (2, .ref o0), (3, .ref o1), (4, .int ((bScan false B f g a).1)), (5, .int (nI ((bScan false B f g a).2.1))), (6, .int (nI ((bScan false B f g a).2.2))), (7, .int (nI a))]) X dX0_pairUpOne_20 (by decide) rfl ?_
        have L_22 : ∀ (n_22 : Nat) (b : Nat) (hb : b ≤ 8) (hm_22 : 8 - b < n_22) (x_4 : Int32) (ex_4 : x_4 = ((itR (bst false B f g a) b (bScan false B f g a)).1)) (x_5 : Int32) (ex_5 : x_5 = (nI ((itR (bst false B f g a) b (bScan false B f g a)).2.1))) (x_6 : Int32) (ex_6 : x_6 = (nI ((itR (bst false B f g a) b (bScan false B f g a)).2.2))) (x_8 : Int32) (ex_8 : x_8 = (nI b)), GG E m_X0_pairUpOne Γ 0 0 ([wMo E m rb rc P, wRw E rb B, wAr E o0 8 f, wAr E o1 8 g].flatten) [(0, .ref (m 0)), (1, .int (nI 0)), (2, .ref o0), (3, .ref o1), (4, .int x_4), (5, .int x_5), (6, .int x_6), (7, .int (nI a)), (8, .int x_8)] 22 [] := by
          intro n_22
          induction n_22 with
          | zero => intro b hb hm_22; exact absurd hm_22 (Nat.not_lt_zero _)
          | succ n_22 ih_22 =>
            intro b hb hm_22 x_4 ex_4 x_5 ex_5 x_6 ex_6 x_8 ex_8
            subst ex_4
            subst ex_5
            subst ex_6
            subst ex_8
            refine g_iload X 8 dX0_pairUpOne_22 rfl ?_
            refine g_bipush (v := (nI 8)) X dX0_pairUpOne_24 rfl ?_
            refine g_icmp_ge (tgt := 112) X dX0_pairUpOne_26 (by decide) (fun c_26 => ?_) (fun c_26 => ?_)
            · have f_c_26 : 8 ≤ b := n_le (by omega) (by omega) c_26
              have fn_c_26 := Nat.not_lt.mpr f_c_26
              refine g_iincN (lv' := [(7, .int (nI (a + 1))), (0, .ref (m 0)), (1, .int (nI 0)), (2, .ref o0), (3, .ref o1), (4, .int ((itR (bst false B f g a) b (bScan false B f g a)).1)), (5, .int (nI ((itR (bst false B f g a) b (bScan false B f g a)).2.1))), (6, .int (nI ((itR (bst false B f g a) b (bScan false B f g a)).2.2))), (8, .int (nI b))]) X 7 dX0_pairUpOne_112 rfl (by decide) rfl ?_
              refine g_goto (tgt := 12) X dX0_pairUpOne_115 (by decide) ?_
              refine GG.lv [1, 2, 3, 4, 5, 6, 7, 0] rfl ?_
              exact ih_12 (a + 1) (by omega) (by omega) ((itR (bst false B f g a) b (bScan false B f g a)).1) (by rw [show b = 8 by omega]; rfl) (nI ((itR (bst false B f g a) b (bScan false B f g a)).2.1)) (by rw [show b = 8 by omega]; rfl) (nI ((itR (bst false B f g a) b (bScan false B f g a)).2.2)) (by rw [show b = 8 by omega]; rfl) (nI (a + 1)) (by rfl)
            · have f_c_26 : b < 8 := n_nle (by omega) (by omega) c_26
              have fn_c_26 := Nat.not_le.mpr f_c_26
              refine g_iload_n X 1 dX0_pairUpOne_29 rfl ?_
              refine g_if_ne (tgt := 38) X dX0_pairUpOne_30 (by decide) (fun c_30 => absurd c_30 (by decide)) (fun c_30 => ?_)
              refine g_iload X 7 dX0_pairUpOne_33 rfl ?_
              refine g_goto (tgt := 40) X dX0_pairUpOne_35 (by decide) ?_
              refine g_istore (lv' := [(9, .int (nI a)), (0, .ref (m 0)), (1, .int (nI 0)), (2, .ref o0), (3, .ref o1), (4, .int ((itR (bst false B f g a) b (bScan false B f g a)).1)), (5, .int (nI ((itR (bst false B f g a) b (bScan false B f g a)).2.1))), (6, .int (nI ((itR (bst false B f g a) b (bScan false B f g a)).2.2))), (7, .int (nI a)), (8, .int (nI b))]) X dX0_pairUpOne_40 (by decide) rfl ?_
              refine g_iload_n X 2 dX0_pairUpOne_42 rfl ?_
              refine g_if_ne (tgt := 51) X dX0_pairUpOne_43 (by decide) (fun c_43 => absurd c_43 (by decide)) (fun c_43 => ?_)
              refine g_iload X 9 dX0_pairUpOne_46 rfl ?_
              refine g_goto (tgt := 53) X dX0_pairUpOne_48 (by decide) ?_
              refine g_istore (lv' := [(10, .int (nI b)), (9, .int (nI a)), (0, .ref (m 0)), (1, .int (nI 0)), (2, .ref o0), (3, .ref o1), (4, .int ((itR (bst false B f g a) b (bScan false B f g a)).1)), (5, .int (nI ((itR (bst false B f g a) b (bScan false B f g a)).2.1))), (6, .int (nI ((itR (bst false B f g a) b (bScan false B f g a)).2.2))), (7, .int (nI a)), (8, .int (nI b))]) X dX0_pairUpOne_53 (by decide) rfl ?_
              refine g_aload_n X 4 dX0_pairUpOne_55 rfl ?_
              refine g_iload X 1 dX0_pairUpOne_56 rfl ?_
              refine g_iald X 11 rfl a (ix_nI (by omega) (by decide)) dX0_pairUpOne_58 ?_
              refine g_iconst (v := (-1)) X dX0_pairUpOne_59 rfl ?_
              refine g_icmp_ne (tgt := 106) X dX0_pairUpOne_60 (by decide) (fun c_60 => ?_) (fun c_60 => ?_)
              · refine g_iincN (lv' := [(8, .int (nI (b + 1))), (10, .int (nI b)), (9, .int (nI a)), (0, .ref (m 0)), (1, .int (nI 0)), (2, .ref o0), (3, .ref o1), (4, .int ((itR (bst false B f g a) b (bScan false B f g a)).1)), (5, .int (nI ((itR (bst false B f g a) b (bScan false B f g a)).2.1))), (6, .int (nI ((itR (bst false B f g a) b (bScan false B f g a)).2.2))), (7, .int (nI a))]) X 10 dX0_pairUpOne_106 rfl (by decide) rfl ?_
                refine g_goto (tgt := 22) X dX0_pairUpOne_109 (by decide) ?_
                refine GG.lv [3, 4, 5, 6, 7, 8, 9, 10, 0] rfl ?_
                exact ih_22 (b + 1) (by omega) (by omega) ((itR (bst false B f g a) b (bScan false B f g a)).1) (by simp [itR, bst, c_16, f_c_16, fn_c_16, c_26, f_c_26, fn_c_26, c_60]) (nI ((itR (bst false B f g a) b (bScan false B f g a)).2.1)) (by simp [itR, bst, c_16, f_c_16, fn_c_16, c_26, f_c_26, fn_c_26, c_60]) (nI ((itR (bst false B f g a) b (bScan false B f g a)).2.2)) (by simp [itR, bst, c_16, f_c_16, fn_c_16, c_26, f_c_26, fn_c_26, c_60]) (nI (b + 1)) (by rfl)
              · refine g_aload_n X 5 dX0_pairUpOne_63 rfl ?_
                refine g_iload X 0 dX0_pairUpOne_64 rfl ?_
                refine g_iald X 12 rfl b (ix_nI (by omega) (by decide)) dX0_pairUpOne_66 ?_
                refine g_iconst (v := (-1)) X dX0_pairUpOne_67 rfl ?_
                refine g_icmp_ne (tgt := 106) X dX0_pairUpOne_68 (by decide) (fun c_68 => ?_) (fun c_68 => ?_)
                · refine g_iincN (lv' := [(8, .int (nI (b + 1))), (10, .int (nI b)), (9, .int (nI a)), (0, .ref (m 0)), (1, .int (nI 0)), (2, .ref o0), (3, .ref o1), (4, .int ((itR (bst false B f g a) b (bScan false B f g a)).1)), (5, .int (nI ((itR (bst false B f g a) b (bScan false B f g a)).2.1))), (6, .int (nI ((itR (bst false B f g a) b (bScan false B f g a)).2.2))), (7, .int (nI a))]) X 10 dX0_pairUpOne_106 rfl (by decide) rfl ?_
                  refine g_goto (tgt := 22) X dX0_pairUpOne_109 (by decide) ?_
                  refine GG.lv [3, 4, 5, 6, 7, 8, 9, 10, 0] rfl ?_
                  exact ih_22 (b + 1) (by omega) (by omega) ((itR (bst false B f g a) b (bScan false B f g a)).1) (by simp [itR, bst, c_16, f_c_16, fn_c_16, c_26, f_c_26, fn_c_26, c_60, c_68]) (nI ((itR (bst false B f g a) b (bScan false B f g a)).2.1)) (by simp [itR, bst, c_16, f_c_16, fn_c_16, c_26, f_c_26, fn_c_26, c_60, c_68]) (nI ((itR (bst false B f g a) b (bScan false B f g a)).2.2)) (by simp [itR, bst, c_16, f_c_16, fn_c_16, c_26, f_c_26, fn_c_26, c_60, c_68]) (nI (b + 1)) (by rfl)
                · refine g_aload_n X 2 dX0_pairUpOne_71 rfl ?_
                  refine g_getf (v := .ref (m 1)) X fs_X0_11 0 rfl rfl dX0_pairUpOne_72 ?_
                  refine g_iload X 1 dX0_pairUpOne_75 rfl ?_
                  refine g_raald (y := rb a) X 1 rfl a (ix_nI (by omega) (by decide)) rfl dX0_pairUpOne_77 ?_
                  refine g_iload X 0 dX0_pairUpOne_78 rfl ?_
                  refine g_rald X 1 rfl (show a < 8 by omega) b (ix_nI (by omega) (by decide)) dX0_pairUpOne_80 ?_
                  refine g_iload X 6 dX0_pairUpOne_81 rfl ?_
                  refine g_icmp_le (tgt := 106) X dX0_pairUpOne_83 (by decide) (fun c_83 => ?_) (fun c_83 => ?_)
                  · refine g_iincN (lv' := [(8, .int (nI (b + 1))), (10, .int (nI b)), (9, .int (nI a)), (0, .ref (m 0)), (1, .int (nI 0)), (2, .ref o0), (3, .ref o1), (4, .int ((itR (bst false B f g a) b (bScan false B f g a)).1)), (5, .int (nI ((itR (bst false B f g a) b (bScan false B f g a)).2.1))), (6, .int (nI ((itR (bst false B f g a) b (bScan false B f g a)).2.2))), (7, .int (nI a))]) X 10 dX0_pairUpOne_106 rfl (by decide) rfl ?_
                    refine g_goto (tgt := 22) X dX0_pairUpOne_109 (by decide) ?_
                    refine GG.lv [3, 4, 5, 6, 7, 8, 9, 10, 0] rfl ?_
                    exact ih_22 (b + 1) (by omega) (by omega) ((itR (bst false B f g a) b (bScan false B f g a)).1) (by simp [itR, bst, c_16, f_c_16, fn_c_16, c_26, f_c_26, fn_c_26, c_60, c_68, c_83]) (nI ((itR (bst false B f g a) b (bScan false B f g a)).2.1)) (by simp [itR, bst, c_16, f_c_16, fn_c_16, c_26, f_c_26, fn_c_26, c_60, c_68, c_83]) (nI ((itR (bst false B f g a) b (bScan false B f g a)).2.2)) (by simp [itR, bst, c_16, f_c_16, fn_c_16, c_26, f_c_26, fn_c_26, c_60, c_68, c_83]) (nI (b + 1)) (by rfl)
                  · refine g_aload_n X 2 dX0_pairUpOne_86 rfl ?_
                    refine g_getf (v := .ref (m 1)) X fs_X0_11 0 rfl rfl dX0_pairUpOne_87 ?_
                    refine g_iload X 1 dX0_pairUpOne_90 rfl ?_
                    refine g_raald (y := rb a) X 1 rfl a (ix_nI (by omega) (by decide)) rfl dX0_pairUpOne_92 ?_
                    refine g_iload X 0 dX0_pairUpOne_93 rfl ?_
                    refine g_rald X 1 rfl (show a < 8 by omega) b (ix_nI (by omega) (by decide)) dX0_pairUpOne_95 ?_
                    refine g_istore (lv' := [(4, .int (B a b)), (10, .int (nI b)), (9, .int (nI a)), (0, .ref (m 0)), (1, .int (nI 0)), (2, .ref o0), (3, .ref o1), (5, .int (nI ((itR (bst false B f g a) b (bScan false B f g a)).2.1))), (6, .int (nI ((itR (bst false B f g a) b (bScan false B f g a)).2.2))), (7, .int (nI a)), (8, .int (nI b))]) X dX0_pairUpOne_96 (by decide) rfl ?_
                    refine g_iload X 2 dX0_pairUpOne_98 rfl ?_
                    refine g_istore (lv' := [(5, .int (nI a)), (4, .int (B a b)), (10, .int (nI b)), (9, .int (nI a)), (0, .ref (m 0)), (1, .int (nI 0)), (2, .ref o0), (3, .ref o1), (6, .int (nI ((itR (bst false B f g a) b (bScan false B f g a)).2.2))), (7, .int (nI a)), (8, .int (nI b))]) X dX0_pairUpOne_100 (by decide) rfl ?_
                    refine g_iload X 2 dX0_pairUpOne_102 rfl ?_
                    refine g_istore (lv' := [(6, .int (nI b)), (5, .int (nI a)), (4, .int (B a b)), (10, .int (nI b)), (9, .int (nI a)), (0, .ref (m 0)), (1, .int (nI 0)), (2, .ref o0), (3, .ref o1), (7, .int (nI a)), (8, .int (nI b))]) X dX0_pairUpOne_104 (by decide) rfl ?_
                    refine g_iincN (lv' := [(8, .int (nI (b + 1))), (6, .int (nI b)), (5, .int (nI a)), (4, .int (B a b)), (10, .int (nI b)), (9, .int (nI a)), (0, .ref (m 0)), (1, .int (nI 0)), (2, .ref o0), (3, .ref o1), (7, .int (nI a))]) X 10 dX0_pairUpOne_106 rfl (by decide) rfl ?_
                    refine g_goto (tgt := 22) X dX0_pairUpOne_109 (by decide) ?_
                    refine GG.lv [6, 7, 8, 9, 3, 2, 1, 10, 0] rfl ?_
                    exact ih_22 (b + 1) (by omega) (by omega) (B a b) (by simp [itR, bst, c_16, f_c_16, fn_c_16, c_26, f_c_26, fn_c_26, c_60, c_68, c_83]) (nI a) (by simp [itR, bst, c_16, f_c_16, fn_c_16, c_26, f_c_26, fn_c_26, c_60, c_68, c_83]) (nI b) (by simp [itR, bst, c_16, f_c_16, fn_c_16, c_26, f_c_26, fn_c_26, c_60, c_68, c_83]) (nI (b + 1)) (by rfl)
        refine GG.lv [1, 2, 3, 4, 5, 6, 7, 8, 0] rfl ?_
        exact L_22 (9) 0 (by omega) (by omega) ((bScan false B f g a).1) (by rfl) (nI ((bScan false B f g a).2.1)) (by rfl) (nI ((bScan false B f g a).2.2)) (by rfl) (nI 0) (by rfl)
  refine GG.lv [4, 5, 6, 7, 3, 2, 1, 0] rfl ?_
  exact L_12 (9) 0 (by omega) (by omega) (nI 0) (by rfl) (nI 0) (by rfl) (nI 0) (by rfl) (nI 0) (by rfl)
set_option maxHeartbeats 4000000 in
set_option maxRecDepth 100000 in
theorem c_X0_pairUpOne_1 (E : GE) (m : Nat → Nat) (rb : Nat → Nat) (rc : Nat → Nat) (P : Nat) (B : Nat → Nat → Int32) (o0 : Nat) (o1 : Nat) (f : Nat → Int32) (g : Nat → Int32) : CT E m_X0_pairUpOne [.ref (m 0), .int (nI 1), .ref o0, .ref o1] ([wMo E m rb rc P, wRw E rb B, wAr E o0 8 f, wAr E o1 8 g].flatten) (some (.int (b2i (decide (¬ (bScan true B f g 8).1 = 0))))) ([wMo E m rb rc P, wRw E rb B, wAr E o0 8 (puF true B f g), wAr E o1 8 (puG true B f g)].flatten) := by
  refine CT.intro (by decide +kernel) (Nat.le_of_ble_eq_true rfl) (fun Γ X hx => ?_)
  refine GG.lv [0, 1, 2, 3] (lv' := [(0, .ref (m 0)), (1, .int (nI 1)), (2, .ref o0), (3, .ref o1)]) rfl ?_
  refine g_iconst (v := (nI 0)) X dX0_pairUpOne_0 rfl ?_
  refine g_istore (lv' := [(4, .int (nI 0)), (0, .ref (m 0)), (1, .int (nI 1)), (2, .ref o0), (3, .ref o1)]) X dX0_pairUpOne_1 (by decide) rfl ?_
  refine g_iconst (v := (nI 0)) X dX0_pairUpOne_3 rfl ?_
  refine g_istore (lv' := [(5, .int (nI 0)), (4, .int (nI 0)), (0, .ref (m 0)), (1, .int (nI 1)), (2, .ref o0), (3, .ref o1)]) X dX0_pairUpOne_4 (by decide) rfl ?_
  refine g_iconst (v := (nI 0)) X dX0_pairUpOne_6 rfl ?_
  refine g_istore (lv' := [(6, .int (nI 0)), (5, .int (nI 0)), (4, .int (nI 0)), (0, .ref (m 0)), (1, .int (nI 1)), (2, .ref o0), (3, .ref o1)]) X dX0_pairUpOne_7 (by decide) rfl ?_
  refine g_iconst (v := (nI 0)) X dX0_pairUpOne_9 rfl ?_
  refine g_istore (lv' := [(7, .int (nI 0)), (6, .int (nI 0)), (5, .int (nI 0)), (4, .int (nI 0)), (0, .ref (m 0)), (1, .int (nI 1)), (2, .ref o0), (3, .ref o1)]) X dX0_pairUpOne_10 (by decide) rfl ?_
  have L_12 : ∀ (n_12 : Nat) (a : Nat) (ha : a ≤ 8) (hm_12 : 8 - a < n_12) (x_4 : Int32) (ex_4 : x_4 = ((bScan true B f g a).1)) (x_5 : Int32) (ex_5 : x_5 = (nI ((bScan true B f g a).2.1))) (x_6 : Int32) (ex_6 : x_6 = (nI ((bScan true B f g a).2.2))) (x_7 : Int32) (ex_7 : x_7 = (nI a)), GG E m_X0_pairUpOne Γ 0 0 ([wMo E m rb rc P, wRw E rb B, wAr E o0 8 f, wAr E o1 8 g].flatten) [(0, .ref (m 0)), (1, .int (nI 1)), (2, .ref o0), (3, .ref o1), (4, .int x_4), (5, .int x_5), (6, .int x_6), (7, .int x_7)] 12 [] := by
    intro n_12
    induction n_12 with
    | zero => intro a ha hm_12; exact absurd hm_12 (Nat.not_lt_zero _)
    | succ n_12 ih_12 =>
      intro a ha hm_12 x_4 ex_4 x_5 ex_5 x_6 ex_6 x_7 ex_7
      subst ex_4
      subst ex_5
      subst ex_6
      subst ex_7
      refine g_iload X 7 dX0_pairUpOne_12 rfl ?_
      refine g_bipush (v := (nI 8)) X dX0_pairUpOne_14 rfl ?_
      refine g_icmp_ge (tgt := 118) X dX0_pairUpOne_16 (by decide) (fun c_16 => ?_) (fun c_16 => ?_)
      · have f_c_16 : 8 ≤ a := n_le (by omega) (by omega) c_16
        have fn_c_16 := Nat.not_lt.mpr f_c_16
        have ea : a = 8 := by omega
        subst ea
        obtain ⟨hl1, hl2⟩ := bScan_lt true B f g (n := 8) (Nat.le_refl 8)
        refine g_iload X 4 dX0_pairUpOne_118 rfl ?_
        refine g_if_ne (tgt := 125) X dX0_pairUpOne_120 (by decide) (fun c_120 => ?_) (fun c_120 => ?_)
        · refine g_aload_n X 2 dX0_pairUpOne_125 rfl ?_
          refine g_iload X 5 dX0_pairUpOne_126 rfl ?_
          refine g_iload X 6 dX0_pairUpOne_128 rfl ?_
          refine g_iast (ws' := [wMo E m rb rc P, wRw E rb B, wAr E o0 8 (upd f ((bScan true B f g 8).2.1) (nI ((bScan true B f g 8).2.2))), wAr E o1 8 g].flatten) X 11 rfl ((bScan true B f g 8).2.1) (ix_nI (by omega) (by decide)) rfl dX0_pairUpOne_130 ?_
          refine g_aload_n X 3 dX0_pairUpOne_131 rfl ?_
          refine g_iload X 6 dX0_pairUpOne_132 rfl ?_
          refine g_iload X 5 dX0_pairUpOne_134 rfl ?_
          refine g_iast (ws' := [wMo E m rb rc P, wRw E rb B, wAr E o0 8 (upd f ((bScan true B f g 8).2.1) (nI ((bScan true B f g 8).2.2))), wAr E o1 8 (upd g ((bScan true B f g 8).2.2) (nI ((bScan true B f g 8).2.1)))].flatten) X 12 rfl ((bScan true B f g 8).2.2) (ix_nI (by omega) (by decide)) rfl dX0_pairUpOne_136 ?_
          refine g_iconst (v := (nI 1)) X dX0_pairUpOne_137 rfl ?_
          exact g_zretv (r := (nI 1)) X hx rfl (by simp [b2i, c_16, f_c_16, fn_c_16, c_120]; try rfl) (by simp [puF, puG, c_16, f_c_16, fn_c_16, c_120]) dX0_pairUpOne_138
        · refine g_iconst (v := (nI 0)) X dX0_pairUpOne_123 rfl ?_
          exact g_zretv (r := (nI 0)) X hx rfl (by simp [b2i, c_16, f_c_16, fn_c_16, c_120]; try rfl) (by simp [puF, puG, c_16, f_c_16, fn_c_16, c_120]) dX0_pairUpOne_124
      · have f_c_16 : a < 8 := n_nle (by omega) (by omega) c_16
        have fn_c_16 := Nat.not_le.mpr f_c_16
        refine g_iconst (v := (nI 0)) X dX0_pairUpOne_19 rfl ?_
        refine g_istore (lv' := [(8, .int (nI 0)), (0, .ref (m 0)), (1, .int (nI 1)), (2, .ref o0), (3, .ref o1), (4, .int ((bScan true B f g a).1)), (5, .int (nI ((bScan true B f g a).2.1))), (6, .int (nI ((bScan true B f g a).2.2))), (7, .int (nI a))]) X dX0_pairUpOne_20 (by decide) rfl ?_
        have L_22 : ∀ (n_22 : Nat) (b : Nat) (hb : b ≤ 8) (hm_22 : 8 - b < n_22) (x_4 : Int32) (ex_4 : x_4 = ((itR (bst true B f g a) b (bScan true B f g a)).1)) (x_5 : Int32) (ex_5 : x_5 = (nI ((itR (bst true B f g a) b (bScan true B f g a)).2.1))) (x_6 : Int32) (ex_6 : x_6 = (nI ((itR (bst true B f g a) b (bScan true B f g a)).2.2))) (x_8 : Int32) (ex_8 : x_8 = (nI b)), GG E m_X0_pairUpOne Γ 0 0 ([wMo E m rb rc P, wRw E rb B, wAr E o0 8 f, wAr E o1 8 g].flatten) [(0, .ref (m 0)), (1, .int (nI 1)), (2, .ref o0), (3, .ref o1), (4, .int x_4), (5, .int x_5), (6, .int x_6), (7, .int (nI a)), (8, .int x_8)] 22 [] := by
          intro n_22
          induction n_22 with
          | zero => intro b hb hm_22; exact absurd hm_22 (Nat.not_lt_zero _)
          | succ n_22 ih_22 =>
            intro b hb hm_22 x_4 ex_4 x_5 ex_5 x_6 ex_6 x_8 ex_8
            subst ex_4
            subst ex_5
            subst ex_6
            subst ex_8
            refine g_iload X 8 dX0_pairUpOne_22 rfl ?_
            refine g_bipush (v := (nI 8)) X dX0_pairUpOne_24 rfl ?_
            refine g_icmp_ge (tgt := 112) X dX0_pairUpOne_26 (by decide) (fun c_26 => ?_) (fun c_26 => ?_)
            · have f_c_26 : 8 ≤ b := n_le (by omega) (by omega) c_26
              have fn_c_26 := Nat.not_lt.mpr f_c_26
              refine g_iincN (lv' := [(7, .int (nI (a + 1))), (0, .ref (m 0)), (1, .int (nI 1)), (2, .ref o0), (3, .ref o1), (4, .int ((itR (bst true B f g a) b (bScan true B f g a)).1)), (5, .int (nI ((itR (bst true B f g a) b (bScan true B f g a)).2.1))), (6, .int (nI ((itR (bst true B f g a) b (bScan true B f g a)).2.2))), (8, .int (nI b))]) X 7 dX0_pairUpOne_112 rfl (by decide) rfl ?_
              refine g_goto (tgt := 12) X dX0_pairUpOne_115 (by decide) ?_
              refine GG.lv [1, 2, 3, 4, 5, 6, 7, 0] rfl ?_
              exact ih_12 (a + 1) (by omega) (by omega) ((itR (bst true B f g a) b (bScan true B f g a)).1) (by rw [show b = 8 by omega]; rfl) (nI ((itR (bst true B f g a) b (bScan true B f g a)).2.1)) (by rw [show b = 8 by omega]; rfl) (nI ((itR (bst true B f g a) b (bScan true B f g a)).2.2)) (by rw [show b = 8 by omega]; rfl) (nI (a + 1)) (by rfl)
            · have f_c_26 : b < 8 := n_nle (by omega) (by omega) c_26
              have fn_c_26 := Nat.not_le.mpr f_c_26
              refine g_iload_n X 1 dX0_pairUpOne_29 rfl ?_
              refine g_if_ne (tgt := 38) X dX0_pairUpOne_30 (by decide) (fun c_30 => ?_) (fun c_30 => absurd c_30 (by decide))
              refine g_iload X 8 dX0_pairUpOne_38 rfl ?_
              refine g_istore (lv' := [(9, .int (nI b)), (0, .ref (m 0)), (1, .int (nI 1)), (2, .ref o0), (3, .ref o1), (4, .int ((itR (bst true B f g a) b (bScan true B f g a)).1)), (5, .int (nI ((itR (bst true B f g a) b (bScan true B f g a)).2.1))), (6, .int (nI ((itR (bst true B f g a) b (bScan true B f g a)).2.2))), (7, .int (nI a)), (8, .int (nI b))]) X dX0_pairUpOne_40 (by decide) rfl ?_
              refine g_iload_n X 2 dX0_pairUpOne_42 rfl ?_
              refine g_if_ne (tgt := 51) X dX0_pairUpOne_43 (by decide) (fun c_43 => ?_) (fun c_43 => absurd c_43 (by decide))
              refine g_iload X 8 dX0_pairUpOne_51 rfl ?_
              refine g_istore (lv' := [(10, .int (nI a)), (9, .int (nI b)), (0, .ref (m 0)), (1, .int (nI 1)), (2, .ref o0), (3, .ref o1), (4, .int ((itR (bst true B f g a) b (bScan true B f g a)).1)), (5, .int (nI ((itR (bst true B f g a) b (bScan true B f g a)).2.1))), (6, .int (nI ((itR (bst true B f g a) b (bScan true B f g a)).2.2))), (7, .int (nI a)), (8, .int (nI b))]) X dX0_pairUpOne_53 (by decide) rfl ?_
              refine g_aload_n X 4 dX0_pairUpOne_55 rfl ?_
              refine g_iload X 1 dX0_pairUpOne_56 rfl ?_
              refine g_iald X 11 rfl b (ix_nI (by omega) (by decide)) dX0_pairUpOne_58 ?_
              refine g_iconst (v := (-1)) X dX0_pairUpOne_59 rfl ?_
              refine g_icmp_ne (tgt := 106) X dX0_pairUpOne_60 (by decide) (fun c_60 => ?_) (fun c_60 => ?_)
              · refine g_iincN (lv' := [(8, .int (nI (b + 1))), (10, .int (nI a)), (9, .int (nI b)), (0, .ref (m 0)), (1, .int (nI 1)), (2, .ref o0), (3, .ref o1), (4, .int ((itR (bst true B f g a) b (bScan true B f g a)).1)), (5, .int (nI ((itR (bst true B f g a) b (bScan true B f g a)).2.1))), (6, .int (nI ((itR (bst true B f g a) b (bScan true B f g a)).2.2))), (7, .int (nI a))]) X 10 dX0_pairUpOne_106 rfl (by decide) rfl ?_
                refine g_goto (tgt := 22) X dX0_pairUpOne_109 (by decide) ?_
                refine GG.lv [3, 4, 5, 6, 7, 8, 9, 10, 0] rfl ?_
                exact ih_22 (b + 1) (by omega) (by omega) ((itR (bst true B f g a) b (bScan true B f g a)).1) (by simp [itR, bst, c_16, f_c_16, fn_c_16, c_26, f_c_26, fn_c_26, c_60]) (nI ((itR (bst true B f g a) b (bScan true B f g a)).2.1)) (by simp [itR, bst, c_16, f_c_16, fn_c_16, c_26, f_c_26, fn_c_26, c_60]) (nI ((itR (bst true B f g a) b (bScan true B f g a)).2.2)) (by simp [itR, bst, c_16, f_c_16, fn_c_16, c_26, f_c_26, fn_c_26, c_60]) (nI (b + 1)) (by rfl)
              · refine g_aload_n X 5 dX0_pairUpOne_63 rfl ?_
                refine g_iload X 0 dX0_pairUpOne_64 rfl ?_
                refine g_iald X 12 rfl a (ix_nI (by omega) (by decide)) dX0_pairUpOne_66 ?_
                refine g_iconst (v := (-1)) X dX0_pairUpOne_67 rfl ?_
                refine g_icmp_ne (tgt := 106) X dX0_pairUpOne_68 (by decide) (fun c_68 => ?_) (fun c_68 => ?_)
                · refine g_iincN (lv' := [(8, .int (nI (b + 1))), (10, .int (nI a)), (9, .int (nI b)), (0, .ref (m 0)), (1, .int (nI 1)), (2, .ref o0), (3, .ref o1), (4, .int ((itR (bst true B f g a) b (bScan true B f g a)).1)), (5, .int (nI ((itR (bst true B f g a) b (bScan true B f g a)).2.1))), (6, .int (nI ((itR (bst true B f g a) b (bScan true B f g a)).2.2))), (7, .int (nI a))]) X 10 dX0_pairUpOne_106 rfl (by decide) rfl ?_
                  refine g_goto (tgt := 22) X dX0_pairUpOne_109 (by decide) ?_
                  refine GG.lv [3, 4, 5, 6, 7, 8, 9, 10, 0] rfl ?_
                  exact ih_22 (b + 1) (by omega) (by omega) ((itR (bst true B f g a) b (bScan true B f g a)).1) (by simp [itR, bst, c_16, f_c_16, fn_c_16, c_26, f_c_26, fn_c_26, c_60, c_68]) (nI ((itR (bst true B f g a) b (bScan true B f g a)).2.1)) (by simp [itR, bst, c_16, f_c_16, fn_c_16, c_26, f_c_26, fn_c_26, c_60, c_68]) (nI ((itR (bst true B f g a) b (bScan true B f g a)).2.2)) (by simp [itR, bst, c_16, f_c_16, fn_c_16, c_26, f_c_26, fn_c_26, c_60, c_68]) (nI (b + 1)) (by rfl)
                · refine g_aload_n X 2 dX0_pairUpOne_71 rfl ?_
                  refine g_getf (v := .ref (m 1)) X fs_X0_11 0 rfl rfl dX0_pairUpOne_72 ?_
                  refine g_iload X 1 dX0_pairUpOne_75 rfl ?_
                  refine g_raald (y := rb b) X 1 rfl b (ix_nI (by omega) (by decide)) rfl dX0_pairUpOne_77 ?_
                  refine g_iload X 0 dX0_pairUpOne_78 rfl ?_
                  refine g_rald X 1 rfl (show b < 8 by omega) a (ix_nI (by omega) (by decide)) dX0_pairUpOne_80 ?_
                  refine g_iload X 6 dX0_pairUpOne_81 rfl ?_
                  refine g_icmp_le (tgt := 106) X dX0_pairUpOne_83 (by decide) (fun c_83 => ?_) (fun c_83 => ?_)
                  · refine g_iincN (lv' := [(8, .int (nI (b + 1))), (10, .int (nI a)), (9, .int (nI b)), (0, .ref (m 0)), (1, .int (nI 1)), (2, .ref o0), (3, .ref o1), (4, .int ((itR (bst true B f g a) b (bScan true B f g a)).1)), (5, .int (nI ((itR (bst true B f g a) b (bScan true B f g a)).2.1))), (6, .int (nI ((itR (bst true B f g a) b (bScan true B f g a)).2.2))), (7, .int (nI a))]) X 10 dX0_pairUpOne_106 rfl (by decide) rfl ?_
                    refine g_goto (tgt := 22) X dX0_pairUpOne_109 (by decide) ?_
                    refine GG.lv [3, 4, 5, 6, 7, 8, 9, 10, 0] rfl ?_
                    exact ih_22 (b + 1) (by omega) (by omega) ((itR (bst true B f g a) b (bScan true B f g a)).1) (by simp [itR, bst, c_16, f_c_16, fn_c_16, c_26, f_c_26, fn_c_26, c_60, c_68, c_83]) (nI ((itR (bst true B f g a) b (bScan true B f g a)).2.1)) (by simp [itR, bst, c_16, f_c_16, fn_c_16, c_26, f_c_26, fn_c_26, c_60, c_68, c_83]) (nI ((itR (bst true B f g a) b (bScan true B f g a)).2.2)) (by simp [itR, bst, c_16, f_c_16, fn_c_16, c_26, f_c_26, fn_c_26, c_60, c_68, c_83]) (nI (b + 1)) (by rfl)
                  · refine g_aload_n X 2 dX0_pairUpOne_86 rfl ?_
                    refine g_getf (v := .ref (m 1)) X fs_X0_11 0 rfl rfl dX0_pairUpOne_87 ?_
                    refine g_iload X 1 dX0_pairUpOne_90 rfl ?_
                    refine g_raald (y := rb b) X 1 rfl b (ix_nI (by omega) (by decide)) rfl dX0_pairUpOne_92 ?_
                    refine g_iload X 0 dX0_pairUpOne_93 rfl ?_
                    refine g_rald X 1 rfl (show b < 8 by omega) a (ix_nI (by omega) (by decide)) dX0_pairUpOne_95 ?_
                    refine g_istore (lv' := [(4, .int (B b a)), (10, .int (nI a)), (9, .int (nI b)), (0, .ref (m 0)), (1, .int (nI 1)), (2, .ref o0), (3, .ref o1), (5, .int (nI ((itR (bst true B f g a) b (bScan true B f g a)).2.1))), (6, .int (nI ((itR (bst true B f g a) b (bScan true B f g a)).2.2))), (7, .int (nI a)), (8, .int (nI b))]) X dX0_pairUpOne_96 (by decide) rfl ?_
                    refine g_iload X 2 dX0_pairUpOne_98 rfl ?_
                    refine g_istore (lv' := [(5, .int (nI b)), (4, .int (B b a)), (10, .int (nI a)), (9, .int (nI b)), (0, .ref (m 0)), (1, .int (nI 1)), (2, .ref o0), (3, .ref o1), (6, .int (nI ((itR (bst true B f g a) b (bScan true B f g a)).2.2))), (7, .int (nI a)), (8, .int (nI b))]) X dX0_pairUpOne_100 (by decide) rfl ?_
                    refine g_iload X 2 dX0_pairUpOne_102 rfl ?_
                    refine g_istore (lv' := [(6, .int (nI a)), (5, .int (nI b)), (4, .int (B b a)), (10, .int (nI a)), (9, .int (nI b)), (0, .ref (m 0)), (1, .int (nI 1)), (2, .ref o0), (3, .ref o1), (7, .int (nI a)), (8, .int (nI b))]) X dX0_pairUpOne_104 (by decide) rfl ?_
                    refine g_iincN (lv' := [(8, .int (nI (b + 1))), (6, .int (nI a)), (5, .int (nI b)), (4, .int (B b a)), (10, .int (nI a)), (9, .int (nI b)), (0, .ref (m 0)), (1, .int (nI 1)), (2, .ref o0), (3, .ref o1), (7, .int (nI a))]) X 10 dX0_pairUpOne_106 rfl (by decide) rfl ?_
                    refine g_goto (tgt := 22) X dX0_pairUpOne_109 (by decide) ?_
                    refine GG.lv [6, 7, 8, 9, 3, 2, 1, 10, 0] rfl ?_
                    exact ih_22 (b + 1) (by omega) (by omega) (B b a) (by simp [itR, bst, c_16, f_c_16, fn_c_16, c_26, f_c_26, fn_c_26, c_60, c_68, c_83]) (nI b) (by simp [itR, bst, c_16, f_c_16, fn_c_16, c_26, f_c_26, fn_c_26, c_60, c_68, c_83]) (nI a) (by simp [itR, bst, c_16, f_c_16, fn_c_16, c_26, f_c_26, fn_c_26, c_60, c_68, c_83]) (nI (b + 1)) (by rfl)
        refine GG.lv [1, 2, 3, 4, 5, 6, 7, 8, 0] rfl ?_
        exact L_22 (9) 0 (by omega) (by omega) ((bScan true B f g a).1) (by rfl) (nI ((bScan true B f g a).2.1)) (by rfl) (nI ((bScan true B f g a).2.2)) (by rfl) (nI 0) (by rfl)
  refine GG.lv [4, 5, 6, 7, 3, 2, 1, 0] rfl ?_
  exact L_12 (9) 0 (by omega) (by omega) (nI 0) (by rfl) (nI 0) (by rfl) (nI 0) (by rfl) (nI 0) (by rfl)
set_option maxHeartbeats 4000000 in
set_option maxRecDepth 100000 in
theorem c_X0_pairUp_0 (E : GE) (m : Nat → Nat) (rb : Nat → Nat) (rc : Nat → Nat) (P : Nat) (B : Nat → Nat → Int32) (o0 : Nat) (o1 : Nat) (f : Nat → Int32) (g : Nat → Int32) : CT E m_X0_pairUp [.ref (m 0), .int (nI 0), .ref o0, .ref o1] ([wMo E m rb rc P, wRw E rb B, wAr E o0 8 f, wAr E o1 8 g].flatten) (some (.int (nI ((puAll false B f g).1)))) ([wMo E m rb rc P, wRw E rb B, wAr E o0 8 ((puAll false B f g).2.1), wAr E o1 8 ((puAll false B f g).2.2)].flatten) := by
  refine CT.intro (by decide +kernel) (Nat.le_of_ble_eq_true rfl) (fun Γ X hx => ?_)
  refine GG.lv [0, 1, 2, 3] (lv' := [(0, .ref (m 0)), (1, .int (nI 0)), (2, .ref o0), (3, .ref o1)]) rfl ?_
  refine g_iconst (v := (nI 0)) X dX0_pairUp_0 rfl ?_
  refine g_istore (lv' := [(4, .int (nI 0)), (0, .ref (m 0)), (1, .int (nI 0)), (2, .ref o0), (3, .ref o1)]) X dX0_pairUp_1 (by decide) rfl ?_
  have L_3 : ∀ (n_3 : Nat) (k : Nat) (hk : k ≤ 8) (hm_3 : 8 - k < n_3) (x_4 : Int32) (ex_4 : x_4 = (nI k)) (u_0 : Nat → Int32) (eu_0 : u_0 = ngF f k) (u_1 : Nat → Int32) (eu_1 : u_1 = ngF g k), GG E m_X0_pairUp Γ 0 0 ([wMo E m rb rc P, wRw E rb B, wAr E o0 8 u_0, wAr E o1 8 u_1].flatten) [(0, .ref (m 0)), (1, .int (nI 0)), (2, .ref o0), (3, .ref o1), (4, .int x_4)] 3 [] := by
    intro n_3
    induction n_3 with
    | zero => intro k hk hm_3; exact absurd hm_3 (Nat.not_lt_zero _)
    | succ n_3 ih_3 =>
      intro k hk hm_3 x_4 ex_4 u_0 eu_0 u_1 eu_1
      subst ex_4
      subst eu_0
      subst eu_1
      refine g_iload X 4 dX0_pairUp_3 rfl ?_
      refine g_bipush (v := (nI 8)) X dX0_pairUp_5 rfl ?_
      refine g_icmp_ge (tgt := 26) X dX0_pairUp_7 (by decide) (fun c_7 => ?_) (fun c_7 => ?_)
      · have f_c_7 : 8 ≤ k := n_le (by omega) (by omega) c_7
        have fn_c_7 := Nat.not_lt.mpr f_c_7
        have ek : k = 8 := by omega
        subst ek
        refine g_iconst (v := (nI 0)) X dX0_pairUp_26 rfl ?_
        refine g_istore (lv' := [(4, .int (nI 0)), (0, .ref (m 0)), (1, .int (nI 0)), (2, .ref o0), (3, .ref o1)]) X dX0_pairUp_27 (by decide) rfl ?_
        have L_29 : ∀ (n_29 : Nat) (n : Nat) (f1 : Nat → Int32) (g1 : Nat → Int32) (hn : n ≤ 8) (he : puAll false B f g = pu false B (8 - n) n f1 g1) (hm_29 : 8 - n < n_29) (x_4 : Int32) (ex_4 : x_4 = (nI n)), GG E m_X0_pairUp Γ 0 0 ([wMo E m rb rc P, wRw E rb B, wAr E o0 8 f1, wAr E o1 8 g1].flatten) [(0, .ref (m 0)), (1, .int (nI 0)), (2, .ref o0), (3, .ref o1), (4, .int x_4)] 29 [] := by
          intro n_29
          induction n_29 with
          | zero => intro n f1 g1 hn he hm_29; exact absurd hm_29 (Nat.not_lt_zero _)
          | succ n_29 ih_29 =>
            intro n f1 g1 hn he hm_29 x_4 ex_4
            subst ex_4
            refine g_iload X 4 dX0_pairUp_29 rfl ?_
            refine g_bipush (v := (nI 8)) X dX0_pairUp_31 rfl ?_
            refine g_icmp_ge (tgt := 52) X dX0_pairUp_33 (by decide) (fun c_33 => ?_) (fun c_33 => ?_)
            · have f_c_33 : 8 ≤ n := n_le (by omega) (by omega) c_33
              have fn_c_33 := Nat.not_lt.mpr f_c_33
              refine g_iload X 4 dX0_pairUp_52 rfl ?_
              exact g_iretv (r := (nI n)) X hx rfl (by rw [he, show 8 - n = 0 by omega]; rfl) (by rw [he, show 8 - n = 0 by omega]; rfl) dX0_pairUp_54
            · have f_c_33 : n < 8 := n_nle (by omega) (by omega) c_33
              have fn_c_33 := Nat.not_le.mpr f_c_33
              refine g_aload_n X 0 dX0_pairUp_36 rfl ?_
              refine g_iload_n X 1 dX0_pairUp_37 rfl ?_
              refine g_aload_n X 2 dX0_pairUp_38 rfl ?_
              refine g_aload_n X 3 dX0_pairUp_39 rfl ?_
              refine g_callV (st2 := [.int (b2i (decide (¬ (bScan false B f1 g1 8).1 = 0)))]) (S' := [wMo E m rb rc P, wRw E rb B, wAr E o0 8 (puF false B f1 g1), wAr E o1 8 (puG false B f1 g1)]) (q0 := 0) X (c_X0_pairUpOne_0 E m rb rc P B o0 o1 f1 g1) cs_X0_129 rfl [0, 1, 2, 3] [] 4 rfl rfl (by decide) [] rfl rfl rfl rfl (by simp only [List.map_cons, List.map_nil, fsAr, fsMo, fsRw]) rfl rfl rfl rfl (Nat.le_of_ble_eq_true rfl) dX0_pairUp_40 rfl ?_
              refine g_bif_eq (tgt := 52) X dX0_pairUp_43 (by decide) (fun c_43 => ?_) (fun c_43 => ?_)
              · have e43 : (bScan false B f1 g1 8).1 = 0 := by simpa using c_43
                refine g_iload X 4 dX0_pairUp_52 rfl ?_
                exact g_iretv (r := (nI n)) X hx rfl (by rw [he, show 8 - n = (8 - (n + 1)) + 1 by omega, pu]; simp [e43]) (by rw [he, show 8 - n = (8 - (n + 1)) + 1 by omega, pu]; simp [puF, puG, e43]) dX0_pairUp_54
              · have e43 : ¬ (bScan false B f1 g1 8).1 = 0 := by simpa using c_43
                refine g_iincN (lv' := [(4, .int (nI (n + 1))), (0, .ref (m 0)), (1, .int (nI 0)), (2, .ref o0), (3, .ref o1)]) X 4 dX0_pairUp_46 rfl (by decide) rfl ?_
                refine g_goto (tgt := 29) X dX0_pairUp_49 (by decide) ?_
                refine GG.lv [1, 2, 3, 4, 0] rfl ?_
                exact ih_29 (n + 1) (puF false B f1 g1) (puG false B f1 g1) (by omega) (by rw [he, show 8 - n = (8 - (n + 1)) + 1 by omega, pu]; simp [e43]) (by omega) (nI (n + 1)) (by rfl)
        refine GG.lv [1, 2, 3, 4, 0] rfl ?_
        exact L_29 (9) 0 (ngF f 8) (ngF g 8) (by omega) (rfl) (by omega) (nI 0) (by rfl)
      · have f_c_7 : k < 8 := n_nle (by omega) (by omega) c_7
        have fn_c_7 := Nat.not_le.mpr f_c_7
        refine g_aload_n X 2 dX0_pairUp_10 rfl ?_
        refine g_iload X 4 dX0_pairUp_11 rfl ?_
        refine g_iconst (v := (-1)) X dX0_pairUp_13 rfl ?_
        refine g_iast (ws' := [wMo E m rb rc P, wRw E rb B, wAr E o0 8 (upd (ngF f k) k (-1)), wAr E o1 8 (ngF g k)].flatten) X 11 rfl k (ix_nI (by omega) (by decide)) rfl dX0_pairUp_14 ?_
        refine g_aload_n X 3 dX0_pairUp_15 rfl ?_
        refine g_iload X 4 dX0_pairUp_16 rfl ?_
        refine g_iconst (v := (-1)) X dX0_pairUp_18 rfl ?_
        refine g_iast (ws' := [wMo E m rb rc P, wRw E rb B, wAr E o0 8 (upd (ngF f k) k (-1)), wAr E o1 8 (upd (ngF g k) k (-1))].flatten) X 12 rfl k (ix_nI (by omega) (by decide)) rfl dX0_pairUp_19 ?_
        refine g_iincN (lv' := [(4, .int (nI (k + 1))), (0, .ref (m 0)), (1, .int (nI 0)), (2, .ref o0), (3, .ref o1)]) X 4 dX0_pairUp_20 rfl (by decide) rfl ?_
        refine g_goto (tgt := 3) X dX0_pairUp_23 (by decide) ?_
        refine GG.lv [1, 2, 3, 4, 0] rfl ?_
        exact ih_3 (k + 1) (by omega) (by omega) (nI (k + 1)) (by rfl) (upd (ngF f k) k (-1)) (by exact ngF_s _ _) (upd (ngF g k) k (-1)) (by exact ngF_s _ _)
  refine GG.lv [1, 2, 3, 4, 0] rfl ?_
  exact L_3 (9) 0 (by omega) (by omega) (nI 0) (by rfl) f (by exact (ngF_0 _).symm) g (by exact (ngF_0 _).symm)
set_option maxHeartbeats 4000000 in
set_option maxRecDepth 100000 in
theorem c_X0_pairUp_1 (E : GE) (m : Nat → Nat) (rb : Nat → Nat) (rc : Nat → Nat) (P : Nat) (B : Nat → Nat → Int32) (o0 : Nat) (o1 : Nat) (f : Nat → Int32) (g : Nat → Int32) : CT E m_X0_pairUp [.ref (m 0), .int (nI 1), .ref o0, .ref o1] ([wMo E m rb rc P, wRw E rb B, wAr E o0 8 f, wAr E o1 8 g].flatten) (some (.int (nI ((puAll true B f g).1)))) ([wMo E m rb rc P, wRw E rb B, wAr E o0 8 ((puAll true B f g).2.1), wAr E o1 8 ((puAll true B f g).2.2)].flatten) := by
  refine CT.intro (by decide +kernel) (Nat.le_of_ble_eq_true rfl) (fun Γ X hx => ?_)
  refine GG.lv [0, 1, 2, 3] (lv' := [(0, .ref (m 0)), (1, .int (nI 1)), (2, .ref o0), (3, .ref o1)]) rfl ?_
  refine g_iconst (v := (nI 0)) X dX0_pairUp_0 rfl ?_
  refine g_istore (lv' := [(4, .int (nI 0)), (0, .ref (m 0)), (1, .int (nI 1)), (2, .ref o0), (3, .ref o1)]) X dX0_pairUp_1 (by decide) rfl ?_
  have L_3 : ∀ (n_3 : Nat) (k : Nat) (hk : k ≤ 8) (hm_3 : 8 - k < n_3) (x_4 : Int32) (ex_4 : x_4 = (nI k)) (u_0 : Nat → Int32) (eu_0 : u_0 = ngF f k) (u_1 : Nat → Int32) (eu_1 : u_1 = ngF g k), GG E m_X0_pairUp Γ 0 0 ([wMo E m rb rc P, wRw E rb B, wAr E o0 8 u_0, wAr E o1 8 u_1].flatten) [(0, .ref (m 0)), (1, .int (nI 1)), (2, .ref o0), (3, .ref o1), (4, .int x_4)] 3 [] := by
    intro n_3
    induction n_3 with
    | zero => intro k hk hm_3; exact absurd hm_3 (Nat.not_lt_zero _)
    | succ n_3 ih_3 =>
      intro k hk hm_3 x_4 ex_4 u_0 eu_0 u_1 eu_1
      subst ex_4
      subst eu_0
      subst eu_1
      refine g_iload X 4 dX0_pairUp_3 rfl ?_
      refine g_bipush (v := (nI 8)) X dX0_pairUp_5 rfl ?_
      refine g_icmp_ge (tgt := 26) X dX0_pairUp_7 (by decide) (fun c_7 => ?_) (fun c_7 => ?_)
      · have f_c_7 : 8 ≤ k := n_le (by omega) (by omega) c_7
        have fn_c_7 := Nat.not_lt.mpr f_c_7
        have ek : k = 8 := by omega
        subst ek
        refine g_iconst (v := (nI 0)) X dX0_pairUp_26 rfl ?_
        refine g_istore (lv' := [(4, .int (nI 0)), (0, .ref (m 0)), (1, .int (nI 1)), (2, .ref o0), (3, .ref o1)]) X dX0_pairUp_27 (by decide) rfl ?_
        have L_29 : ∀ (n_29 : Nat) (n : Nat) (f1 : Nat → Int32) (g1 : Nat → Int32) (hn : n ≤ 8) (he : puAll true B f g = pu true B (8 - n) n f1 g1) (hm_29 : 8 - n < n_29) (x_4 : Int32) (ex_4 : x_4 = (nI n)), GG E m_X0_pairUp Γ 0 0 ([wMo E m rb rc P, wRw E rb B, wAr E o0 8 f1, wAr E o1 8 g1].flatten) [(0, .ref (m 0)), (1, .int (nI 1)), (2, .ref o0), (3, .ref o1), (4, .int x_4)] 29 [] := by
          intro n_29
          induction n_29 with
          | zero => intro n f1 g1 hn he hm_29; exact absurd hm_29 (Nat.not_lt_zero _)
          | succ n_29 ih_29 =>
            intro n f1 g1 hn he hm_29 x_4 ex_4
            subst ex_4
            refine g_iload X 4 dX0_pairUp_29 rfl ?_
            refine g_bipush (v := (nI 8)) X dX0_pairUp_31 rfl ?_
            refine g_icmp_ge (tgt := 52) X dX0_pairUp_33 (by decide) (fun c_33 => ?_) (fun c_33 => ?_)
            · have f_c_33 : 8 ≤ n := n_le (by omega) (by omega) c_33
              have fn_c_33 := Nat.not_lt.mpr f_c_33
              refine g_iload X 4 dX0_pairUp_52 rfl ?_
              exact g_iretv (r := (nI n)) X hx rfl (by rw [he, show 8 - n = 0 by omega]; rfl) (by rw [he, show 8 - n = 0 by omega]; rfl) dX0_pairUp_54
            · have f_c_33 : n < 8 := n_nle (by omega) (by omega) c_33
              have fn_c_33 := Nat.not_le.mpr f_c_33
              refine g_aload_n X 0 dX0_pairUp_36 rfl ?_
              refine g_iload_n X 1 dX0_pairUp_37 rfl ?_
              refine g_aload_n X 2 dX0_pairUp_38 rfl ?_
              refine g_aload_n X 3 dX0_pairUp_39 rfl ?_
              refine g_callV (st2 := [.int (b2i (decide (¬ (bScan true B f1 g1 8).1 = 0)))]) (S' := [wMo E m rb rc P, wRw E rb B, wAr E o0 8 (puF true B f1 g1), wAr E o1 8 (puG true B f1 g1)]) (q0 := 0) X (c_X0_pairUpOne_1 E m rb rc P B o0 o1 f1 g1) cs_X0_129 rfl [0, 1, 2, 3] [] 4 rfl rfl (by decide) [] rfl rfl rfl rfl (by simp only [List.map_cons, List.map_nil, fsAr, fsMo, fsRw]) rfl rfl rfl rfl (Nat.le_of_ble_eq_true rfl) dX0_pairUp_40 rfl ?_
              refine g_bif_eq (tgt := 52) X dX0_pairUp_43 (by decide) (fun c_43 => ?_) (fun c_43 => ?_)
              · have e43 : (bScan true B f1 g1 8).1 = 0 := by simpa using c_43
                refine g_iload X 4 dX0_pairUp_52 rfl ?_
                exact g_iretv (r := (nI n)) X hx rfl (by rw [he, show 8 - n = (8 - (n + 1)) + 1 by omega, pu]; simp [e43]) (by rw [he, show 8 - n = (8 - (n + 1)) + 1 by omega, pu]; simp [puF, puG, e43]) dX0_pairUp_54
              · have e43 : ¬ (bScan true B f1 g1 8).1 = 0 := by simpa using c_43
                refine g_iincN (lv' := [(4, .int (nI (n + 1))), (0, .ref (m 0)), (1, .int (nI 1)), (2, .ref o0), (3, .ref o1)]) X 4 dX0_pairUp_46 rfl (by decide) rfl ?_
                refine g_goto (tgt := 29) X dX0_pairUp_49 (by decide) ?_
                refine GG.lv [1, 2, 3, 4, 0] rfl ?_
                exact ih_29 (n + 1) (puF true B f1 g1) (puG true B f1 g1) (by omega) (by rw [he, show 8 - n = (8 - (n + 1)) + 1 by omega, pu]; simp [e43]) (by omega) (nI (n + 1)) (by rfl)
        refine GG.lv [1, 2, 3, 4, 0] rfl ?_
        exact L_29 (9) 0 (ngF f 8) (ngF g 8) (by omega) (rfl) (by omega) (nI 0) (by rfl)
      · have f_c_7 : k < 8 := n_nle (by omega) (by omega) c_7
        have fn_c_7 := Nat.not_le.mpr f_c_7
        refine g_aload_n X 2 dX0_pairUp_10 rfl ?_
        refine g_iload X 4 dX0_pairUp_11 rfl ?_
        refine g_iconst (v := (-1)) X dX0_pairUp_13 rfl ?_
        refine g_iast (ws' := [wMo E m rb rc P, wRw E rb B, wAr E o0 8 (upd (ngF f k) k (-1)), wAr E o1 8 (ngF g k)].flatten) X 11 rfl k (ix_nI (by omega) (by decide)) rfl dX0_pairUp_14 ?_
        refine g_aload_n X 3 dX0_pairUp_15 rfl ?_
        refine g_iload X 4 dX0_pairUp_16 rfl ?_
        refine g_iconst (v := (-1)) X dX0_pairUp_18 rfl ?_
        refine g_iast (ws' := [wMo E m rb rc P, wRw E rb B, wAr E o0 8 (upd (ngF f k) k (-1)), wAr E o1 8 (upd (ngF g k) k (-1))].flatten) X 12 rfl k (ix_nI (by omega) (by decide)) rfl dX0_pairUp_19 ?_
        refine g_iincN (lv' := [(4, .int (nI (k + 1))), (0, .ref (m 0)), (1, .int (nI 1)), (2, .ref o0), (3, .ref o1)]) X 4 dX0_pairUp_20 rfl (by decide) rfl ?_
        refine g_goto (tgt := 3) X dX0_pairUp_23 (by decide) ?_
        refine GG.lv [1, 2, 3, 4, 0] rfl ?_
        exact ih_3 (k + 1) (by omega) (by omega) (nI (k + 1)) (by rfl) (upd (ngF f k) k (-1)) (by exact ngF_s _ _) (upd (ngF g k) k (-1)) (by exact ngF_s _ _)
  refine GG.lv [1, 2, 3, 4, 0] rfl ?_
  exact L_3 (9) 0 (by omega) (by omega) (nI 0) (by rfl) f (by exact (ngF_0 _).symm) g (by exact (ngF_0 _).symm)
set_option maxHeartbeats 4000000 in
set_option maxRecDepth 100000 in
theorem c_X0_make (E : GE) (m : Nat → Nat) (rb : Nat → Nat) (rc : Nat → Nat) (P : Nat) (B : Nat → Nat → Int32) (C : Nat → Nat → Int32) (M : Nat → Int32) (N : Nat → Int32) (t : Nat) (a : Nat → Nat) (b : Nat → Nat) (v : TV) (hv : okT v) : CT E m_X0_make [.ref (m 0), .ref t] ([wMo E m rb rc P, wRw E rb B, wRw E rc C, wAr E (m 3) 8 M, wAr E (m 4) 8 N, wTw E t a b (tR v) (tN v), wSv E a (tA v), wSv E b (tB v)].flatten) none ([wMo E m rb rc ((puAll false (belAll v (B, C)).1 M N).1), wRw E rb ((belAll v (B, C)).1), wRw E rc ((belAll v (B, C)).2), wAr E (m 3) 8 ((puAll false (belAll v (B, C)).1 M N).2.1), wAr E (m 4) 8 ((puAll false (belAll v (B, C)).1 M N).2.2), wTw E t a b (tR v) (tN v), wSv E a (tA v), wSv E b (tB v)].flatten) := by
  refine CT.intro (by decide +kernel) (Nat.le_of_ble_eq_true rfl) (fun Γ X hx => ?_)
  refine GG.lv [0, 1] (lv' := [(0, .ref (m 0)), (1, .ref t)]) rfl ?_
  have hA : okS (tA v) := hv.1
  have hB : okS (tB v) := hv.2.1
  have hv1 : sM (tA v) ≤ 8 := hA.1
  have hv2 : sS (tA v) ≤ 8 := hA.2
  have hv3 : sM (tB v) ≤ 8 := hB.1
  have hv4 : sS (tB v) ≤ 8 := hB.2
  have hv5 : tN v ≤ 3 := hv.2.2
  refine g_iconst (v := (nI 0)) X dX0_make_0 rfl ?_
  refine g_istore_n (lv' := [(2, .int (nI 0)), (0, .ref (m 0)), (1, .ref t)]) X dX0_make_1 (by decide) rfl ?_
  have L_2 : ∀ (n_2 : Nat) (i : Nat) (hi : i ≤ 8) (hm_2 : 8 - i < n_2) (x_2 : Int32) (ex_2 : x_2 = (nI i)) (u_0 : Nat → Nat → Int32) (eu_0 : u_0 = fillB (belF v) B i 0), GG E m_X0_make Γ 0 0 ([wMo E m rb rc P, wRw E rb u_0, wRw E rc C, wAr E (m 3) 8 M, wAr E (m 4) 8 N, wTw E t a b (tR v) (tN v), wSv E a (tA v), wSv E b (tB v)].flatten) [(0, .ref (m 0)), (1, .ref t), (2, .int x_2)] 2 [] := by
    intro n_2
    induction n_2 with
    | zero => intro i hi hm_2; exact absurd hm_2 (Nat.not_lt_zero _)
    | succ n_2 ih_2 =>
      intro i hi hm_2 x_2 ex_2 u_0 eu_0
      subst ex_2
      subst eu_0
      refine g_iload_n X 2 dX0_make_2 rfl ?_
      refine g_bipush (v := (nI 8)) X dX0_make_3 rfl ?_
      refine g_icmp_ge (tgt := 46) X dX0_make_5 (by decide) (fun c_5 => ?_) (fun c_5 => ?_)
      · have f_c_5 : 8 ≤ i := n_le (by omega) (by omega) c_5
        have fn_c_5 := Nat.not_lt.mpr f_c_5
        have ei : i = 8 := by omega
        subst ei
        refine g_iconst (v := (nI 0)) X dX0_make_46 rfl ?_
        refine g_istore_n (lv' := [(2, .int (nI 0)), (0, .ref (m 0)), (1, .ref t)]) X dX0_make_47 (by decide) rfl ?_
        have L_48 : ∀ (n_48 : Nat) (r : Nat) (hr : r ≤ tN v) (hm_48 : tN v - r < n_48) (x_2 : Int32) (ex_2 : x_2 = (nI r)) (u_0 : Nat → Nat → Int32) (eu_0 : u_0 = (impN v r (fillB (belF v) B 8 0, C)).1) (u_1 : Nat → Nat → Int32) (eu_1 : u_1 = (impN v r (fillB (belF v) B 8 0, C)).2), GG E m_X0_make Γ 0 0 ([wMo E m rb rc P, wRw E rb u_0, wRw E rc u_1, wAr E (m 3) 8 M, wAr E (m 4) 8 N, wTw E t a b (tR v) (tN v), wSv E a (tA v), wSv E b (tB v)].flatten) [(0, .ref (m 0)), (1, .ref t), (2, .int x_2)] 48 [] := by
          intro n_48
          induction n_48 with
          | zero => intro r hr hm_48; exact absurd hm_48 (Nat.not_lt_zero _)
          | succ n_48 ih_48 =>
            intro r hr hm_48 x_2 ex_2 u_0 eu_0 u_1 eu_1
            subst ex_2
            subst eu_0
            subst eu_1
            refine g_iload_n X 2 dX0_make_48 rfl ?_
            refine g_aload_n X 1 dX0_make_49 rfl ?_
            refine g_callVr (st2 := [.int (nI (tN v)), .int (nI r)]) (q0 := 0) X (c_X6_rounds E t a b v) cs_X0_36 rfl [5, 6, 7] [0, 1, 2, 3, 4] 8 rfl (by decide) rfl rfl rfl rfl rfl (Nat.le_of_ble_eq_true rfl) dX0_make_50 rfl ?_
            refine g_icmp_ge (tgt := 67) X dX0_make_53 (by decide) (fun c_53 => ?_) (fun c_53 => ?_)
            · have f_c_53 : tN v ≤ r := n_le (by omega) (by omega) c_53
              have fn_c_53 := Nat.not_lt.mpr f_c_53
              have er : r = tN v := by omega
              subst er
              refine g_aload_n X 0 dX0_make_67 rfl ?_
              refine g_aload_n X 0 dX0_make_68 rfl ?_
              refine g_iconst (v := (nI 0)) X dX0_make_69 rfl ?_
              refine g_aload_n X 0 dX0_make_70 rfl ?_
              refine g_getf (v := .ref (m 3)) X fs_X0_19 0 rfl rfl dX0_make_71 ?_
              refine g_aload_n X 0 dX0_make_74 rfl ?_
              refine g_getf (v := .ref (m 4)) X fs_X0_23 0 rfl rfl dX0_make_75 ?_
              refine g_callV (st2 := [.int (nI ((puAll false ((impN v (tN v) (fillB (belF v) B 8 0, C)).1) M N).1)), .ref (m 0)]) (S' := [wMo E m rb rc P, wRw E rb ((impN v (tN v) (fillB (belF v) B 8 0, C)).1), wRw E rc ((impN v (tN v) (fillB (belF v) B 8 0, C)).2), wAr E (m 3) 8 ((puAll false ((impN v (tN v) (fillB (belF v) B 8 0, C)).1) M N).2.1), wAr E (m 4) 8 ((puAll false ((impN v (tN v) (fillB (belF v) B 8 0, C)).1) M N).2.2), wTw E t a b (tR v) (tN v), wSv E a (tA v), wSv E b (tB v)]) (q0 := 0) X (c_X0_pairUp_0 E m rb rc P ((impN v (tN v) (fillB (belF v) B 8 0, C)).1) (m 3) (m 4) M N) cs_X0_46 rfl [0, 1, 3, 4] [2, 5, 6, 7] 8 rfl rfl (by decide) [wRw E rc ((impN v (tN v) (fillB (belF v) B 8 0, C)).2), wTw E t a b (tR v) (tN v), wSv E a (tA v), wSv E b (tB v)] rfl rfl rfl rfl (by simp only [List.map_cons, List.map_nil, fsAr, fsMo, fsRw, fsSv, fsTw]) rfl rfl rfl rfl (Nat.le_of_ble_eq_true rfl) dX0_make_78 rfl ?_
              refine g_putf (ws' := [wMo E m rb rc ((puAll false ((impN v (tN v) (fillB (belF v) B 8 0, C)).1) M N).1), wRw E rb ((impN v (tN v) (fillB (belF v) B 8 0, C)).1), wRw E rc ((impN v (tN v) (fillB (belF v) B 8 0, C)).2), wAr E (m 3) 8 ((puAll false ((impN v (tN v) (fillB (belF v) B 8 0, C)).1) M N).2.1), wAr E (m 4) 8 ((puAll false ((impN v (tN v) (fillB (belF v) B 8 0, C)).1) M N).2.2), wTw E t a b (tR v) (tN v), wSv E a (tA v), wSv E b (tB v)].flatten) X ps_X0_50 0 rfl rfl rfl (Nat.le_of_ble_eq_true rfl) rfl dX0_make_81 ?_
              exact g_vret X hx rfl rfl (by simp only [belAll]) dX0_make_84
            · have f_c_53 : r < tN v := n_nle (by omega) (by omega) c_53
              have fn_c_53 := Nat.not_le.mpr f_c_53
              refine g_aload_n X 0 dX0_make_56 rfl ?_
              refine g_aload_n X 1 dX0_make_57 rfl ?_
              refine g_callV (st2 := []) (S' := [wMo E m rb rc P, wRw E rb ((impS v (((impN v r (fillB (belF v) B 8 0, C)).1), ((impN v r (fillB (belF v) B 8 0, C)).2))).1), wRw E rc ((impS v (((impN v r (fillB (belF v) B 8 0, C)).1), ((impN v r (fillB (belF v) B 8 0, C)).2))).2), wAr E (m 3) 8 M, wAr E (m 4) 8 N, wTw E t a b (tR v) (tN v), wSv E a (tA v), wSv E b (tB v)]) (q0 := 0) X (c_X0_improve E m rb rc P ((impN v r (fillB (belF v) B 8 0, C)).1) ((impN v r (fillB (belF v) B 8 0, C)).2) t a b v (by first | assumption | omega)) cs_X0_42 rfl [0, 1, 2, 5, 6, 7] [3, 4] 8 rfl rfl (by decide) [wAr E (m 3) 8 M, wAr E (m 4) 8 N] rfl rfl rfl rfl (by simp only [List.map_cons, List.map_nil, fsAr, fsMo, fsRw, fsSv, fsTw]) rfl rfl rfl rfl (Nat.le_of_ble_eq_true rfl) dX0_make_58 rfl ?_
              refine g_iincN (lv' := [(2, .int (nI (r + 1))), (0, .ref (m 0)), (1, .ref t)]) X 2 dX0_make_61 rfl (by decide) rfl ?_
              refine g_goto (tgt := 48) X dX0_make_64 (by decide) ?_
              refine GG.lv [1, 2, 0] rfl ?_
              exact ih_48 (r + 1) (by omega) (by omega) (nI (r + 1)) (by rfl) ((impS v (((impN v r (fillB (belF v) B 8 0, C)).1), ((impN v r (fillB (belF v) B 8 0, C)).2))).1) (by rfl) ((impS v (((impN v r (fillB (belF v) B 8 0, C)).1), ((impN v r (fillB (belF v) B 8 0, C)).2))).2) (by rfl)
        refine GG.lv [1, 2, 0] rfl ?_
        exact L_48 (tN v + 1) 0 (by omega) (by omega) (nI 0) (by rfl) (fillB (belF v) B 8 0) (by rfl) C (by rfl)
      · have f_c_5 : i < 8 := n_nle (by omega) (by omega) c_5
        have fn_c_5 := Nat.not_le.mpr f_c_5
        refine g_iconst (v := (nI 0)) X dX0_make_8 rfl ?_
        refine g_istore_n (lv' := [(3, .int (nI 0)), (0, .ref (m 0)), (1, .ref t), (2, .int (nI i))]) X dX0_make_9 (by decide) rfl ?_
        have L_10 : ∀ (n_10 : Nat) (j : Nat) (hj : j ≤ 8) (hm_10 : 8 - j < n_10) (x_3 : Int32) (ex_3 : x_3 = (nI j)) (u_0 : Nat → Nat → Int32) (eu_0 : u_0 = fillB (belF v) B i j), GG E m_X0_make Γ 0 0 ([wMo E m rb rc P, wRw E rb u_0, wRw E rc C, wAr E (m 3) 8 M, wAr E (m 4) 8 N, wTw E t a b (tR v) (tN v), wSv E a (tA v), wSv E b (tB v)].flatten) [(0, .ref (m 0)), (1, .ref t), (2, .int (nI i)), (3, .int x_3)] 10 [] := by
          intro n_10
          induction n_10 with
          | zero => intro j hj hm_10; exact absurd hm_10 (Nat.not_lt_zero _)
          | succ n_10 ih_10 =>
            intro j hj hm_10 x_3 ex_3 u_0 eu_0
            subst ex_3
            subst eu_0
            refine g_iload_n X 3 dX0_make_10 rfl ?_
            refine g_bipush (v := (nI 8)) X dX0_make_11 rfl ?_
            refine g_icmp_ge (tgt := 40) X dX0_make_13 (by decide) (fun c_13 => ?_) (fun c_13 => ?_)
            · have f_c_13 : 8 ≤ j := n_le (by omega) (by omega) c_13
              have fn_c_13 := Nat.not_lt.mpr f_c_13
              refine g_iincN (lv' := [(2, .int (nI (i + 1))), (0, .ref (m 0)), (1, .ref t), (3, .int (nI j))]) X 2 dX0_make_40 rfl (by decide) rfl ?_
              refine g_goto (tgt := 2) X dX0_make_43 (by decide) ?_
              refine GG.lv [1, 2, 0] rfl ?_
              exact ih_2 (i + 1) (by omega) (by omega) (nI (i + 1)) (by rfl) (fillB (belF v) B i j) (by rw [show j = 8 by omega]; exact fillB_row _ _ _)
            · have f_c_13 : j < 8 := n_nle (by omega) (by omega) c_13
              have fn_c_13 := Nat.not_le.mpr f_c_13
              refine g_aload_n X 0 dX0_make_16 rfl ?_
              refine g_getf (v := .ref (m 1)) X fs_X0_11 0 rfl rfl dX0_make_17 ?_
              refine g_iload_n X 2 dX0_make_20 rfl ?_
              refine g_raald (y := rb i) X 1 rfl i (ix_nI (by omega) (by decide)) rfl dX0_make_21 ?_
              refine g_iload_n X 3 dX0_make_22 rfl ?_
              refine g_sipush (v := (nI 512)) X dX0_make_23 rfl ?_
              refine g_aload_n X 1 dX0_make_26 rfl ?_
              refine g_iload_n X 2 dX0_make_27 rfl ?_
              refine g_iload_n X 3 dX0_make_28 rfl ?_
              refine g_callSr (st2 := [.int (firstB v i j), .int (nI 512), .int (nI j), .ref (rb i)]) X (c_X0_firstBelief E t a b v i j (by first | assumption | omega) (by first | assumption | omega) (by first | assumption | omega)) cs_X0_32 rfl [5, 6, 7] [0, 1, 2, 3, 4] 8 rfl (by decide) rfl rfl rfl (Nat.le_of_ble_eq_true rfl) dX0_make_29 rfl ?_
              refine g_imul X dX0_make_32 ?_
              refine g_rast (S' := [wMo E m rb rc P, wRw E rb (upR (fillB (belF v) B i j) i (upd ((fillB (belF v) B i j) i) j ((nI 512) * (firstB v i j)))), wRw E rc C, wAr E (m 3) 8 M, wAr E (m 4) 8 N, wTw E t a b (tR v) (tN v), wSv E a (tA v), wSv E b (tB v)]) X 1 rfl (show i < 8 by omega) j (ix_nI (by omega) (by decide)) rfl dX0_make_33 ?_
              refine g_iincN (lv' := [(3, .int (nI (j + 1))), (0, .ref (m 0)), (1, .ref t), (2, .int (nI i))]) X 3 dX0_make_34 rfl (by decide) rfl ?_
              refine g_goto (tgt := 10) X dX0_make_37 (by decide) ?_
              refine GG.lv [1, 2, 3, 0] rfl ?_
              exact ih_10 (j + 1) (by omega) (by omega) (nI (j + 1)) (by rfl) (upR (fillB (belF v) B i j) i (upd ((fillB (belF v) B i j) i) j ((nI 512) * (firstB v i j)))) (by exact fillB_s _ _ (by omega) rfl)
        refine GG.lv [1, 2, 3, 0] rfl ?_
        exact L_10 (9) 0 (by omega) (by omega) (nI 0) (by rfl) (fillB (belF v) B i 0) (by rfl)
  refine GG.lv [1, 2, 0] rfl ?_
  exact L_2 (9) 0 (by omega) (by omega) (nI 0) (by rfl) B (by exact (fillB_0 _ _).symm)
set_option maxHeartbeats 4000000 in
set_option maxRecDepth 100000 in
theorem c_X0_isSameExchanged (E : GE) (m : Nat → Nat) (rb : Nat → Nat) (rc : Nat → Nat) (P : Nat) (B : Nat → Nat → Int32) (M : Nat → Int32) (f : Nat → Int32) (g : Nat → Int32) : CT E m_X0_isSameExchanged [.ref (m 0)] ([wMo E m rb rc P, wRw E rb B, wAr E (m 3) 8 M, wAr E (m 5) 8 f, wAr E (m 6) 8 g].flatten) (some (.int (b2i ((findF (fun i => decide (¬ M i = (puAll true B f g).2.1 i)) 8).isNone)))) ([wMo E m rb rc P, wRw E rb B, wAr E (m 3) 8 M, wAr E (m 5) 8 ((puAll true B f g).2.1), wAr E (m 6) 8 ((puAll true B f g).2.2)].flatten) := by
  refine CT.intro (by decide +kernel) (Nat.le_of_ble_eq_true rfl) (fun Γ X hx => ?_)
  refine GG.lv [0] (lv' := [(0, .ref (m 0))]) rfl ?_
  refine g_aload_n X 0 dX0_isSameExchanged_0 rfl ?_
  refine g_iconst (v := (nI 1)) X dX0_isSameExchanged_1 rfl ?_
  refine g_aload_n X 0 dX0_isSameExchanged_2 rfl ?_
  refine g_getf (v := .ref (m 5)) X fs_X0_26 0 rfl rfl dX0_isSameExchanged_3 ?_
  refine g_aload_n X 0 dX0_isSameExchanged_6 rfl ?_
  refine g_getf (v := .ref (m 6)) X fs_X0_29 0 rfl rfl dX0_isSameExchanged_7 ?_
  refine g_callV (st2 := [.int (nI ((puAll true B f g).1))]) (S' := [wMo E m rb rc P, wRw E rb B, wAr E (m 3) 8 M, wAr E (m 5) 8 ((puAll true B f g).2.1), wAr E (m 6) 8 ((puAll true B f g).2.2)]) (q0 := 0) X (c_X0_pairUp_1 E m rb rc P B (m 5) (m 6) f g) cs_X0_46 rfl [0, 1, 3, 4] [2] 5 rfl rfl (by decide) [wAr E (m 3) 8 M] rfl rfl rfl rfl (by simp only [List.map_cons, List.map_nil, fsAr, fsMo, fsRw]) rfl rfl rfl rfl (Nat.le_of_ble_eq_true rfl) dX0_isSameExchanged_10 rfl ?_
  refine g_pop X dX0_isSameExchanged_13 rfl ?_
  refine g_iconst (v := (nI 0)) X dX0_isSameExchanged_14 rfl ?_
  refine g_istore_n (lv' := [(1, .int (nI 0)), (0, .ref (m 0))]) X dX0_isSameExchanged_15 (by decide) rfl ?_
  have L_16 : ∀ (n_16 : Nat) (k : Nat) (hk : k ≤ 8) (hf : findF (fun i => decide (¬ M i = (puAll true B f g).2.1 i)) k = none) (hm_16 : 8 - k < n_16) (x_1 : Int32) (ex_1 : x_1 = (nI k)), GG E m_X0_isSameExchanged Γ 0 0 ([wMo E m rb rc P, wRw E rb B, wAr E (m 3) 8 M, wAr E (m 5) 8 ((puAll true B f g).2.1), wAr E (m 6) 8 ((puAll true B f g).2.2)].flatten) [(0, .ref (m 0)), (1, .int x_1)] 16 [] := by
    intro n_16
    induction n_16 with
    | zero => intro k hk hf hm_16; exact absurd hm_16 (Nat.not_lt_zero _)
    | succ n_16 ih_16 =>
      intro k hk hf hm_16 x_1 ex_1
      subst ex_1
      refine g_iload_n X 1 dX0_isSameExchanged_16 rfl ?_
      refine g_bipush (v := (nI 8)) X dX0_isSameExchanged_17 rfl ?_
      refine g_icmp_ge (tgt := 45) X dX0_isSameExchanged_19 (by decide) (fun c_19 => ?_) (fun c_19 => ?_)
      · have f_c_19 : 8 ≤ k := n_le (by omega) (by omega) c_19
        have fn_c_19 := Nat.not_lt.mpr f_c_19
        refine g_iconst (v := (nI 1)) X dX0_isSameExchanged_45 rfl ?_
        exact g_zretv (r := (nI 1)) X hx rfl (by rw [show 8 = k by omega, hf]; rfl) (by rfl) dX0_isSameExchanged_46
      · have f_c_19 : k < 8 := n_nle (by omega) (by omega) c_19
        have fn_c_19 := Nat.not_le.mpr f_c_19
        refine g_aload_n X 0 dX0_isSameExchanged_22 rfl ?_
        refine g_getf (v := .ref (m 3)) X fs_X0_19 0 rfl rfl dX0_isSameExchanged_23 ?_
        refine g_iload_n X 1 dX0_isSameExchanged_26 rfl ?_
        refine g_iald X 11 rfl k (ix_nI (by omega) (by decide)) dX0_isSameExchanged_27 ?_
        refine g_aload_n X 0 dX0_isSameExchanged_28 rfl ?_
        refine g_getf (v := .ref (m 5)) X fs_X0_26 0 rfl rfl dX0_isSameExchanged_29 ?_
        refine g_iload_n X 1 dX0_isSameExchanged_32 rfl ?_
        refine g_iald X 12 rfl k (ix_nI (by omega) (by decide)) dX0_isSameExchanged_33 ?_
        refine g_icmp_eq (tgt := 39) X dX0_isSameExchanged_34 (by decide) (fun c_34 => ?_) (fun c_34 => ?_)
        · refine g_iincN (lv' := [(1, .int (nI (k + 1))), (0, .ref (m 0))]) X 1 dX0_isSameExchanged_39 rfl (by decide) rfl ?_
          refine g_goto (tgt := 16) X dX0_isSameExchanged_42 (by decide) ?_
          refine GG.lv [1, 0] rfl ?_
          exact ih_16 (k + 1) (by omega) (findF_none hf (by simp [c_19, f_c_19, fn_c_19, c_34])) (by omega) (nI (k + 1)) (by rfl)
        · refine g_iconst (v := (nI 0)) X dX0_isSameExchanged_37 rfl ?_
          exact g_zretv (r := (nI 0)) X hx rfl (by rw [findF_hit hf (by simp [c_19, f_c_19, fn_c_19, c_34]) _ (by omega)]; rfl) (by rfl) dX0_isSameExchanged_38
  refine GG.lv [1, 0] rfl ?_
  exact L_16 (9) 0 (by omega) (rfl) (by omega) (nI 0) (by rfl)
