set_option maxHeartbeats 4000000 in
set_option maxRecDepth 100000 in
theorem c_X10_in (E : GE) (x : Int32) (lo : Int32) (hi : Int32) : CT E m_X10_in [.int x, .int lo, .int hi] ([]) (some (.int (b2i (inR x lo hi)))) ([]) := by
  refine CT.intro (by decide +kernel) (Nat.le_of_ble_eq_true rfl) (fun Γ X hx => ?_)
  refine GG.lv [0, 1, 2] (lv' := [(0, .int x), (1, .int lo), (2, .int hi)]) rfl ?_
  refine g_iload_n X 0 dX10_in_0 rfl ?_
  refine g_iload_n X 1 dX10_in_1 rfl ?_
  refine g_icmp_lt (tgt := 14) X dX10_in_2 (by decide) (fun c_2 => ?_) (fun c_2 => ?_)
  · refine g_iconst (v := (nI 0)) X dX10_in_14 rfl ?_
    exact g_zretv (r := (nI 0)) X hx rfl (by simp [inR, b2i, c_2]; try rfl) (by rfl) dX10_in_15
  · refine g_iload_n X 0 dX10_in_5 rfl ?_
    refine g_iload_n X 2 dX10_in_6 rfl ?_
    refine g_icmp_gt (tgt := 14) X dX10_in_7 (by decide) (fun c_7 => ?_) (fun c_7 => ?_)
    · refine g_iconst (v := (nI 0)) X dX10_in_14 rfl ?_
      exact g_zretv (r := (nI 0)) X hx rfl (by simp [inR, b2i, c_2, c_7]; try rfl) (by rfl) dX10_in_15
    · refine g_iconst (v := (nI 1)) X dX10_in_10 rfl ?_
      refine g_goto (tgt := 15) X dX10_in_11 (by decide) ?_
      exact g_zretv (r := (nI 1)) X hx rfl (by simp [inR, b2i, c_2, c_7]; try rfl) (by rfl) dX10_in_15
set_option maxHeartbeats 4000000 in
set_option maxRecDepth 100000 in
theorem c_X10_isSurvey (E : GE) (x : Int32) : CT E m_X10_isSurvey [.int x] ([]) (some (.int (b2i (inR x (nI 0) (nI 1))))) ([]) := by
  refine CT.intro (by decide +kernel) (Nat.le_of_ble_eq_true rfl) (fun Γ X hx => ?_)
  refine GG.lv [0] (lv' := [(0, .int x)]) rfl ?_
  refine g_iload_n X 0 dX10_isSurvey_0 rfl ?_
  refine g_iconst (v := (nI 0)) X dX10_isSurvey_1 rfl ?_
  refine g_iconst (v := (nI 1)) X dX10_isSurvey_2 rfl ?_
  refine g_callSP (st2 := [.int (b2i (inR x (nI 0) (nI 1)))]) (ws' := []) (wr := []) X (c_X10_in E x (nI 0) (nI 1)) cs_X10_84 rfl (List.Perm.refl _) rfl (List.Perm.refl _) rfl rfl (Nat.le_of_ble_eq_true rfl) dX10_isSurvey_3 rfl ?_
  exact g_zretv (r := (b2i (inR x (nI 0) (nI 1)))) X hx rfl (by rfl) (by rfl) dX10_isSurvey_6
set_option maxHeartbeats 4000000 in
set_option maxRecDepth 100000 in
theorem c_X10_square (E : GE) (x : Int32) : CT E m_X10_square [.int x] ([]) (some (.int (x * x))) ([]) := by
  refine CT.intro (by decide +kernel) (Nat.le_of_ble_eq_true rfl) (fun Γ X hx => ?_)
  refine GG.lv [0] (lv' := [(0, .int x)]) rfl ?_
  refine g_iload_n X 0 dX10_square_0 rfl ?_
  refine g_iload_n X 0 dX10_square_1 rfl ?_
  refine g_imul X dX10_square_2 ?_
  exact g_iretv (r := (x * x)) X hx rfl (by rfl) (by rfl) dX10_square_3
set_option maxHeartbeats 4000000 in
set_option maxRecDepth 100000 in
theorem c_X10_far (E : GE) (x : Int32) : CT E m_X10_far [.int x] ([]) (some (.int (farI x))) ([]) := by
  refine CT.intro (by decide +kernel) (Nat.le_of_ble_eq_true rfl) (fun Γ X hx => ?_)
  refine GG.lv [0] (lv' := [(0, .int x)]) rfl ?_
  refine g_iload_n X 0 dX10_far_0 rfl ?_
  refine g_if_ge (tgt := 9) X dX10_far_1 (by decide) (fun c_1 => ?_) (fun c_1 => ?_)
  · refine g_iload_n X 0 dX10_far_9 rfl ?_
    exact g_iretv (r := x) X hx rfl (by exact if_pos c_1) (by rfl) dX10_far_10
  · refine g_iload_n X 0 dX10_far_4 rfl ?_
    refine g_ineg X dX10_far_5 ?_
    refine g_goto (tgt := 10) X dX10_far_6 (by decide) ?_
    exact g_iretv (r := (-x)) X hx rfl (by exact if_neg c_1) (by rfl) dX10_far_10
set_option maxHeartbeats 4000000 in
set_option maxRecDepth 100000 in
theorem c_X10_isMeeting (E : GE) (a : Nat → Nat) (s : MD0) (mm : Nat → Nat) (z : Int32) (i : Int32) : CT E m_X10_isMeeting [.ref (a 0), .int z, .int i] ([wMd E a s, wAn E (a 2) 2 mm].flatten) (some (.int (b2i (hasR mm z i)))) ([wMd E a s, wAn E (a 2) 2 mm].flatten) := by
  refine CT.intro (by decide +kernel) (Nat.le_of_ble_eq_true rfl) (fun Γ X hx => ?_)
  refine GG.lv [0, 1, 2] (lv' := [(0, .ref (a 0)), (1, .int z), (2, .int i)]) rfl ?_
  refine g_iload_n X 1 dX10_isMeeting_0 rfl ?_
  refine g_callSP (st2 := [.int (b2i (inR z (nI 0) (nI 1)))]) (ws' := [wMd E a s, wAn E (a 2) 2 mm].flatten) (wr := [wMd E a s, wAn E (a 2) 2 mm].flatten) X (c_X10_isSurvey E z) cs_X10_88 rfl (List.Perm.refl _) rfl (List.Perm.refl _) rfl rfl (Nat.le_of_ble_eq_true rfl) dX10_isMeeting_1 rfl ?_
  refine g_bif_eq (tgt := 27) X dX10_isMeeting_4 (by decide) (fun c_4 => ?_) (fun c_4 => ?_)
  · refine g_iconst (v := (nI 0)) X dX10_isMeeting_27 rfl ?_
    exact g_zretv (r := (nI 0)) X hx rfl (by simp [hasR, b2i, c_4]; try rfl) (by rfl) dX10_isMeeting_28
  · rcases inR01 c_4 with rfl | rfl
    · refine g_iload_n X 2 dX10_isMeeting_7 rfl ?_
      refine g_iconst (v := (nI 0)) X dX10_isMeeting_8 rfl ?_
      refine g_aload_n X 0 dX10_isMeeting_9 rfl ?_
      refine g_getf (v := .ref (a 2)) X fs_X10_16 0 rfl rfl dX10_isMeeting_10 ?_
      refine g_iload_n X 1 dX10_isMeeting_13 rfl ?_
      refine g_anld (f := mm) X 1 rfl 0 (ix_nI (by omega) (by decide)) dX10_isMeeting_14 ?_
      refine g_iconst (v := (nI 1)) X dX10_isMeeting_15 rfl ?_
      refine g_isub X dX10_isMeeting_16 ?_
      refine g_callSP (st2 := [.int (b2i (inR i (nI 0) ((nI (mm 0)) - (nI 1))))]) (ws' := [wMd E a s, wAn E (a 2) 2 mm].flatten) (wr := [wMd E a s, wAn E (a 2) 2 mm].flatten) X (c_X10_in E i (nI 0) ((nI (mm 0)) - (nI 1))) cs_X10_84 rfl (List.Perm.refl _) rfl (List.Perm.refl _) rfl rfl (Nat.le_of_ble_eq_true rfl) dX10_isMeeting_17 rfl ?_
      refine g_bif_eq (tgt := 27) X dX10_isMeeting_20 (by decide) (fun c_20 => ?_) (fun c_20 => ?_)
      · refine g_iconst (v := (nI 0)) X dX10_isMeeting_27 rfl ?_
        exact g_zretv (r := (nI 0)) X hx rfl (by simp [hasR, mmOf_0, mmOf_1, b2i, c_4, c_20]; try rfl) (by rfl) dX10_isMeeting_28
      · refine g_iconst (v := (nI 1)) X dX10_isMeeting_23 rfl ?_
        refine g_goto (tgt := 28) X dX10_isMeeting_24 (by decide) ?_
        exact g_zretv (r := (nI 1)) X hx rfl (by simp [hasR, mmOf_0, mmOf_1, b2i, c_4, c_20]; try rfl) (by rfl) dX10_isMeeting_28
    · refine g_iload_n X 2 dX10_isMeeting_7 rfl ?_
      refine g_iconst (v := (nI 0)) X dX10_isMeeting_8 rfl ?_
      refine g_aload_n X 0 dX10_isMeeting_9 rfl ?_
      refine g_getf (v := .ref (a 2)) X fs_X10_16 0 rfl rfl dX10_isMeeting_10 ?_
      refine g_iload_n X 1 dX10_isMeeting_13 rfl ?_
      refine g_anld (f := mm) X 1 rfl 1 (ix_nI (by omega) (by decide)) dX10_isMeeting_14 ?_
      refine g_iconst (v := (nI 1)) X dX10_isMeeting_15 rfl ?_
      refine g_isub X dX10_isMeeting_16 ?_
      refine g_callSP (st2 := [.int (b2i (inR i (nI 0) ((nI (mm 1)) - (nI 1))))]) (ws' := [wMd E a s, wAn E (a 2) 2 mm].flatten) (wr := [wMd E a s, wAn E (a 2) 2 mm].flatten) X (c_X10_in E i (nI 0) ((nI (mm 1)) - (nI 1))) cs_X10_84 rfl (List.Perm.refl _) rfl (List.Perm.refl _) rfl rfl (Nat.le_of_ble_eq_true rfl) dX10_isMeeting_17 rfl ?_
      refine g_bif_eq (tgt := 27) X dX10_isMeeting_20 (by decide) (fun c_20 => ?_) (fun c_20 => ?_)
      · refine g_iconst (v := (nI 0)) X dX10_isMeeting_27 rfl ?_
        exact g_zretv (r := (nI 0)) X hx rfl (by simp [hasR, mmOf_0, mmOf_1, b2i, c_4, c_20]; try rfl) (by rfl) dX10_isMeeting_28
      · refine g_iconst (v := (nI 1)) X dX10_isMeeting_23 rfl ?_
        refine g_goto (tgt := 28) X dX10_isMeeting_24 (by decide) ?_
        exact g_zretv (r := (nI 1)) X hx rfl (by simp [hasR, mmOf_0, mmOf_1, b2i, c_4, c_20]; try rfl) (by rfl) dX10_isMeeting_28
set_option maxHeartbeats 4000000 in
set_option maxRecDepth 100000 in
theorem c_X10_isStreet (E : GE) (a : Nat → Nat) (s : MD0) (ss : Nat → Nat) (z : Int32) (i : Int32) : CT E m_X10_isStreet [.ref (a 0), .int z, .int i] ([wMd E a s, wAn E (a 3) 2 ss].flatten) (some (.int (b2i (hasR ss z i)))) ([wMd E a s, wAn E (a 3) 2 ss].flatten) := by
  refine CT.intro (by decide +kernel) (Nat.le_of_ble_eq_true rfl) (fun Γ X hx => ?_)
  refine GG.lv [0, 1, 2] (lv' := [(0, .ref (a 0)), (1, .int z), (2, .int i)]) rfl ?_
  refine g_iload_n X 1 dX10_isStreet_0 rfl ?_
  refine g_callSP (st2 := [.int (b2i (inR z (nI 0) (nI 1)))]) (ws' := [wMd E a s, wAn E (a 3) 2 ss].flatten) (wr := [wMd E a s, wAn E (a 3) 2 ss].flatten) X (c_X10_isSurvey E z) cs_X10_88 rfl (List.Perm.refl _) rfl (List.Perm.refl _) rfl rfl (Nat.le_of_ble_eq_true rfl) dX10_isStreet_1 rfl ?_
  refine g_bif_eq (tgt := 27) X dX10_isStreet_4 (by decide) (fun c_4 => ?_) (fun c_4 => ?_)
  · refine g_iconst (v := (nI 0)) X dX10_isStreet_27 rfl ?_
    exact g_zretv (r := (nI 0)) X hx rfl (by simp [hasR, b2i, c_4]; try rfl) (by rfl) dX10_isStreet_28
  · rcases inR01 c_4 with rfl | rfl
    · refine g_iload_n X 2 dX10_isStreet_7 rfl ?_
      refine g_iconst (v := (nI 0)) X dX10_isStreet_8 rfl ?_
      refine g_aload_n X 0 dX10_isStreet_9 rfl ?_
      refine g_getf (v := .ref (a 3)) X fs_X10_20 0 rfl rfl dX10_isStreet_10 ?_
      refine g_iload_n X 1 dX10_isStreet_13 rfl ?_
      refine g_anld (f := ss) X 1 rfl 0 (ix_nI (by omega) (by decide)) dX10_isStreet_14 ?_
      refine g_iconst (v := (nI 1)) X dX10_isStreet_15 rfl ?_
      refine g_isub X dX10_isStreet_16 ?_
      refine g_callSP (st2 := [.int (b2i (inR i (nI 0) ((nI (ss 0)) - (nI 1))))]) (ws' := [wMd E a s, wAn E (a 3) 2 ss].flatten) (wr := [wMd E a s, wAn E (a 3) 2 ss].flatten) X (c_X10_in E i (nI 0) ((nI (ss 0)) - (nI 1))) cs_X10_84 rfl (List.Perm.refl _) rfl (List.Perm.refl _) rfl rfl (Nat.le_of_ble_eq_true rfl) dX10_isStreet_17 rfl ?_
      refine g_bif_eq (tgt := 27) X dX10_isStreet_20 (by decide) (fun c_20 => ?_) (fun c_20 => ?_)
      · refine g_iconst (v := (nI 0)) X dX10_isStreet_27 rfl ?_
        exact g_zretv (r := (nI 0)) X hx rfl (by simp [hasR, mmOf_0, mmOf_1, b2i, c_4, c_20]; try rfl) (by rfl) dX10_isStreet_28
      · refine g_iconst (v := (nI 1)) X dX10_isStreet_23 rfl ?_
        refine g_goto (tgt := 28) X dX10_isStreet_24 (by decide) ?_
        exact g_zretv (r := (nI 1)) X hx rfl (by simp [hasR, mmOf_0, mmOf_1, b2i, c_4, c_20]; try rfl) (by rfl) dX10_isStreet_28
    · refine g_iload_n X 2 dX10_isStreet_7 rfl ?_
      refine g_iconst (v := (nI 0)) X dX10_isStreet_8 rfl ?_
      refine g_aload_n X 0 dX10_isStreet_9 rfl ?_
      refine g_getf (v := .ref (a 3)) X fs_X10_20 0 rfl rfl dX10_isStreet_10 ?_
      refine g_iload_n X 1 dX10_isStreet_13 rfl ?_
      refine g_anld (f := ss) X 1 rfl 1 (ix_nI (by omega) (by decide)) dX10_isStreet_14 ?_
      refine g_iconst (v := (nI 1)) X dX10_isStreet_15 rfl ?_
      refine g_isub X dX10_isStreet_16 ?_
      refine g_callSP (st2 := [.int (b2i (inR i (nI 0) ((nI (ss 1)) - (nI 1))))]) (ws' := [wMd E a s, wAn E (a 3) 2 ss].flatten) (wr := [wMd E a s, wAn E (a 3) 2 ss].flatten) X (c_X10_in E i (nI 0) ((nI (ss 1)) - (nI 1))) cs_X10_84 rfl (List.Perm.refl _) rfl (List.Perm.refl _) rfl rfl (Nat.le_of_ble_eq_true rfl) dX10_isStreet_17 rfl ?_
      refine g_bif_eq (tgt := 27) X dX10_isStreet_20 (by decide) (fun c_20 => ?_) (fun c_20 => ?_)
      · refine g_iconst (v := (nI 0)) X dX10_isStreet_27 rfl ?_
        exact g_zretv (r := (nI 0)) X hx rfl (by simp [hasR, mmOf_0, mmOf_1, b2i, c_4, c_20]; try rfl) (by rfl) dX10_isStreet_28
      · refine g_iconst (v := (nI 1)) X dX10_isStreet_23 rfl ?_
        refine g_goto (tgt := 28) X dX10_isStreet_24 (by decide) ?_
        exact g_zretv (r := (nI 1)) X hx rfl (by simp [hasR, mmOf_0, mmOf_1, b2i, c_4, c_20]; try rfl) (by rfl) dX10_isStreet_28
set_option maxHeartbeats 4000000 in
set_option maxRecDepth 100000 in
theorem c_X10_between (E : GE) (a : Nat → Nat) (s : MD0) (ss : Nat → Nat) (fr : Nat → Int32) (tt : Nat → Int32) (g : Nat) (u : Int32) (w : Int32) (hss : ∀ g, g < 2 → ss g ≤ 8) (hg : g < 2) : CT E m_X10_between [.ref (a 0), .int (nI g), .int u, .int w] ([wMd E a s, wAn E (a 3) 2 ss, wAr E (a 7) 16 fr, wAr E (a 8) 16 tt].flatten) (some (.int (rBet ss fr tt g u w))) ([wMd E a s, wAn E (a 3) 2 ss, wAr E (a 7) 16 fr, wAr E (a 8) 16 tt].flatten) := by
  refine CT.intro (by decide +kernel) (Nat.le_of_ble_eq_true rfl) (fun Γ X hx => ?_)
  refine GG.lv [0, 1, 2, 3] (lv' := [(0, .ref (a 0)), (1, .int (nI g)), (2, .int u), (3, .int w)]) rfl ?_
  have hs8 := hss g hg
  refine g_bipush (v := (-4)) X dX10_between_0 rfl ?_
  refine g_istore (lv' := [(4, .int (-4)), (0, .ref (a 0)), (1, .int (nI g)), (2, .int u), (3, .int w)]) X dX10_between_2 (by decide) rfl ?_
  refine g_iconst (v := (nI 0)) X dX10_between_4 rfl ?_
  refine g_istore (lv' := [(5, .int (nI 0)), (4, .int (-4)), (0, .ref (a 0)), (1, .int (nI g)), (2, .int u), (3, .int w)]) X dX10_between_5 (by decide) rfl ?_
  have L_7 : ∀ (n_7 : Nat) (k : Nat) (hk : k ≤ ss g) (hm_7 : ss g - k < n_7) (x_4 : Int32) (ex_4 : x_4 = (lastF (rbP fr tt g u w) k)) (x_5 : Int32) (ex_5 : x_5 = (nI k)), GG E m_X10_between Γ 0 0 ([wMd E a s, wAn E (a 3) 2 ss, wAr E (a 7) 16 fr, wAr E (a 8) 16 tt].flatten) [(0, .ref (a 0)), (1, .int (nI g)), (2, .int u), (3, .int w), (4, .int x_4), (5, .int x_5)] 7 [] := by
    intro n_7
    induction n_7 with
    | zero => intro k hk hm_7; exact absurd hm_7 (Nat.not_lt_zero _)
    | succ n_7 ih_7 =>
      intro k hk hm_7 x_4 ex_4 x_5 ex_5
      subst ex_4
      subst ex_5
      refine g_iload X 5 dX10_between_7 rfl ?_
      refine g_aload_n X 0 dX10_between_9 rfl ?_
      refine g_getf (v := .ref (a 3)) X fs_X10_20 0 rfl rfl dX10_between_10 ?_
      refine g_iload_n X 1 dX10_between_13 rfl ?_
      refine g_anld (f := ss) X 1 rfl g (ix_nI (by omega) (by decide)) dX10_between_14 ?_
      refine g_icmp_ge (tgt := 98) X dX10_between_15 (by decide) (fun c_15 => ?_) (fun c_15 => ?_)
      · have f_c_15 : ss g ≤ k := n_le (by omega) (by omega) c_15
        have fn_c_15 := Nat.not_lt.mpr f_c_15
        refine g_iload X 4 dX10_between_98 rfl ?_
        exact g_iretv (r := (lastF (rbP fr tt g u w) k)) X hx rfl (by unfold rBet; rw [show ss g = k by omega]) (by rfl) dX10_between_100
      · have f_c_15 : k < ss g := n_nle (by omega) (by omega) c_15
        have fn_c_15 := Nat.not_le.mpr f_c_15
        refine g_bipush (v := (nI 8)) X dX10_between_18 rfl ?_
        refine g_iload_n X 1 dX10_between_20 rfl ?_
        refine g_imulN X dX10_between_21 ?_
        refine g_iload X 5 dX10_between_22 rfl ?_
        refine g_iaddN X dX10_between_24 ?_
        refine g_istore (lv' := [(6, .int (nI ((8 * g) + k))), (0, .ref (a 0)), (1, .int (nI g)), (2, .int u), (3, .int w), (4, .int (lastF (rbP fr tt g u w) k)), (5, .int (nI k))]) X dX10_between_25 (by decide) rfl ?_
        refine g_aload_n X 1 dX10_between_27 rfl ?_
        refine g_getf (v := .ref (a 7)) X fs_X10_32 0 rfl rfl dX10_between_28 ?_
        refine g_iload X 0 dX10_between_31 rfl ?_
        refine g_iald X 2 rfl ((8 * g) + k) (ix_nI (by omega) (by decide)) dX10_between_33 ?_
        refine g_iload_n X 3 dX10_between_34 rfl ?_
        refine g_icmp_ne (tgt := 49) X dX10_between_35 (by decide) (fun c_35 => ?_) (fun c_35 => ?_)
        · refine g_aload_n X 1 dX10_between_49 rfl ?_
          refine g_getf (v := .ref (a 7)) X fs_X10_32 0 rfl rfl dX10_between_50 ?_
          refine g_iload X 0 dX10_between_53 rfl ?_
          refine g_iald X 2 rfl ((8 * g) + k) (ix_nI (by omega) (by decide)) dX10_between_55 ?_
          refine g_iload_n X 4 dX10_between_56 rfl ?_
          refine g_icmp_ne (tgt := 75) X dX10_between_57 (by decide) (fun c_57 => ?_) (fun c_57 => ?_)
          · refine g_iconst (v := (nI 0)) X dX10_between_75 rfl ?_
            refine g_istore (lv' := [(7, .int (nI 0)), (6, .int (nI ((8 * g) + k))), (0, .ref (a 0)), (1, .int (nI g)), (2, .int u), (3, .int w), (4, .int (lastF (rbP fr tt g u w) k)), (5, .int (nI k))]) X dX10_between_76 (by decide) rfl ?_
            refine g_iload X 0 dX10_between_78 rfl ?_
            refine g_if_eq (tgt := 88) X dX10_between_80 (by decide) (fun c_80 => ?_) (fun c_80 => absurd c_80 (by decide))
            refine g_iload X 6 dX10_between_88 rfl ?_
            refine g_istore (lv' := [(4, .int (lastF (rbP fr tt g u w) k)), (7, .int (nI 0)), (6, .int (nI ((8 * g) + k))), (0, .ref (a 0)), (1, .int (nI g)), (2, .int u), (3, .int w), (5, .int (nI k))]) X dX10_between_90 (by decide) rfl ?_
            refine g_iincN (lv' := [(5, .int (nI (k + 1))), (4, .int (lastF (rbP fr tt g u w) k)), (7, .int (nI 0)), (6, .int (nI ((8 * g) + k))), (0, .ref (a 0)), (1, .int (nI g)), (2, .int u), (3, .int w)]) X 7 dX10_between_92 rfl (by decide) rfl ?_
            refine g_goto (tgt := 7) X dX10_between_95 (by decide) ?_
            refine GG.lv [4, 5, 6, 7, 1, 0] rfl ?_
            exact ih_7 (k + 1) (by omega) (by omega) (lastF (rbP fr tt g u w) k) (by exact lastF_f (by unfold rbP; first | (simp [c_15, f_c_15, fn_c_15, c_35, c_57]; done) | grind)) (nI (k + 1)) (by rfl)
          · refine g_aload_n X 1 dX10_between_60 rfl ?_
            refine g_getf (v := .ref (a 8)) X fs_X10_35 0 rfl rfl dX10_between_61 ?_
            refine g_iload X 0 dX10_between_64 rfl ?_
            refine g_iald X 3 rfl ((8 * g) + k) (ix_nI (by omega) (by decide)) dX10_between_66 ?_
            refine g_iload_n X 3 dX10_between_67 rfl ?_
            refine g_icmp_ne (tgt := 75) X dX10_between_68 (by decide) (fun c_68 => ?_) (fun c_68 => ?_)
            · refine g_iconst (v := (nI 0)) X dX10_between_75 rfl ?_
              refine g_istore (lv' := [(7, .int (nI 0)), (6, .int (nI ((8 * g) + k))), (0, .ref (a 0)), (1, .int (nI g)), (2, .int u), (3, .int w), (4, .int (lastF (rbP fr tt g u w) k)), (5, .int (nI k))]) X dX10_between_76 (by decide) rfl ?_
              refine g_iload X 0 dX10_between_78 rfl ?_
              refine g_if_eq (tgt := 88) X dX10_between_80 (by decide) (fun c_80 => ?_) (fun c_80 => absurd c_80 (by decide))
              refine g_iload X 6 dX10_between_88 rfl ?_
              refine g_istore (lv' := [(4, .int (lastF (rbP fr tt g u w) k)), (7, .int (nI 0)), (6, .int (nI ((8 * g) + k))), (0, .ref (a 0)), (1, .int (nI g)), (2, .int u), (3, .int w), (5, .int (nI k))]) X dX10_between_90 (by decide) rfl ?_
              refine g_iincN (lv' := [(5, .int (nI (k + 1))), (4, .int (lastF (rbP fr tt g u w) k)), (7, .int (nI 0)), (6, .int (nI ((8 * g) + k))), (0, .ref (a 0)), (1, .int (nI g)), (2, .int u), (3, .int w)]) X 7 dX10_between_92 rfl (by decide) rfl ?_
              refine g_goto (tgt := 7) X dX10_between_95 (by decide) ?_
              refine GG.lv [4, 5, 6, 7, 1, 0] rfl ?_
              exact ih_7 (k + 1) (by omega) (by omega) (lastF (rbP fr tt g u w) k) (by exact lastF_f (by unfold rbP; first | (simp [c_15, f_c_15, fn_c_15, c_35, c_57, c_68]; done) | grind)) (nI (k + 1)) (by rfl)
            · refine g_iconst (v := (nI 1)) X dX10_between_71 rfl ?_
              refine g_goto (tgt := 76) X dX10_between_72 (by decide) ?_
              refine g_istore (lv' := [(7, .int (nI 1)), (6, .int (nI ((8 * g) + k))), (0, .ref (a 0)), (1, .int (nI g)), (2, .int u), (3, .int w), (4, .int (lastF (rbP fr tt g u w) k)), (5, .int (nI k))]) X dX10_between_76 (by decide) rfl ?_
              refine g_iload X 0 dX10_between_78 rfl ?_
              refine g_if_eq (tgt := 88) X dX10_between_80 (by decide) (fun c_80 => absurd c_80 (by decide)) (fun c_80 => ?_)
              refine g_iload X 7 dX10_between_83 rfl ?_
              refine g_goto (tgt := 90) X dX10_between_85 (by decide) ?_
              refine g_istore (lv' := [(4, .int (nI k)), (7, .int (nI 1)), (6, .int (nI ((8 * g) + k))), (0, .ref (a 0)), (1, .int (nI g)), (2, .int u), (3, .int w), (5, .int (nI k))]) X dX10_between_90 (by decide) rfl ?_
              refine g_iincN (lv' := [(5, .int (nI (k + 1))), (4, .int (nI k)), (7, .int (nI 1)), (6, .int (nI ((8 * g) + k))), (0, .ref (a 0)), (1, .int (nI g)), (2, .int u), (3, .int w)]) X 7 dX10_between_92 rfl (by decide) rfl ?_
              refine g_goto (tgt := 7) X dX10_between_95 (by decide) ?_
              refine GG.lv [4, 5, 6, 7, 1, 0] rfl ?_
              exact ih_7 (k + 1) (by omega) (by omega) (nI k) (by exact lastF_t (by unfold rbP; first | (simp [c_15, f_c_15, fn_c_15, c_35, c_57, c_68]; done) | grind)) (nI (k + 1)) (by rfl)
        · refine g_aload_n X 1 dX10_between_38 rfl ?_
          refine g_getf (v := .ref (a 8)) X fs_X10_35 0 rfl rfl dX10_between_39 ?_
          refine g_iload X 0 dX10_between_42 rfl ?_
          refine g_iald X 3 rfl ((8 * g) + k) (ix_nI (by omega) (by decide)) dX10_between_44 ?_
          refine g_iload_n X 4 dX10_between_45 rfl ?_
          refine g_icmp_eq (tgt := 71) X dX10_between_46 (by decide) (fun c_46 => ?_) (fun c_46 => ?_)
          · refine g_iconst (v := (nI 1)) X dX10_between_71 rfl ?_
            refine g_goto (tgt := 76) X dX10_between_72 (by decide) ?_
            refine g_istore (lv' := [(7, .int (nI 1)), (6, .int (nI ((8 * g) + k))), (0, .ref (a 0)), (1, .int (nI g)), (2, .int u), (3, .int w), (4, .int (lastF (rbP fr tt g u w) k)), (5, .int (nI k))]) X dX10_between_76 (by decide) rfl ?_
            refine g_iload X 0 dX10_between_78 rfl ?_
            refine g_if_eq (tgt := 88) X dX10_between_80 (by decide) (fun c_80 => absurd c_80 (by decide)) (fun c_80 => ?_)
            refine g_iload X 7 dX10_between_83 rfl ?_
            refine g_goto (tgt := 90) X dX10_between_85 (by decide) ?_
            refine g_istore (lv' := [(4, .int (nI k)), (7, .int (nI 1)), (6, .int (nI ((8 * g) + k))), (0, .ref (a 0)), (1, .int (nI g)), (2, .int u), (3, .int w), (5, .int (nI k))]) X dX10_between_90 (by decide) rfl ?_
            refine g_iincN (lv' := [(5, .int (nI (k + 1))), (4, .int (nI k)), (7, .int (nI 1)), (6, .int (nI ((8 * g) + k))), (0, .ref (a 0)), (1, .int (nI g)), (2, .int u), (3, .int w)]) X 7 dX10_between_92 rfl (by decide) rfl ?_
            refine g_goto (tgt := 7) X dX10_between_95 (by decide) ?_
            refine GG.lv [4, 5, 6, 7, 1, 0] rfl ?_
            exact ih_7 (k + 1) (by omega) (by omega) (nI k) (by exact lastF_t (by unfold rbP; first | (simp [c_15, f_c_15, fn_c_15, c_35, c_46]; done) | grind)) (nI (k + 1)) (by rfl)
          · refine g_aload_n X 1 dX10_between_49 rfl ?_
            refine g_getf (v := .ref (a 7)) X fs_X10_32 0 rfl rfl dX10_between_50 ?_
            refine g_iload X 0 dX10_between_53 rfl ?_
            refine g_iald X 2 rfl ((8 * g) + k) (ix_nI (by omega) (by decide)) dX10_between_55 ?_
            refine g_iload_n X 4 dX10_between_56 rfl ?_
            refine g_icmp_ne (tgt := 75) X dX10_between_57 (by decide) (fun c_57 => ?_) (fun c_57 => ?_)
            · refine g_iconst (v := (nI 0)) X dX10_between_75 rfl ?_
              refine g_istore (lv' := [(7, .int (nI 0)), (6, .int (nI ((8 * g) + k))), (0, .ref (a 0)), (1, .int (nI g)), (2, .int u), (3, .int w), (4, .int (lastF (rbP fr tt g u w) k)), (5, .int (nI k))]) X dX10_between_76 (by decide) rfl ?_
              refine g_iload X 0 dX10_between_78 rfl ?_
              refine g_if_eq (tgt := 88) X dX10_between_80 (by decide) (fun c_80 => ?_) (fun c_80 => absurd c_80 (by decide))
              refine g_iload X 6 dX10_between_88 rfl ?_
              refine g_istore (lv' := [(4, .int (lastF (rbP fr tt g u w) k)), (7, .int (nI 0)), (6, .int (nI ((8 * g) + k))), (0, .ref (a 0)), (1, .int (nI g)), (2, .int u), (3, .int w), (5, .int (nI k))]) X dX10_between_90 (by decide) rfl ?_
              refine g_iincN (lv' := [(5, .int (nI (k + 1))), (4, .int (lastF (rbP fr tt g u w) k)), (7, .int (nI 0)), (6, .int (nI ((8 * g) + k))), (0, .ref (a 0)), (1, .int (nI g)), (2, .int u), (3, .int w)]) X 7 dX10_between_92 rfl (by decide) rfl ?_
              refine g_goto (tgt := 7) X dX10_between_95 (by decide) ?_
              refine GG.lv [4, 5, 6, 7, 1, 0] rfl ?_
              exact ih_7 (k + 1) (by omega) (by omega) (lastF (rbP fr tt g u w) k) (by exact lastF_f (by unfold rbP; first | (simp [c_15, f_c_15, fn_c_15, c_35, c_46, c_57]; done) | grind)) (nI (k + 1)) (by rfl)
            · refine g_aload_n X 1 dX10_between_60 rfl ?_
              refine g_getf (v := .ref (a 8)) X fs_X10_35 0 rfl rfl dX10_between_61 ?_
              refine g_iload X 0 dX10_between_64 rfl ?_
              refine g_iald X 3 rfl ((8 * g) + k) (ix_nI (by omega) (by decide)) dX10_between_66 ?_
              refine g_iload_n X 3 dX10_between_67 rfl ?_
              refine g_icmp_ne (tgt := 75) X dX10_between_68 (by decide) (fun c_68 => ?_) (fun c_68 => ?_)
              · refine g_iconst (v := (nI 0)) X dX10_between_75 rfl ?_
                refine g_istore (lv' := [(7, .int (nI 0)), (6, .int (nI ((8 * g) + k))), (0, .ref (a 0)), (1, .int (nI g)), (2, .int u), (3, .int w), (4, .int (lastF (rbP fr tt g u w) k)), (5, .int (nI k))]) X dX10_between_76 (by decide) rfl ?_
                refine g_iload X 0 dX10_between_78 rfl ?_
                refine g_if_eq (tgt := 88) X dX10_between_80 (by decide) (fun c_80 => ?_) (fun c_80 => absurd c_80 (by decide))
                refine g_iload X 6 dX10_between_88 rfl ?_
                refine g_istore (lv' := [(4, .int (lastF (rbP fr tt g u w) k)), (7, .int (nI 0)), (6, .int (nI ((8 * g) + k))), (0, .ref (a 0)), (1, .int (nI g)), (2, .int u), (3, .int w), (5, .int (nI k))]) X dX10_between_90 (by decide) rfl ?_
                refine g_iincN (lv' := [(5, .int (nI (k + 1))), (4, .int (lastF (rbP fr tt g u w) k)), (7, .int (nI 0)), (6, .int (nI ((8 * g) + k))), (0, .ref (a 0)), (1, .int (nI g)), (2, .int u), (3, .int w)]) X 7 dX10_between_92 rfl (by decide) rfl ?_
                refine g_goto (tgt := 7) X dX10_between_95 (by decide) ?_
                refine GG.lv [4, 5, 6, 7, 1, 0] rfl ?_
                exact ih_7 (k + 1) (by omega) (by omega) (lastF (rbP fr tt g u w) k) (by exact lastF_f (by unfold rbP; first | (simp [c_15, f_c_15, fn_c_15, c_35, c_46, c_57, c_68]; done) | grind)) (nI (k + 1)) (by rfl)
              · refine g_iconst (v := (nI 1)) X dX10_between_71 rfl ?_
                refine g_goto (tgt := 76) X dX10_between_72 (by decide) ?_
                refine g_istore (lv' := [(7, .int (nI 1)), (6, .int (nI ((8 * g) + k))), (0, .ref (a 0)), (1, .int (nI g)), (2, .int u), (3, .int w), (4, .int (lastF (rbP fr tt g u w) k)), (5, .int (nI k))]) X dX10_between_76 (by decide) rfl ?_
                refine g_iload X 0 dX10_between_78 rfl ?_
                refine g_if_eq (tgt := 88) X dX10_between_80 (by decide) (fun c_80 => absurd c_80 (by decide)) (fun c_80 => ?_)
                refine g_iload X 7 dX10_between_83 rfl ?_
                refine g_goto (tgt := 90) X dX10_between_85 (by decide) ?_
                refine g_istore (lv' := [(4, .int (nI k)), (7, .int (nI 1)), (6, .int (nI ((8 * g) + k))), (0, .ref (a 0)), (1, .int (nI g)), (2, .int u), (3, .int w), (5, .int (nI k))]) X dX10_between_90 (by decide) rfl ?_
                refine g_iincN (lv' := [(5, .int (nI (k + 1))), (4, .int (nI k)), (7, .int (nI 1)), (6, .int (nI ((8 * g) + k))), (0, .ref (a 0)), (1, .int (nI g)), (2, .int u), (3, .int w)]) X 7 dX10_between_92 rfl (by decide) rfl ?_
                refine g_goto (tgt := 7) X dX10_between_95 (by decide) ?_
                refine GG.lv [4, 5, 6, 7, 1, 0] rfl ?_
                exact ih_7 (k + 1) (by omega) (by omega) (nI k) (by exact lastF_t (by unfold rbP; first | (simp [c_15, f_c_15, fn_c_15, c_35, c_46, c_57, c_68]; done) | grind)) (nI (k + 1)) (by rfl)
  refine GG.lv [2, 3, 4, 5, 1, 0] rfl ?_
  exact L_7 (ss g + 1) 0 (by omega) (by omega) (-4) (by rfl) (nI 0) (by rfl)
set_option maxHeartbeats 4000000 in
set_option maxRecDepth 100000 in
theorem c_X10_streetsAt (E : GE) (a : Nat → Nat) (s : MD0) (ss : Nat → Nat) (fr : Nat → Int32) (tt : Nat → Int32) (g : Nat) (i : Int32) (hss : ∀ g, g < 2 → ss g ≤ 8) (hg : g < 2) : CT E m_X10_streetsAt [.ref (a 0), .int (nI g), .int i] ([wMd E a s, wAn E (a 3) 2 ss, wAr E (a 7) 16 fr, wAr E (a 8) 16 tt].flatten) (some (.int (nI (cntB (rAtP fr tt g i) (ss g))))) ([wMd E a s, wAn E (a 3) 2 ss, wAr E (a 7) 16 fr, wAr E (a 8) 16 tt].flatten) := by
  refine CT.intro (by decide +kernel) (Nat.le_of_ble_eq_true rfl) (fun Γ X hx => ?_)
  refine GG.lv [0, 1, 2] (lv' := [(0, .ref (a 0)), (1, .int (nI g)), (2, .int i)]) rfl ?_
  have hs8 := hss g hg
  refine g_iconst (v := (nI 0)) X dX10_streetsAt_0 rfl ?_
  refine g_istore_n (lv' := [(3, .int (nI 0)), (0, .ref (a 0)), (1, .int (nI g)), (2, .int i)]) X dX10_streetsAt_1 (by decide) rfl ?_
  refine g_iconst (v := (nI 0)) X dX10_streetsAt_2 rfl ?_
  refine g_istore (lv' := [(4, .int (nI 0)), (3, .int (nI 0)), (0, .ref (a 0)), (1, .int (nI g)), (2, .int i)]) X dX10_streetsAt_3 (by decide) rfl ?_
  have L_5 : ∀ (n_5 : Nat) (k : Nat) (hk : k ≤ ss g) (hm_5 : ss g - k < n_5) (x_3 : Int32) (ex_3 : x_3 = (nI (cntB (rAtP fr tt g i) k))) (x_4 : Int32) (ex_4 : x_4 = (nI k)), GG E m_X10_streetsAt Γ 0 0 ([wMd E a s, wAn E (a 3) 2 ss, wAr E (a 7) 16 fr, wAr E (a 8) 16 tt].flatten) [(0, .ref (a 0)), (1, .int (nI g)), (2, .int i), (3, .int x_3), (4, .int x_4)] 5 [] := by
    intro n_5
    induction n_5 with
    | zero => intro k hk hm_5; exact absurd hm_5 (Nat.not_lt_zero _)
    | succ n_5 ih_5 =>
      intro k hk hm_5 x_3 ex_3 x_4 ex_4
      subst ex_3
      subst ex_4
      refine g_iload X 4 dX10_streetsAt_5 rfl ?_
      refine g_aload_n X 0 dX10_streetsAt_7 rfl ?_
      refine g_getf (v := .ref (a 3)) X fs_X10_20 0 rfl rfl dX10_streetsAt_8 ?_
      refine g_iload_n X 1 dX10_streetsAt_11 rfl ?_
      refine g_anld (f := ss) X 1 rfl g (ix_nI (by omega) (by decide)) dX10_streetsAt_12 ?_
      refine g_icmp_ge (tgt := 61) X dX10_streetsAt_13 (by decide) (fun c_13 => ?_) (fun c_13 => ?_)
      · have f_c_13 : ss g ≤ k := n_le (by omega) (by omega) c_13
        have fn_c_13 := Nat.not_lt.mpr f_c_13
        refine g_iload_n X 3 dX10_streetsAt_61 rfl ?_
        exact g_iretv (r := (nI (cntB (rAtP fr tt g i) k))) X hx rfl (by rw [show ss g = k by omega]) (by rfl) dX10_streetsAt_62
      · have f_c_13 : k < ss g := n_nle (by omega) (by omega) c_13
        have fn_c_13 := Nat.not_le.mpr f_c_13
        refine g_bipush (v := (nI 8)) X dX10_streetsAt_16 rfl ?_
        refine g_iload_n X 1 dX10_streetsAt_18 rfl ?_
        refine g_imulN X dX10_streetsAt_19 ?_
        refine g_iload X 4 dX10_streetsAt_20 rfl ?_
        refine g_iaddN X dX10_streetsAt_22 ?_
        refine g_istore (lv' := [(5, .int (nI ((8 * g) + k))), (0, .ref (a 0)), (1, .int (nI g)), (2, .int i), (3, .int (nI (cntB (rAtP fr tt g i) k))), (4, .int (nI k))]) X dX10_streetsAt_23 (by decide) rfl ?_
        refine g_iload_n X 4 dX10_streetsAt_25 rfl ?_
        refine g_aload_n X 1 dX10_streetsAt_26 rfl ?_
        refine g_getf (v := .ref (a 7)) X fs_X10_32 0 rfl rfl dX10_streetsAt_27 ?_
        refine g_iload X 0 dX10_streetsAt_30 rfl ?_
        refine g_iald X 2 rfl ((8 * g) + k) (ix_nI (by omega) (by decide)) dX10_streetsAt_32 ?_
        refine g_iload_n X 3 dX10_streetsAt_33 rfl ?_
        refine g_icmp_eq (tgt := 48) X dX10_streetsAt_34 (by decide) (fun c_34 => ?_) (fun c_34 => ?_)
        · refine g_iconst (v := (nI 1)) X dX10_streetsAt_48 rfl ?_
          refine g_goto (tgt := 53) X dX10_streetsAt_49 (by decide) ?_
          refine g_iaddN X dX10_streetsAt_53 ?_
          refine g_istore_n (lv' := [(3, .int (nI ((cntB (rAtP fr tt g i) k) + 1))), (5, .int (nI ((8 * g) + k))), (0, .ref (a 0)), (1, .int (nI g)), (2, .int i), (4, .int (nI k))]) X dX10_streetsAt_54 (by decide) rfl ?_
          refine g_iincN (lv' := [(4, .int (nI (k + 1))), (3, .int (nI ((cntB (rAtP fr tt g i) k) + 1))), (5, .int (nI ((8 * g) + k))), (0, .ref (a 0)), (1, .int (nI g)), (2, .int i)]) X 5 dX10_streetsAt_55 rfl (by decide) rfl ?_
          refine g_goto (tgt := 5) X dX10_streetsAt_58 (by decide) ?_
          refine GG.lv [3, 4, 5, 1, 0] rfl ?_
          exact ih_5 (k + 1) (by omega) (by omega) (nI ((cntB (rAtP fr tt g i) k) + 1)) (by rw [cntB_t (by simp [rAtP, c_13, f_c_13, fn_c_13, c_34])]) (nI (k + 1)) (by rfl)
        · refine g_aload_n X 1 dX10_streetsAt_37 rfl ?_
          refine g_getf (v := .ref (a 8)) X fs_X10_35 0 rfl rfl dX10_streetsAt_38 ?_
          refine g_iload X 0 dX10_streetsAt_41 rfl ?_
          refine g_iald X 3 rfl ((8 * g) + k) (ix_nI (by omega) (by decide)) dX10_streetsAt_43 ?_
          refine g_iload_n X 3 dX10_streetsAt_44 rfl ?_
          refine g_icmp_ne (tgt := 52) X dX10_streetsAt_45 (by decide) (fun c_45 => ?_) (fun c_45 => ?_)
          · refine g_iconst (v := (nI 0)) X dX10_streetsAt_52 rfl ?_
            refine g_iaddN X dX10_streetsAt_53 ?_
            refine g_istore_n (lv' := [(3, .int (nI ((cntB (rAtP fr tt g i) k) + 0))), (5, .int (nI ((8 * g) + k))), (0, .ref (a 0)), (1, .int (nI g)), (2, .int i), (4, .int (nI k))]) X dX10_streetsAt_54 (by decide) rfl ?_
            refine g_iincN (lv' := [(4, .int (nI (k + 1))), (3, .int (nI ((cntB (rAtP fr tt g i) k) + 0))), (5, .int (nI ((8 * g) + k))), (0, .ref (a 0)), (1, .int (nI g)), (2, .int i)]) X 5 dX10_streetsAt_55 rfl (by decide) rfl ?_
            refine g_goto (tgt := 5) X dX10_streetsAt_58 (by decide) ?_
            refine GG.lv [3, 4, 5, 1, 0] rfl ?_
            exact ih_5 (k + 1) (by omega) (by omega) (nI ((cntB (rAtP fr tt g i) k) + 0)) (by rw [← cntB_f (by simp [rAtP, c_13, f_c_13, fn_c_13, c_34, c_45]), Nat.add_zero]) (nI (k + 1)) (by rfl)
          · refine g_iconst (v := (nI 1)) X dX10_streetsAt_48 rfl ?_
            refine g_goto (tgt := 53) X dX10_streetsAt_49 (by decide) ?_
            refine g_iaddN X dX10_streetsAt_53 ?_
            refine g_istore_n (lv' := [(3, .int (nI ((cntB (rAtP fr tt g i) k) + 1))), (5, .int (nI ((8 * g) + k))), (0, .ref (a 0)), (1, .int (nI g)), (2, .int i), (4, .int (nI k))]) X dX10_streetsAt_54 (by decide) rfl ?_
            refine g_iincN (lv' := [(4, .int (nI (k + 1))), (3, .int (nI ((cntB (rAtP fr tt g i) k) + 1))), (5, .int (nI ((8 * g) + k))), (0, .ref (a 0)), (1, .int (nI g)), (2, .int i)]) X 5 dX10_streetsAt_55 rfl (by decide) rfl ?_
            refine g_goto (tgt := 5) X dX10_streetsAt_58 (by decide) ?_
            refine GG.lv [3, 4, 5, 1, 0] rfl ?_
            exact ih_5 (k + 1) (by omega) (by omega) (nI ((cntB (rAtP fr tt g i) k) + 1)) (by rw [cntB_t (by simp [rAtP, c_13, f_c_13, fn_c_13, c_34, c_45])]) (nI (k + 1)) (by rfl)
  refine GG.lv [2, 3, 4, 1, 0] rfl ?_
  exact L_5 (ss g + 1) 0 (by omega) (by omega) (nI 0) (by rfl) (nI 0) (by rfl)
set_option maxHeartbeats 4000000 in
set_option maxRecDepth 100000 in
theorem c_X10_nearOf (E : GE) (a : Nat → Nat) (s : MD0) (kd : Nat → Int32) (p : Nat) (hp : p < 16) : CT E m_X10_nearOf [.ref (a 0), .int (nI p)] ([wMd E a s, wAr E (a 4) 16 kd].flatten) (some (.int (rNear (dR s) (kd p)))) ([wMd E a s, wAr E (a 4) 16 kd].flatten) := by
  refine CT.intro (by decide +kernel) (Nat.le_of_ble_eq_true rfl) (fun Γ X hx => ?_)
  refine GG.lv [0, 1] (lv' := [(0, .ref (a 0)), (1, .int (nI p))]) rfl ?_
  refine g_aload_n X 0 dX10_nearOf_0 rfl ?_
  refine g_getf (v := .ref (a 4)) X fs_X10_23 0 rfl rfl dX10_nearOf_1 ?_
  refine g_iload_n X 1 dX10_nearOf_4 rfl ?_
  refine g_iald X 1 rfl p (ix_nI (by omega) (by decide)) dX10_nearOf_5 ?_
  refine g_istore_n (lv' := [(2, .int (kd p)), (0, .ref (a 0)), (1, .int (nI p))]) X dX10_nearOf_6 (by decide) rfl ?_
  refine g_iload_n X 0 dX10_nearOf_7 rfl ?_
  refine g_iconst (v := (nI 2)) X dX10_nearOf_8 rfl ?_
  refine g_icmp_ne (tgt := 35) X dX10_nearOf_9 (by decide) (fun c_9 => ?_) (fun c_9 => ?_)
  · refine g_iload_n X 0 dX10_nearOf_35 rfl ?_
    refine g_iconst (v := (nI 1)) X dX10_nearOf_36 rfl ?_
    refine g_icmp_ne (tgt := 49) X dX10_nearOf_37 (by decide) (fun c_37 => ?_) (fun c_37 => ?_)
    · refine g_iload_n X 0 dX10_nearOf_49 rfl ?_
      refine g_iconst (v := (nI 3)) X dX10_nearOf_50 rfl ?_
      refine g_icmp_ne (tgt := 65) X dX10_nearOf_51 (by decide) (fun c_51 => ?_) (fun c_51 => ?_)
      · refine g_aload_n X 1 dX10_nearOf_65 rfl ?_
        refine g_getf (v := .int (dR s)) X fs_X10_7 0 rfl rfl dX10_nearOf_66 ?_
        exact g_iretv (r := (dR s)) X hx rfl (by simp [rNear, nI_eq, c_9, c_37, c_51]) (by rfl) dX10_nearOf_69
      · refine g_aload_n X 1 dX10_nearOf_54 rfl ?_
        refine g_getf (v := .int (dR s)) X fs_X10_7 0 rfl rfl dX10_nearOf_55 ?_
        refine g_iconst (v := (nI 2)) X dX10_nearOf_58 rfl ?_
        refine g_idiv X dX10_nearOf_59 (by decide) ?_
        refine g_iconst (v := (nI 1)) X dX10_nearOf_60 rfl ?_
        refine g_iadd X dX10_nearOf_61 ?_
        refine g_goto (tgt := 69) X dX10_nearOf_62 (by decide) ?_
        exact g_iretv (r := (((dR s) / (nI 2)) + (nI 1))) X hx rfl (by simp [rNear, nI_eq, c_9, c_37, c_51]) (by rfl) dX10_nearOf_69
    · refine g_aload_n X 1 dX10_nearOf_40 rfl ?_
      refine g_getf (v := .int (dR s)) X fs_X10_7 0 rfl rfl dX10_nearOf_41 ?_
      refine g_iconst (v := (nI 2)) X dX10_nearOf_44 rfl ?_
      refine g_idiv X dX10_nearOf_45 (by decide) ?_
      refine g_goto (tgt := 69) X dX10_nearOf_46 (by decide) ?_
      exact g_iretv (r := ((dR s) / (nI 2))) X hx rfl (by simp [rNear, nI_eq, c_9, c_37]) (by rfl) dX10_nearOf_69
  · refine g_aload_n X 1 dX10_nearOf_12 rfl ?_
    refine g_getf (v := .int (dR s)) X fs_X10_7 0 rfl rfl dX10_nearOf_13 ?_
    refine g_iconst (v := (nI 5)) X dX10_nearOf_16 rfl ?_
    refine g_iadd X dX10_nearOf_17 ?_
    refine g_bipush (v := (nI 20)) X dX10_nearOf_18 rfl ?_
    refine g_icmp_ge (tgt := 32) X dX10_nearOf_20 (by decide) (fun c_20 => ?_) (fun c_20 => ?_)
    · refine g_bipush (v := (nI 20)) X dX10_nearOf_32 rfl ?_
      exact g_iretv (r := (nI 20)) X hx rfl (by simp [rNear, nI_eq, c_9, c_20]) (by rfl) dX10_nearOf_34
    · refine g_aload_n X 1 dX10_nearOf_23 rfl ?_
      refine g_getf (v := .int (dR s)) X fs_X10_7 0 rfl rfl dX10_nearOf_24 ?_
      refine g_iconst (v := (nI 5)) X dX10_nearOf_27 rfl ?_
      refine g_iadd X dX10_nearOf_28 ?_
      refine g_goto (tgt := 34) X dX10_nearOf_29 (by decide) ?_
      exact g_iretv (r := ((dR s) + (nI 5))) X hx rfl (by simp [rNear, nI_eq, c_9, c_20]) (by rfl) dX10_nearOf_34
set_option maxHeartbeats 4000000 in
set_option maxRecDepth 100000 in
theorem c_X10_distance (E : GE) (a : Nat → Nat) (s : MD0) (xo : Nat → Int32) (yo : Nat → Int32) (p : Nat) (q : Nat) (hp : p < 16) (hq : q < 16) : CT E m_X10_distance [.ref (a 0), .int (nI p), .int (nI q)] ([wMd E a s, wAr E (a 5) 16 xo, wAr E (a 6) 16 yo].flatten) (some (.int (rDist xo yo p q))) ([wMd E a s, wAr E (a 5) 16 xo, wAr E (a 6) 16 yo].flatten) := by
  refine CT.intro (by decide +kernel) (Nat.le_of_ble_eq_true rfl) (fun Γ X hx => ?_)
  refine GG.lv [0, 1, 2] (lv' := [(0, .ref (a 0)), (1, .int (nI p)), (2, .int (nI q))]) rfl ?_
  refine g_aload_n X 0 dX10_distance_0 rfl ?_
  refine g_getf (v := .ref (a 5)) X fs_X10_26 0 rfl rfl dX10_distance_1 ?_
  refine g_iload_n X 1 dX10_distance_4 rfl ?_
  refine g_iald X 1 rfl p (ix_nI (by omega) (by decide)) dX10_distance_5 ?_
  refine g_aload_n X 0 dX10_distance_6 rfl ?_
  refine g_getf (v := .ref (a 5)) X fs_X10_26 0 rfl rfl dX10_distance_7 ?_
  refine g_iload_n X 2 dX10_distance_10 rfl ?_
  refine g_iald X 1 rfl q (ix_nI (by omega) (by decide)) dX10_distance_11 ?_
  refine g_isub X dX10_distance_12 ?_
  refine g_callSP (st2 := [.int (((xo p) - (xo q)) * ((xo p) - (xo q)))]) (ws' := [wMd E a s, wAr E (a 5) 16 xo, wAr E (a 6) 16 yo].flatten) (wr := [wMd E a s, wAr E (a 5) 16 xo, wAr E (a 6) 16 yo].flatten) X (c_X10_square E ((xo p) - (xo q))) cs_X10_131 rfl (List.Perm.refl _) rfl (List.Perm.refl _) rfl rfl (Nat.le_of_ble_eq_true rfl) dX10_distance_13 rfl ?_
  refine g_aload_n X 0 dX10_distance_16 rfl ?_
  refine g_getf (v := .ref (a 6)) X fs_X10_29 0 rfl rfl dX10_distance_17 ?_
  refine g_iload_n X 1 dX10_distance_20 rfl ?_
  refine g_iald X 2 rfl p (ix_nI (by omega) (by decide)) dX10_distance_21 ?_
  refine g_aload_n X 0 dX10_distance_22 rfl ?_
  refine g_getf (v := .ref (a 6)) X fs_X10_29 0 rfl rfl dX10_distance_23 ?_
  refine g_iload_n X 2 dX10_distance_26 rfl ?_
  refine g_iald X 2 rfl q (ix_nI (by omega) (by decide)) dX10_distance_27 ?_
  refine g_isub X dX10_distance_28 ?_
  refine g_callSP (st2 := [.int (((yo p) - (yo q)) * ((yo p) - (yo q))), .int (((xo p) - (xo q)) * ((xo p) - (xo q)))]) (ws' := [wMd E a s, wAr E (a 5) 16 xo, wAr E (a 6) 16 yo].flatten) (wr := [wMd E a s, wAr E (a 5) 16 xo, wAr E (a 6) 16 yo].flatten) X (c_X10_square E ((yo p) - (yo q))) cs_X10_131 rfl (List.Perm.refl _) rfl (List.Perm.refl _) rfl rfl (Nat.le_of_ble_eq_true rfl) dX10_distance_29 rfl ?_
  refine g_iadd X dX10_distance_32 ?_
  exact g_iretv (r := ((((xo p) - (xo q)) * ((xo p) - (xo q))) + (((yo p) - (yo q)) * ((yo p) - (yo q))))) X hx rfl (by rfl) (by rfl) dX10_distance_33
set_option maxHeartbeats 4000000 in
set_option maxRecDepth 100000 in
theorem c_X10_otherEnd (E : GE) (a : Nat → Nat) (s : MD0) (fr : Nat → Int32) (tt : Nat → Int32) (g : Nat) (k : Nat) (i : Int32) (hg : g < 2) (hk : k < 8) : CT E m_X10_otherEnd [.ref (a 0), .int (nI g), .int (nI k), .int i] ([wMd E a s, wAr E (a 7) 16 fr, wAr E (a 8) 16 tt].flatten) (some (.int (rOther fr tt g k i))) ([wMd E a s, wAr E (a 7) 16 fr, wAr E (a 8) 16 tt].flatten) := by
  refine CT.intro (by decide +kernel) (Nat.le_of_ble_eq_true rfl) (fun Γ X hx => ?_)
  refine GG.lv [0, 1, 2, 3] (lv' := [(0, .ref (a 0)), (1, .int (nI g)), (2, .int (nI k)), (3, .int i)]) rfl ?_
  refine g_bipush (v := (nI 8)) X dX10_otherEnd_0 rfl ?_
  refine g_iload_n X 1 dX10_otherEnd_2 rfl ?_
  refine g_imulN X dX10_otherEnd_3 ?_
  refine g_iload_n X 2 dX10_otherEnd_4 rfl ?_
  refine g_iaddN X dX10_otherEnd_5 ?_
  refine g_istore (lv' := [(4, .int (nI ((8 * g) + k))), (0, .ref (a 0)), (1, .int (nI g)), (2, .int (nI k)), (3, .int i)]) X dX10_otherEnd_6 (by decide) rfl ?_
  refine g_aload_n X 1 dX10_otherEnd_8 rfl ?_
  refine g_getf (v := .ref (a 7)) X fs_X10_32 0 rfl rfl dX10_otherEnd_9 ?_
  refine g_iload X 0 dX10_otherEnd_12 rfl ?_
  refine g_iald X 1 rfl ((8 * g) + k) (ix_nI (by omega) (by decide)) dX10_otherEnd_14 ?_
  refine g_iload_n X 4 dX10_otherEnd_15 rfl ?_
  refine g_icmp_ne (tgt := 29) X dX10_otherEnd_16 (by decide) (fun c_16 => ?_) (fun c_16 => ?_)
  · refine g_aload_n X 1 dX10_otherEnd_29 rfl ?_
    refine g_getf (v := .ref (a 8)) X fs_X10_35 0 rfl rfl dX10_otherEnd_30 ?_
    refine g_iload X 0 dX10_otherEnd_33 rfl ?_
    refine g_iald X 2 rfl ((8 * g) + k) (ix_nI (by omega) (by decide)) dX10_otherEnd_35 ?_
    refine g_iload_n X 4 dX10_otherEnd_36 rfl ?_
    refine g_icmp_ne (tgt := 50) X dX10_otherEnd_37 (by decide) (fun c_37 => ?_) (fun c_37 => ?_)
    · refine g_bipush (v := (-4)) X dX10_otherEnd_50 rfl ?_
      exact g_iretv (r := (-4)) X hx rfl (by simp only [rOther, c_16, c_37, decide_true, decide_false, not_true_eq_false, not_false_eq_true, Bool.true_and, Bool.false_and, Bool.and_true, Bool.and_false, Bool.true_or, Bool.false_or, Bool.or_true, Bool.or_false, and_true, true_and, and_false, false_and, or_true, true_or, or_false, false_or, if_true, if_false, Bool.false_eq_true, decide_eq_true_eq]) (by rfl) dX10_otherEnd_52
    · refine g_aload_n X 1 dX10_otherEnd_40 rfl ?_
      refine g_getf (v := .ref (a 7)) X fs_X10_32 0 rfl rfl dX10_otherEnd_41 ?_
      refine g_iload X 0 dX10_otherEnd_44 rfl ?_
      refine g_iald X 1 rfl ((8 * g) + k) (ix_nI (by omega) (by decide)) dX10_otherEnd_46 ?_
      refine g_goto (tgt := 52) X dX10_otherEnd_47 (by decide) ?_
      exact g_iretv (r := (fr ((8 * g) + k))) X hx rfl (by simp only [rOther, c_16, c_37, decide_true, decide_false, not_true_eq_false, not_false_eq_true, Bool.true_and, Bool.false_and, Bool.and_true, Bool.and_false, Bool.true_or, Bool.false_or, Bool.or_true, Bool.or_false, and_true, true_and, and_false, false_and, or_true, true_or, or_false, false_or, if_true, if_false, Bool.false_eq_true, decide_eq_true_eq]) (by rfl) dX10_otherEnd_52
  · refine g_aload_n X 1 dX10_otherEnd_19 rfl ?_
    refine g_getf (v := .ref (a 8)) X fs_X10_35 0 rfl rfl dX10_otherEnd_20 ?_
    refine g_iload X 0 dX10_otherEnd_23 rfl ?_
    refine g_iald X 2 rfl ((8 * g) + k) (ix_nI (by omega) (by decide)) dX10_otherEnd_25 ?_
    refine g_goto (tgt := 52) X dX10_otherEnd_26 (by decide) ?_
    exact g_iretv (r := (tt ((8 * g) + k))) X hx rfl (by simp only [rOther, c_16, decide_true, decide_false, not_true_eq_false, not_false_eq_true, Bool.true_and, Bool.false_and, Bool.and_true, Bool.and_false, Bool.true_or, Bool.false_or, Bool.or_true, Bool.or_false, and_true, true_and, and_false, false_and, or_true, true_or, or_false, false_or, if_true, if_false, Bool.false_eq_true, decide_eq_true_eq]) (by rfl) dX10_otherEnd_52
set_option maxHeartbeats 4000000 in
set_option maxRecDepth 100000 in
theorem c_X10_area (E : GE) (a : Nat → Nat) (s : MD0) (xo : Nat → Int32) (yo : Nat → Int32) (p : Nat) (q : Nat) (r : Nat) (hp : p < 16) (hq : q < 16) (hr : r < 16) : CT E m_X10_area [.ref (a 0), .int (nI p), .int (nI q), .int (nI r)] ([wMd E a s, wAr E (a 5) 16 xo, wAr E (a 6) 16 yo].flatten) (some (.int (rArea xo yo p q r))) ([wMd E a s, wAr E (a 5) 16 xo, wAr E (a 6) 16 yo].flatten) := by
  refine CT.intro (by decide +kernel) (Nat.le_of_ble_eq_true rfl) (fun Γ X hx => ?_)
  refine GG.lv [0, 1, 2, 3] (lv' := [(0, .ref (a 0)), (1, .int (nI p)), (2, .int (nI q)), (3, .int (nI r))]) rfl ?_
  refine g_aload_n X 0 dX10_area_0 rfl ?_
  refine g_getf (v := .ref (a 5)) X fs_X10_26 0 rfl rfl dX10_area_1 ?_
  refine g_iload_n X 2 dX10_area_4 rfl ?_
  refine g_iald X 1 rfl q (ix_nI (by omega) (by decide)) dX10_area_5 ?_
  refine g_aload_n X 0 dX10_area_6 rfl ?_
  refine g_getf (v := .ref (a 5)) X fs_X10_26 0 rfl rfl dX10_area_7 ?_
  refine g_iload_n X 1 dX10_area_10 rfl ?_
  refine g_iald X 1 rfl p (ix_nI (by omega) (by decide)) dX10_area_11 ?_
  refine g_isub X dX10_area_12 ?_
  refine g_aload_n X 0 dX10_area_13 rfl ?_
  refine g_getf (v := .ref (a 6)) X fs_X10_29 0 rfl rfl dX10_area_14 ?_
  refine g_iload_n X 3 dX10_area_17 rfl ?_
  refine g_iald X 2 rfl r (ix_nI (by omega) (by decide)) dX10_area_18 ?_
  refine g_aload_n X 0 dX10_area_19 rfl ?_
  refine g_getf (v := .ref (a 6)) X fs_X10_29 0 rfl rfl dX10_area_20 ?_
  refine g_iload_n X 1 dX10_area_23 rfl ?_
  refine g_iald X 2 rfl p (ix_nI (by omega) (by decide)) dX10_area_24 ?_
  refine g_isub X dX10_area_25 ?_
  refine g_imul X dX10_area_26 ?_
  refine g_aload_n X 0 dX10_area_27 rfl ?_
  refine g_getf (v := .ref (a 5)) X fs_X10_26 0 rfl rfl dX10_area_28 ?_
  refine g_iload_n X 3 dX10_area_31 rfl ?_
  refine g_iald X 1 rfl r (ix_nI (by omega) (by decide)) dX10_area_32 ?_
  refine g_aload_n X 0 dX10_area_33 rfl ?_
  refine g_getf (v := .ref (a 5)) X fs_X10_26 0 rfl rfl dX10_area_34 ?_
  refine g_iload_n X 1 dX10_area_37 rfl ?_
  refine g_iald X 1 rfl p (ix_nI (by omega) (by decide)) dX10_area_38 ?_
  refine g_isub X dX10_area_39 ?_
  refine g_aload_n X 0 dX10_area_40 rfl ?_
  refine g_getf (v := .ref (a 6)) X fs_X10_29 0 rfl rfl dX10_area_41 ?_
  refine g_iload_n X 2 dX10_area_44 rfl ?_
  refine g_iald X 2 rfl q (ix_nI (by omega) (by decide)) dX10_area_45 ?_
  refine g_aload_n X 0 dX10_area_46 rfl ?_
  refine g_getf (v := .ref (a 6)) X fs_X10_29 0 rfl rfl dX10_area_47 ?_
  refine g_iload_n X 1 dX10_area_50 rfl ?_
  refine g_iald X 2 rfl p (ix_nI (by omega) (by decide)) dX10_area_51 ?_
  refine g_isub X dX10_area_52 ?_
  refine g_imul X dX10_area_53 ?_
  refine g_isub X dX10_area_54 ?_
  exact g_iretv (r := ((((xo q) - (xo p)) * ((yo r) - (yo p))) - (((xo r) - (xo p)) * ((yo q) - (yo p))))) X hx rfl (by rfl) (by rfl) dX10_area_55
set_option maxHeartbeats 4000000 in
set_option maxRecDepth 100000 in
theorem c_X10_isWithin (E : GE) (a : Nat → Nat) (s : MD0) (xo : Nat → Int32) (yo : Nat → Int32) (i : Nat) (p : Nat) (q : Nat) (r : Nat) (hi : i < 16) (hp : p < 16) (hq : q < 16) (hr : r < 16) : CT E m_X10_isWithin [.ref (a 0), .int (nI i), .int (nI p), .int (nI q), .int (nI r)] ([wMd E a s, wAr E (a 5) 16 xo, wAr E (a 6) 16 yo].flatten) (some (.int (b2i (rIns xo yo i p q r)))) ([wMd E a s, wAr E (a 5) 16 xo, wAr E (a 6) 16 yo].flatten) := by
  refine CT.intro (by decide +kernel) (Nat.le_of_ble_eq_true rfl) (fun Γ X hx => ?_)
  refine GG.lv [0, 1, 2, 3, 4] (lv' := [(0, .ref (a 0)), (1, .int (nI i)), (2, .int (nI p)), (3, .int (nI q)), (4, .int (nI r))]) rfl ?_
  refine g_aload_n X 0 dX10_isWithin_0 rfl ?_
  refine g_iload_n X 1 dX10_isWithin_1 rfl ?_
  refine g_iload_n X 3 dX10_isWithin_2 rfl ?_
  refine g_iload X 4 dX10_isWithin_3 rfl ?_
  refine g_callVr (st2 := [.int (rArea xo yo i q r)]) (q0 := 0) X (c_X10_area E a s xo yo i q r (by first | assumption | omega) (by first | assumption | omega) (by first | assumption | omega)) cs_X10_177 rfl [0, 1, 2] [] 3 rfl (by decide) rfl rfl rfl rfl rfl (Nat.le_of_ble_eq_true rfl) dX10_isWithin_5 rfl ?_
  refine g_callSP (st2 := [.int (farI (rArea xo yo i q r))]) (ws' := [wMd E a s, wAr E (a 5) 16 xo, wAr E (a 6) 16 yo].flatten) (wr := [wMd E a s, wAr E (a 5) 16 xo, wAr E (a 6) 16 yo].flatten) X (c_X10_far E (rArea xo yo i q r)) cs_X10_180 rfl (List.Perm.refl _) rfl (List.Perm.refl _) rfl rfl (Nat.le_of_ble_eq_true rfl) dX10_isWithin_8 rfl ?_
  refine g_aload_n X 0 dX10_isWithin_11 rfl ?_
  refine g_iload_n X 2 dX10_isWithin_12 rfl ?_
  refine g_iload_n X 1 dX10_isWithin_13 rfl ?_
  refine g_iload X 4 dX10_isWithin_14 rfl ?_
  refine g_callVr (st2 := [.int (rArea xo yo p i r), .int (farI (rArea xo yo i q r))]) (q0 := 0) X (c_X10_area E a s xo yo p i r (by first | assumption | omega) (by first | assumption | omega) (by first | assumption | omega)) cs_X10_177 rfl [0, 1, 2] [] 3 rfl (by decide) rfl rfl rfl rfl rfl (Nat.le_of_ble_eq_true rfl) dX10_isWithin_16 rfl ?_
  refine g_callSP (st2 := [.int (farI (rArea xo yo p i r)), .int (farI (rArea xo yo i q r))]) (ws' := [wMd E a s, wAr E (a 5) 16 xo, wAr E (a 6) 16 yo].flatten) (wr := [wMd E a s, wAr E (a 5) 16 xo, wAr E (a 6) 16 yo].flatten) X (c_X10_far E (rArea xo yo p i r)) cs_X10_180 rfl (List.Perm.refl _) rfl (List.Perm.refl _) rfl rfl (Nat.le_of_ble_eq_true rfl) dX10_isWithin_19 rfl ?_
  refine g_iadd X dX10_isWithin_22 ?_
  refine g_aload_n X 0 dX10_isWithin_23 rfl ?_
  refine g_iload_n X 2 dX10_isWithin_24 rfl ?_
  refine g_iload_n X 3 dX10_isWithin_25 rfl ?_
  refine g_iload_n X 1 dX10_isWithin_26 rfl ?_
  refine g_callVr (st2 := [.int (rArea xo yo p q i), .int ((farI (rArea xo yo i q r)) + (farI (rArea xo yo p i r)))]) (q0 := 0) X (c_X10_area E a s xo yo p q i (by first | assumption | omega) (by first | assumption | omega) (by first | assumption | omega)) cs_X10_177 rfl [0, 1, 2] [] 3 rfl (by decide) rfl rfl rfl rfl rfl (Nat.le_of_ble_eq_true rfl) dX10_isWithin_27 rfl ?_
  refine g_callSP (st2 := [.int (farI (rArea xo yo p q i)), .int ((farI (rArea xo yo i q r)) + (farI (rArea xo yo p i r)))]) (ws' := [wMd E a s, wAr E (a 5) 16 xo, wAr E (a 6) 16 yo].flatten) (wr := [wMd E a s, wAr E (a 5) 16 xo, wAr E (a 6) 16 yo].flatten) X (c_X10_far E (rArea xo yo p q i)) cs_X10_180 rfl (List.Perm.refl _) rfl (List.Perm.refl _) rfl rfl (Nat.le_of_ble_eq_true rfl) dX10_isWithin_30 rfl ?_
  refine g_iadd X dX10_isWithin_33 ?_
  refine g_aload_n X 0 dX10_isWithin_34 rfl ?_
  refine g_iload_n X 2 dX10_isWithin_35 rfl ?_
  refine g_iload_n X 3 dX10_isWithin_36 rfl ?_
  refine g_iload X 4 dX10_isWithin_37 rfl ?_
  refine g_callVr (st2 := [.int (rArea xo yo p q r), .int (((farI (rArea xo yo i q r)) + (farI (rArea xo yo p i r))) + (farI (rArea xo yo p q i)))]) (q0 := 0) X (c_X10_area E a s xo yo p q r (by first | assumption | omega) (by first | assumption | omega) (by first | assumption | omega)) cs_X10_177 rfl [0, 1, 2] [] 3 rfl (by decide) rfl rfl rfl rfl rfl (Nat.le_of_ble_eq_true rfl) dX10_isWithin_39 rfl ?_
  refine g_callSP (st2 := [.int (farI (rArea xo yo p q r)), .int (((farI (rArea xo yo i q r)) + (farI (rArea xo yo p i r))) + (farI (rArea xo yo p q i)))]) (ws' := [wMd E a s, wAr E (a 5) 16 xo, wAr E (a 6) 16 yo].flatten) (wr := [wMd E a s, wAr E (a 5) 16 xo, wAr E (a 6) 16 yo].flatten) X (c_X10_far E (rArea xo yo p q r)) cs_X10_180 rfl (List.Perm.refl _) rfl (List.Perm.refl _) rfl rfl (Nat.le_of_ble_eq_true rfl) dX10_isWithin_42 rfl ?_
  refine g_icmp_ne (tgt := 52) X dX10_isWithin_45 (by decide) (fun c_45 => ?_) (fun c_45 => ?_)
  · refine g_iconst (v := (nI 0)) X dX10_isWithin_52 rfl ?_
    exact g_zretv (r := (nI 0)) X hx rfl (by simp [rIns, b2i, c_45]; try rfl) (by rfl) dX10_isWithin_53
  · refine g_iconst (v := (nI 1)) X dX10_isWithin_48 rfl ?_
    refine g_goto (tgt := 53) X dX10_isWithin_49 (by decide) ?_
    exact g_zretv (r := (nI 1)) X hx rfl (by simp [rIns, b2i, c_45]; try rfl) (by rfl) dX10_isWithin_53
set_option maxHeartbeats 4000000 in
set_option maxRecDepth 100000 in
theorem c_X10_isMatched (E : GE) (a : Nat → Nat) (s : MD0) (mt : Nat → Int32) (p : Nat) (hp : p < 16) : CT E m_X10_isMatched [.ref (a 0), .int (nI p)] ([wMd E a s, wAr E (a 17) 16 mt].flatten) (some (.int (b2i (decide (¬ mt p = -4))))) ([wMd E a s, wAr E (a 17) 16 mt].flatten) := by
  refine CT.intro (by decide +kernel) (Nat.le_of_ble_eq_true rfl) (fun Γ X hx => ?_)
  refine GG.lv [0, 1] (lv' := [(0, .ref (a 0)), (1, .int (nI p))]) rfl ?_
  refine g_aload_n X 0 dX10_isMatched_0 rfl ?_
  refine g_getf (v := .ref (a 17)) X fs_X10_56 0 rfl rfl dX10_isMatched_1 ?_
  refine g_iload_n X 1 dX10_isMatched_4 rfl ?_
  refine g_iald X 1 rfl p (ix_nI (by omega) (by decide)) dX10_isMatched_5 ?_
  refine g_bipush (v := (-4)) X dX10_isMatched_6 rfl ?_
  refine g_icmp_eq (tgt := 15) X dX10_isMatched_8 (by decide) (fun c_8 => ?_) (fun c_8 => ?_)
  · refine g_iconst (v := (nI 0)) X dX10_isMatched_15 rfl ?_
    exact g_zretv (r := (nI 0)) X hx rfl (by simp [b2i, c_8]; try rfl) (by rfl) dX10_isMatched_16
  · refine g_iconst (v := (nI 1)) X dX10_isMatched_11 rfl ?_
    refine g_goto (tgt := 16) X dX10_isMatched_12 (by decide) ?_
    exact g_zretv (r := (nI 1)) X hx rfl (by simp [b2i, c_8]; try rfl) (by rfl) dX10_isMatched_16
