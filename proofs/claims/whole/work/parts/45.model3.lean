set_option maxHeartbeats 4000000 in
set_option maxRecDepth 100000 in
theorem c_X10_meeting (E : GE) (a : Nat → Nat) (s : MD0) (mm : Nat → Nat) (ss : Nat → Nat) (kd : Nat → Int32) (xo : Nat → Int32) (yo : Nat → Int32) (fr : Nat → Int32) (tt : Nat → Int32) (z : Int32) (i : Int32) (q : Int32) (hmm : ∀ g, g < 2 → mm g ≤ 8) (hss : ∀ g, g < 2 → ss g ≤ 8) : CT E m_X10_meeting [.ref (a 0), .int z, .int i, .int q] ([wMd E a s, wAn E (a 2) 2 mm, wAn E (a 3) 2 ss, wAr E (a 4) 16 kd, wAr E (a 5) 16 xo, wAr E (a 6) 16 yo, wAr E (a 7) 16 fr, wAr E (a 8) 16 tt].flatten) (some (.int (rMeet s mm ss kd xo yo fr tt z i q))) ([wMd E a s, wAn E (a 2) 2 mm, wAn E (a 3) 2 ss, wAr E (a 4) 16 kd, wAr E (a 5) 16 xo, wAr E (a 6) 16 yo, wAr E (a 7) 16 fr, wAr E (a 8) 16 tt].flatten) := by
  refine CT.intro (by decide +kernel) (Nat.le_of_ble_eq_true rfl) (fun Γ X hx => ?_)
  refine GG.lv [0, 1, 2, 3] (lv' := [(0, .ref (a 0)), (1, .int z), (2, .int i), (3, .int q)]) rfl ?_
  have hm0 := hmm 0 (by decide)
  have hm1 := hmm 1 (by decide)
  have hs0 := hss 0 (by decide)
  have hs1 := hss 1 (by decide)
  refine g_aload_n X 0 dX10_meeting_0 rfl ?_
  refine g_iload_n X 1 dX10_meeting_1 rfl ?_
  refine g_iload_n X 2 dX10_meeting_2 rfl ?_
  refine g_callVr (st2 := [.int (b2i (hasR mm z i))]) (q0 := 0) X (c_X10_isMeeting E a s mm z i) cs_X10_92 rfl [0, 1] [2, 3, 4, 5, 6, 7] 8 rfl (by decide) rfl rfl rfl rfl rfl (Nat.le_of_ble_eq_true rfl) dX10_meeting_3 rfl ?_
  refine g_bif_eq (tgt := 18) X dX10_meeting_6 (by decide) (fun c_6 => ?_) (fun c_6 => ?_)
  · refine g_iconst (v := (-1)) X dX10_meeting_18 rfl ?_
    exact g_iretv (r := (-1)) X hx rfl (by simp [rMeet, c_6]) (by rfl) dX10_meeting_19
  · refine g_iload_n X 3 dX10_meeting_9 rfl ?_
    refine g_iconst (v := (nI 0)) X dX10_meeting_10 rfl ?_
    refine g_iconst (v := (nI 4)) X dX10_meeting_11 rfl ?_
    refine g_callSP (st2 := [.int (b2i (inR q (nI 0) (nI 4)))]) (ws' := [wMd E a s, wAn E (a 2) 2 mm, wAn E (a 3) 2 ss, wAr E (a 4) 16 kd, wAr E (a 5) 16 xo, wAr E (a 6) 16 yo, wAr E (a 7) 16 fr, wAr E (a 8) 16 tt].flatten) (wr := [wMd E a s, wAn E (a 2) 2 mm, wAn E (a 3) 2 ss, wAr E (a 4) 16 kd, wAr E (a 5) 16 xo, wAr E (a 6) 16 yo, wAr E (a 7) 16 fr, wAr E (a 8) 16 tt].flatten) X (c_X10_in E q (nI 0) (nI 4)) cs_X10_84 rfl (List.Perm.refl _) rfl (List.Perm.refl _) rfl rfl (Nat.le_of_ble_eq_true rfl) dX10_meeting_12 rfl ?_
    refine g_bif_ne (tgt := 20) X dX10_meeting_15 (by decide) (fun c_15 => ?_) (fun c_15 => ?_)
    · rcases hasR_or hmm c_6 with ⟨rfl, j, hj, rfl⟩ | ⟨rfl, j, hj, rfl⟩
      · refine g_bipush (v := (nI 8)) X dX10_meeting_20 rfl ?_
        refine g_iload_n X 1 dX10_meeting_22 rfl ?_
        refine g_imulN X dX10_meeting_23 ?_
        refine g_iload_n X 2 dX10_meeting_24 rfl ?_
        refine g_iaddN X dX10_meeting_25 ?_
        rw [show 8 * 0 + j = j from Nat.zero_add _]
        refine g_istore (lv' := [(4, .int (nI j)), (0, .ref (a 0)), (1, .int (nI 0)), (2, .int (nI j)), (3, .int q)]) X dX10_meeting_26 (by decide) rfl ?_
        refine g_iload_n X 4 dX10_meeting_28 rfl ?_
        by_cases w_29_0 : q = nI 0
        · subst w_29_0
          refine g_tsIn (tgt := 60) X 0 dX10_meeting_29 rfl (by decide) (by decide) rfl (by decide) ?_
          refine g_aload_n X 1 dX10_meeting_60 rfl ?_
          refine g_getf (v := .ref (a 4)) X fs_X10_23 0 rfl rfl dX10_meeting_61 ?_
          refine g_iload X 0 dX10_meeting_64 rfl ?_
          refine g_iald X 3 rfl j (ix_nI (by omega) (by decide)) dX10_meeting_66 ?_
          exact g_iretv (r := (kd j)) X hx rfl (by simp [rMeet, rIx, mmOf_0, mmOf_1, nI_clamp (show 0 < 2 ^ 31 by decide), nI_clamp (show 1 < 2 ^ 31 by decide), nI_clamp (show j < 2 ^ 31 by omega), nI_eq, c_6, c_15]) (by rfl) dX10_meeting_67
        by_cases w_29_1 : q = nI 1
        · subst w_29_1
          refine g_tsIn (tgt := 68) X 1 dX10_meeting_29 rfl (by decide) (by decide) rfl (by decide) ?_
          refine g_aload_n X 1 dX10_meeting_68 rfl ?_
          refine g_getf (v := .ref (a 5)) X fs_X10_26 0 rfl rfl dX10_meeting_69 ?_
          refine g_iload X 0 dX10_meeting_72 rfl ?_
          refine g_iald X 4 rfl j (ix_nI (by omega) (by decide)) dX10_meeting_74 ?_
          exact g_iretv (r := (xo j)) X hx rfl (by simp [rMeet, rIx, mmOf_0, mmOf_1, nI_clamp (show 0 < 2 ^ 31 by decide), nI_clamp (show 1 < 2 ^ 31 by decide), nI_clamp (show j < 2 ^ 31 by omega), nI_eq, c_6, c_15]) (by rfl) dX10_meeting_75
        by_cases w_29_2 : q = nI 2
        · subst w_29_2
          refine g_tsIn (tgt := 76) X 2 dX10_meeting_29 rfl (by decide) (by decide) rfl (by decide) ?_
          refine g_aload_n X 1 dX10_meeting_76 rfl ?_
          refine g_getf (v := .ref (a 6)) X fs_X10_29 0 rfl rfl dX10_meeting_77 ?_
          refine g_iload X 0 dX10_meeting_80 rfl ?_
          refine g_iald X 5 rfl j (ix_nI (by omega) (by decide)) dX10_meeting_82 ?_
          exact g_iretv (r := (yo j)) X hx rfl (by simp [rMeet, rIx, mmOf_0, mmOf_1, nI_clamp (show 0 < 2 ^ 31 by decide), nI_clamp (show 1 < 2 ^ 31 by decide), nI_clamp (show j < 2 ^ 31 by omega), nI_eq, c_6, c_15]) (by rfl) dX10_meeting_83
        by_cases w_29_3 : q = nI 3
        · subst w_29_3
          refine g_tsIn (tgt := 84) X 3 dX10_meeting_29 rfl (by decide) (by decide) rfl (by decide) ?_
          refine g_aload_n X 1 dX10_meeting_84 rfl ?_
          refine g_iload X 0 dX10_meeting_85 rfl ?_
          refine g_callVr (st2 := [.int (rNear (dR s) (kd j))]) (q0 := 0) X (c_X10_nearOf E a s kd j (by first | assumption | omega)) cs_X10_96 rfl [0, 3] [1, 2, 4, 5, 6, 7] 8 rfl (by decide) rfl rfl rfl rfl rfl (Nat.le_of_ble_eq_true rfl) dX10_meeting_87 rfl ?_
          exact g_iretv (r := (rNear (dR s) (kd j))) X hx rfl (by simp [rMeet, rIx, mmOf_0, mmOf_1, nI_clamp (show 0 < 2 ^ 31 by decide), nI_clamp (show 1 < 2 ^ 31 by decide), nI_clamp (show j < 2 ^ 31 by omega), nI_eq, c_6, c_15]) (by rfl) dX10_meeting_90
        refine g_tsOut (tgt := 91) X dX10_meeting_29 (by have t0 := lv_neT w_29_0 (a := 0) rfl; have t1 := lv_neT w_29_1 (a := 1) rfl; have t2 := lv_neT w_29_2 (a := 2) rfl; have t3 := lv_neT w_29_3 (a := 3) rfl; omega) (by decide) ?_
        refine g_aload_n X 1 dX10_meeting_91 rfl ?_
        refine g_iload_n X 2 dX10_meeting_92 rfl ?_
        refine g_iload_n X 3 dX10_meeting_93 rfl ?_
        refine g_callVr (st2 := [.int (nI (cntB (rAtP fr tt 0 (nI j)) (ss 0)))]) (q0 := 0) X (c_X10_streetsAt E a s ss fr tt 0 (nI j) (by first | assumption | omega) (by first | assumption | omega)) cs_X10_100 rfl [0, 2, 6, 7] [1, 3, 4, 5] 8 rfl (by decide) rfl rfl rfl rfl rfl (Nat.le_of_ble_eq_true rfl) dX10_meeting_94 rfl ?_
        exact g_iretv (r := (nI (cntB (rAtP fr tt 0 (nI j)) (ss 0)))) X hx rfl (by simp [rMeet, rIx, mmOf_0, mmOf_1, nI_clamp (show 0 < 2 ^ 31 by decide), nI_clamp (show 1 < 2 ^ 31 by decide), nI_clamp (show j < 2 ^ 31 by omega), nI_eq, c_6, c_15, w_29_0, w_29_1, w_29_2, w_29_3]) (by rfl) dX10_meeting_97
      · refine g_bipush (v := (nI 8)) X dX10_meeting_20 rfl ?_
        refine g_iload_n X 1 dX10_meeting_22 rfl ?_
        refine g_imulN X dX10_meeting_23 ?_
        refine g_iload_n X 2 dX10_meeting_24 rfl ?_
        refine g_iaddN X dX10_meeting_25 ?_
        refine g_istore (lv' := [(4, .int (nI (8 + j))), (0, .ref (a 0)), (1, .int (nI 1)), (2, .int (nI j)), (3, .int q)]) X dX10_meeting_26 (by decide) rfl ?_
        refine g_iload_n X 4 dX10_meeting_28 rfl ?_
        by_cases w_29_0 : q = nI 0
        · subst w_29_0
          refine g_tsIn (tgt := 60) X 0 dX10_meeting_29 rfl (by decide) (by decide) rfl (by decide) ?_
          refine g_aload_n X 1 dX10_meeting_60 rfl ?_
          refine g_getf (v := .ref (a 4)) X fs_X10_23 0 rfl rfl dX10_meeting_61 ?_
          refine g_iload X 0 dX10_meeting_64 rfl ?_
          refine g_iald X 3 rfl (8 + j) (ix_nI (by omega) (by decide)) dX10_meeting_66 ?_
          exact g_iretv (r := (kd (8 + j))) X hx rfl (by simp [rMeet, rIx, mmOf_0, mmOf_1, nI_clamp (show 0 < 2 ^ 31 by decide), nI_clamp (show 1 < 2 ^ 31 by decide), nI_clamp (show j < 2 ^ 31 by omega), nI_eq, c_6, c_15]) (by rfl) dX10_meeting_67
        by_cases w_29_1 : q = nI 1
        · subst w_29_1
          refine g_tsIn (tgt := 68) X 1 dX10_meeting_29 rfl (by decide) (by decide) rfl (by decide) ?_
          refine g_aload_n X 1 dX10_meeting_68 rfl ?_
          refine g_getf (v := .ref (a 5)) X fs_X10_26 0 rfl rfl dX10_meeting_69 ?_
          refine g_iload X 0 dX10_meeting_72 rfl ?_
          refine g_iald X 4 rfl (8 + j) (ix_nI (by omega) (by decide)) dX10_meeting_74 ?_
          exact g_iretv (r := (xo (8 + j))) X hx rfl (by simp [rMeet, rIx, mmOf_0, mmOf_1, nI_clamp (show 0 < 2 ^ 31 by decide), nI_clamp (show 1 < 2 ^ 31 by decide), nI_clamp (show j < 2 ^ 31 by omega), nI_eq, c_6, c_15]) (by rfl) dX10_meeting_75
        by_cases w_29_2 : q = nI 2
        · subst w_29_2
          refine g_tsIn (tgt := 76) X 2 dX10_meeting_29 rfl (by decide) (by decide) rfl (by decide) ?_
          refine g_aload_n X 1 dX10_meeting_76 rfl ?_
          refine g_getf (v := .ref (a 6)) X fs_X10_29 0 rfl rfl dX10_meeting_77 ?_
          refine g_iload X 0 dX10_meeting_80 rfl ?_
          refine g_iald X 5 rfl (8 + j) (ix_nI (by omega) (by decide)) dX10_meeting_82 ?_
          exact g_iretv (r := (yo (8 + j))) X hx rfl (by simp [rMeet, rIx, mmOf_0, mmOf_1, nI_clamp (show 0 < 2 ^ 31 by decide), nI_clamp (show 1 < 2 ^ 31 by decide), nI_clamp (show j < 2 ^ 31 by omega), nI_eq, c_6, c_15]) (by rfl) dX10_meeting_83
        by_cases w_29_3 : q = nI 3
        · subst w_29_3
          refine g_tsIn (tgt := 84) X 3 dX10_meeting_29 rfl (by decide) (by decide) rfl (by decide) ?_
          refine g_aload_n X 1 dX10_meeting_84 rfl ?_
          refine g_iload X 0 dX10_meeting_85 rfl ?_
          refine g_callVr (st2 := [.int (rNear (dR s) (kd (8 + j)))]) (q0 := 0) X (c_X10_nearOf E a s kd (8 + j) (by first | assumption | omega)) cs_X10_96 rfl [0, 3] [1, 2, 4, 5, 6, 7] 8 rfl (by decide) rfl rfl rfl rfl rfl (Nat.le_of_ble_eq_true rfl) dX10_meeting_87 rfl ?_
          exact g_iretv (r := (rNear (dR s) (kd (8 + j)))) X hx rfl (by simp [rMeet, rIx, mmOf_0, mmOf_1, nI_clamp (show 0 < 2 ^ 31 by decide), nI_clamp (show 1 < 2 ^ 31 by decide), nI_clamp (show j < 2 ^ 31 by omega), nI_eq, c_6, c_15]) (by rfl) dX10_meeting_90
        refine g_tsOut (tgt := 91) X dX10_meeting_29 (by have t0 := lv_neT w_29_0 (a := 0) rfl; have t1 := lv_neT w_29_1 (a := 1) rfl; have t2 := lv_neT w_29_2 (a := 2) rfl; have t3 := lv_neT w_29_3 (a := 3) rfl; omega) (by decide) ?_
        refine g_aload_n X 1 dX10_meeting_91 rfl ?_
        refine g_iload_n X 2 dX10_meeting_92 rfl ?_
        refine g_iload_n X 3 dX10_meeting_93 rfl ?_
        refine g_callVr (st2 := [.int (nI (cntB (rAtP fr tt 1 (nI j)) (ss 1)))]) (q0 := 0) X (c_X10_streetsAt E a s ss fr tt 1 (nI j) (by first | assumption | omega) (by first | assumption | omega)) cs_X10_100 rfl [0, 2, 6, 7] [1, 3, 4, 5] 8 rfl (by decide) rfl rfl rfl rfl rfl (Nat.le_of_ble_eq_true rfl) dX10_meeting_94 rfl ?_
        exact g_iretv (r := (nI (cntB (rAtP fr tt 1 (nI j)) (ss 1)))) X hx rfl (by simp [rMeet, rIx, mmOf_0, mmOf_1, nI_clamp (show 0 < 2 ^ 31 by decide), nI_clamp (show 1 < 2 ^ 31 by decide), nI_clamp (show j < 2 ^ 31 by omega), nI_eq, c_6, c_15, w_29_0, w_29_1, w_29_2, w_29_3]) (by rfl) dX10_meeting_97
    · refine g_iconst (v := (-1)) X dX10_meeting_18 rfl ?_
      exact g_iretv (r := (-1)) X hx rfl (by simp [rMeet, c_6, c_15]) (by rfl) dX10_meeting_19
set_option maxHeartbeats 4000000 in
set_option maxRecDepth 100000 in
theorem c_X10_street (E : GE) (a : Nat → Nat) (s : MD0) (mm : Nat → Nat) (ss : Nat → Nat) (fr : Nat → Int32) (tt : Nat → Int32) (nm : Nat → Int32) (z : Int32) (i : Int32) (q : Int32) (hmm : ∀ g, g < 2 → mm g ≤ 8) (hss : ∀ g, g < 2 → ss g ≤ 8) : CT E m_X10_street [.ref (a 0), .int z, .int i, .int q] ([wMd E a s, wAn E (a 2) 2 mm, wAn E (a 3) 2 ss, wAr E (a 7) 16 fr, wAr E (a 8) 16 tt, wAr E (a 9) 16 nm].flatten) (some (.int (rStr ss fr tt nm z i q))) ([wMd E a s, wAn E (a 2) 2 mm, wAn E (a 3) 2 ss, wAr E (a 7) 16 fr, wAr E (a 8) 16 tt, wAr E (a 9) 16 nm].flatten) := by
  refine CT.intro (by decide +kernel) (Nat.le_of_ble_eq_true rfl) (fun Γ X hx => ?_)
  refine GG.lv [0, 1, 2, 3] (lv' := [(0, .ref (a 0)), (1, .int z), (2, .int i), (3, .int q)]) rfl ?_
  have hm0 := hmm 0 (by decide)
  have hm1 := hmm 1 (by decide)
  have hs0 := hss 0 (by decide)
  have hs1 := hss 1 (by decide)
  refine g_aload_n X 0 dX10_street_0 rfl ?_
  refine g_iload_n X 1 dX10_street_1 rfl ?_
  refine g_iload_n X 2 dX10_street_2 rfl ?_
  refine g_callVr (st2 := [.int (b2i (hasR ss z i))]) (q0 := 0) X (c_X10_isStreet E a s ss z i) cs_X10_104 rfl [0, 2] [1, 3, 4, 5] 6 rfl (by decide) rfl rfl rfl rfl rfl (Nat.le_of_ble_eq_true rfl) dX10_street_3 rfl ?_
  refine g_bif_eq (tgt := 18) X dX10_street_6 (by decide) (fun c_6 => ?_) (fun c_6 => ?_)
  · refine g_iconst (v := (-1)) X dX10_street_18 rfl ?_
    exact g_iretv (r := (-1)) X hx rfl (by simp [rStr, c_6]) (by rfl) dX10_street_19
  · refine g_iload_n X 3 dX10_street_9 rfl ?_
    refine g_iconst (v := (nI 0)) X dX10_street_10 rfl ?_
    refine g_iconst (v := (nI 2)) X dX10_street_11 rfl ?_
    refine g_callSP (st2 := [.int (b2i (inR q (nI 0) (nI 2)))]) (ws' := [wMd E a s, wAn E (a 2) 2 mm, wAn E (a 3) 2 ss, wAr E (a 7) 16 fr, wAr E (a 8) 16 tt, wAr E (a 9) 16 nm].flatten) (wr := [wMd E a s, wAn E (a 2) 2 mm, wAn E (a 3) 2 ss, wAr E (a 7) 16 fr, wAr E (a 8) 16 tt, wAr E (a 9) 16 nm].flatten) X (c_X10_in E q (nI 0) (nI 2)) cs_X10_84 rfl (List.Perm.refl _) rfl (List.Perm.refl _) rfl rfl (Nat.le_of_ble_eq_true rfl) dX10_street_12 rfl ?_
    refine g_bif_ne (tgt := 20) X dX10_street_15 (by decide) (fun c_15 => ?_) (fun c_15 => ?_)
    · rcases hasR_or hss c_6 with ⟨rfl, j, hj, rfl⟩ | ⟨rfl, j, hj, rfl⟩
      · refine g_bipush (v := (nI 8)) X dX10_street_20 rfl ?_
        refine g_iload_n X 1 dX10_street_22 rfl ?_
        refine g_imulN X dX10_street_23 ?_
        refine g_iload_n X 2 dX10_street_24 rfl ?_
        refine g_iaddN X dX10_street_25 ?_
        rw [show 8 * 0 + j = j from Nat.zero_add _]
        refine g_istore (lv' := [(4, .int (nI j)), (0, .ref (a 0)), (1, .int (nI 0)), (2, .int (nI j)), (3, .int q)]) X dX10_street_26 (by decide) rfl ?_
        refine g_iload_n X 4 dX10_street_28 rfl ?_
        refine g_if_ne (tgt := 42) X dX10_street_29 (by decide) (fun c_29 => ?_) (fun c_29 => ?_)
        · refine g_iload_n X 4 dX10_street_42 rfl ?_
          refine g_iconst (v := (nI 1)) X dX10_street_43 rfl ?_
          refine g_icmp_ne (tgt := 57) X dX10_street_44 (by decide) (fun c_44 => ?_) (fun c_44 => ?_)
          · refine g_aload_n X 1 dX10_street_57 rfl ?_
            refine g_getf (v := .ref (a 9)) X fs_X10_38 0 rfl rfl dX10_street_58 ?_
            refine g_iload X 0 dX10_street_61 rfl ?_
            refine g_iald X 5 rfl j (ix_nI (by omega) (by decide)) dX10_street_63 ?_
            exact g_iretv (r := (nm j)) X hx rfl (by simp [rStr, (by decide : ¬ nI 1 = 0), rIx, mmOf_0, mmOf_1, nI_clamp (show 0 < 2 ^ 31 by decide), nI_clamp (show 1 < 2 ^ 31 by decide), nI_clamp (show j < 2 ^ 31 by omega), nI_eq, c_6, c_15, c_29, c_44]) (by rfl) dX10_street_64
          · subst c_44
            refine g_aload_n X 1 dX10_street_47 rfl ?_
            refine g_getf (v := .ref (a 8)) X fs_X10_35 0 rfl rfl dX10_street_48 ?_
            refine g_iload X 0 dX10_street_51 rfl ?_
            refine g_iald X 4 rfl j (ix_nI (by omega) (by decide)) dX10_street_53 ?_
            refine g_goto (tgt := 64) X dX10_street_54 (by decide) ?_
            exact g_iretv (r := (tt j)) X hx rfl (by simp [rStr, (by decide : ¬ nI 1 = 0), rIx, mmOf_0, mmOf_1, nI_clamp (show 0 < 2 ^ 31 by decide), nI_clamp (show 1 < 2 ^ 31 by decide), nI_clamp (show j < 2 ^ 31 by omega), nI_eq, c_6, c_15]) (by rfl) dX10_street_64
        · subst c_29
          refine g_aload_n X 1 dX10_street_32 rfl ?_
          refine g_getf (v := .ref (a 7)) X fs_X10_32 0 rfl rfl dX10_street_33 ?_
          refine g_iload X 0 dX10_street_36 rfl ?_
          refine g_iald X 3 rfl j (ix_nI (by omega) (by decide)) dX10_street_38 ?_
          refine g_goto (tgt := 64) X dX10_street_39 (by decide) ?_
          exact g_iretv (r := (fr j)) X hx rfl (by simp [rStr, (by decide : ¬ nI 1 = 0), rIx, mmOf_0, mmOf_1, nI_clamp (show 0 < 2 ^ 31 by decide), nI_clamp (show 1 < 2 ^ 31 by decide), nI_clamp (show j < 2 ^ 31 by omega), nI_eq, c_6, c_15]) (by rfl) dX10_street_64
      · refine g_bipush (v := (nI 8)) X dX10_street_20 rfl ?_
        refine g_iload_n X 1 dX10_street_22 rfl ?_
        refine g_imulN X dX10_street_23 ?_
        refine g_iload_n X 2 dX10_street_24 rfl ?_
        refine g_iaddN X dX10_street_25 ?_
        refine g_istore (lv' := [(4, .int (nI (8 + j))), (0, .ref (a 0)), (1, .int (nI 1)), (2, .int (nI j)), (3, .int q)]) X dX10_street_26 (by decide) rfl ?_
        refine g_iload_n X 4 dX10_street_28 rfl ?_
        refine g_if_ne (tgt := 42) X dX10_street_29 (by decide) (fun c_29 => ?_) (fun c_29 => ?_)
        · refine g_iload_n X 4 dX10_street_42 rfl ?_
          refine g_iconst (v := (nI 1)) X dX10_street_43 rfl ?_
          refine g_icmp_ne (tgt := 57) X dX10_street_44 (by decide) (fun c_44 => ?_) (fun c_44 => ?_)
          · refine g_aload_n X 1 dX10_street_57 rfl ?_
            refine g_getf (v := .ref (a 9)) X fs_X10_38 0 rfl rfl dX10_street_58 ?_
            refine g_iload X 0 dX10_street_61 rfl ?_
            refine g_iald X 5 rfl (8 + j) (ix_nI (by omega) (by decide)) dX10_street_63 ?_
            exact g_iretv (r := (nm (8 + j))) X hx rfl (by simp [rStr, (by decide : ¬ nI 1 = 0), rIx, mmOf_0, mmOf_1, nI_clamp (show 0 < 2 ^ 31 by decide), nI_clamp (show 1 < 2 ^ 31 by decide), nI_clamp (show j < 2 ^ 31 by omega), nI_eq, c_6, c_15, c_29, c_44]) (by rfl) dX10_street_64
          · subst c_44
            refine g_aload_n X 1 dX10_street_47 rfl ?_
            refine g_getf (v := .ref (a 8)) X fs_X10_35 0 rfl rfl dX10_street_48 ?_
            refine g_iload X 0 dX10_street_51 rfl ?_
            refine g_iald X 4 rfl (8 + j) (ix_nI (by omega) (by decide)) dX10_street_53 ?_
            refine g_goto (tgt := 64) X dX10_street_54 (by decide) ?_
            exact g_iretv (r := (tt (8 + j))) X hx rfl (by simp [rStr, (by decide : ¬ nI 1 = 0), rIx, mmOf_0, mmOf_1, nI_clamp (show 0 < 2 ^ 31 by decide), nI_clamp (show 1 < 2 ^ 31 by decide), nI_clamp (show j < 2 ^ 31 by omega), nI_eq, c_6, c_15]) (by rfl) dX10_street_64
        · subst c_29
          refine g_aload_n X 1 dX10_street_32 rfl ?_
          refine g_getf (v := .ref (a 7)) X fs_X10_32 0 rfl rfl dX10_street_33 ?_
          refine g_iload X 0 dX10_street_36 rfl ?_
          refine g_iald X 3 rfl (8 + j) (ix_nI (by omega) (by decide)) dX10_street_38 ?_
          refine g_goto (tgt := 64) X dX10_street_39 (by decide) ?_
          exact g_iretv (r := (fr (8 + j))) X hx rfl (by simp [rStr, (by decide : ¬ nI 1 = 0), rIx, mmOf_0, mmOf_1, nI_clamp (show 0 < 2 ^ 31 by decide), nI_clamp (show 1 < 2 ^ 31 by decide), nI_clamp (show j < 2 ^ 31 by omega), nI_eq, c_6, c_15]) (by rfl) dX10_street_64
    · refine g_iconst (v := (-1)) X dX10_street_18 rfl ?_
      exact g_iretv (r := (-1)) X hx rfl (by simp [rStr, c_6, c_15]) (by rfl) dX10_street_19
set_option maxHeartbeats 4000000 in
set_option maxRecDepth 100000 in
theorem c_X10_move (E : GE) (a : Nat → Nat) (s : MD0) (mm : Nat → Nat) (ss : Nat → Nat) (kd : Nat → Int32) (xo : Nat → Int32) (yo : Nat → Int32) (fr : Nat → Int32) (tt : Nat → Int32) (nm : Nat → Int32) (ah : Nat → Int32) (z : Int32) (i : Int32) (x : Int32) (y : Int32) (hmm : ∀ g, g < 2 → mm g ≤ 8) (hss : ∀ g, g < 2 → ss g ≤ 8) (hU : dU s ≤ 8) : CT E m_X10_move [.ref (a 0), .int z, .int i, .int x, .int y] ([wMd E a s, wAn E (a 2) 2 mm, wAn E (a 3) 2 ss, wAr E (a 4) 16 kd, wAr E (a 5) 16 xo, wAr E (a 6) 16 yo, wAr E (a 7) 16 fr, wAr E (a 8) 16 tt, wAr E (a 9) 16 nm, wAr E (a 10) 816 ah].flatten) (some (.int (rMvV mm xo yo z i x y))) ([wMd E a (if rMvB mm xo yo z i x y then ntS s else s), wAn E (a 2) 2 mm, wAn E (a 3) 2 ss, wAr E (a 4) 16 kd, wAr E (a 5) 16 (if rMvB mm xo yo z i x y then upd xo (rIx z i) x else xo), wAr E (a 6) 16 (if rMvB mm xo yo z i x y then upd yo (rIx z i) y else yo), wAr E (a 7) 16 fr, wAr E (a 8) 16 tt, wAr E (a 9) 16 nm, wAr E (a 10) 816 (if rMvB mm xo yo z i x y then ntA s mm ss kd xo yo fr tt nm ah else ah)].flatten) := by
  refine CT.intro (by decide +kernel) (Nat.le_of_ble_eq_true rfl) (fun Γ X hx => ?_)
  refine GG.lv [0, 1, 2, 3, 4] (lv' := [(0, .ref (a 0)), (1, .int z), (2, .int i), (3, .int x), (4, .int y)]) rfl ?_
  have hm0 := hmm 0 (by decide)
  have hm1 := hmm 1 (by decide)
  have hs0 := hss 0 (by decide)
  have hs1 := hss 1 (by decide)
  refine g_aload_n X 0 dX10_move_0 rfl ?_
  refine g_iload_n X 1 dX10_move_1 rfl ?_
  refine g_iload_n X 2 dX10_move_2 rfl ?_
  refine g_callVr (st2 := [.int (b2i (hasR mm z i))]) (q0 := 0) X (c_X10_isMeeting E a s mm z i) cs_X10_92 rfl [0, 1] [2, 3, 4, 5, 6, 7, 8, 9] 10 rfl (by decide) rfl rfl rfl rfl rfl (Nat.le_of_ble_eq_true rfl) dX10_move_3 rfl ?_
  refine g_bif_eq (tgt := 30) X dX10_move_6 (by decide) (fun c_6 => ?_) (fun c_6 => ?_)
  · refine g_iconst (v := (-1)) X dX10_move_30 rfl ?_
    exact g_iretv (r := (-1)) X hx rfl (by simp [rMvV, rMvB, rMvA, c_6]) (by simp [rMvB, rMvA, c_6]) dX10_move_31
  · refine g_iload_n X 3 dX10_move_9 rfl ?_
    refine g_iconst (v := (nI 0)) X dX10_move_10 rfl ?_
    refine g_bipush (v := (nI 60)) X dX10_move_11 rfl ?_
    refine g_callSP (st2 := [.int (b2i (inR x (nI 0) (nI 60)))]) (ws' := [wMd E a s, wAn E (a 2) 2 mm, wAn E (a 3) 2 ss, wAr E (a 4) 16 kd, wAr E (a 5) 16 xo, wAr E (a 6) 16 yo, wAr E (a 7) 16 fr, wAr E (a 8) 16 tt, wAr E (a 9) 16 nm, wAr E (a 10) 816 ah].flatten) (wr := [wMd E a s, wAn E (a 2) 2 mm, wAn E (a 3) 2 ss, wAr E (a 4) 16 kd, wAr E (a 5) 16 xo, wAr E (a 6) 16 yo, wAr E (a 7) 16 fr, wAr E (a 8) 16 tt, wAr E (a 9) 16 nm, wAr E (a 10) 816 ah].flatten) X (c_X10_in E x (nI 0) (nI 60)) cs_X10_84 rfl (List.Perm.refl _) rfl (List.Perm.refl _) rfl rfl (Nat.le_of_ble_eq_true rfl) dX10_move_13 rfl ?_
    refine g_bif_eq (tgt := 30) X dX10_move_16 (by decide) (fun c_16 => ?_) (fun c_16 => ?_)
    · refine g_iconst (v := (-1)) X dX10_move_30 rfl ?_
      exact g_iretv (r := (-1)) X hx rfl (by simp [rMvV, rMvB, rMvA, c_6, c_16]) (by simp [rMvB, rMvA, c_6, c_16]) dX10_move_31
    · refine g_iload X 4 dX10_move_19 rfl ?_
      refine g_iconst (v := (nI 0)) X dX10_move_21 rfl ?_
      refine g_bipush (v := (nI 60)) X dX10_move_22 rfl ?_
      refine g_callSP (st2 := [.int (b2i (inR y (nI 0) (nI 60)))]) (ws' := [wMd E a s, wAn E (a 2) 2 mm, wAn E (a 3) 2 ss, wAr E (a 4) 16 kd, wAr E (a 5) 16 xo, wAr E (a 6) 16 yo, wAr E (a 7) 16 fr, wAr E (a 8) 16 tt, wAr E (a 9) 16 nm, wAr E (a 10) 816 ah].flatten) (wr := [wMd E a s, wAn E (a 2) 2 mm, wAn E (a 3) 2 ss, wAr E (a 4) 16 kd, wAr E (a 5) 16 xo, wAr E (a 6) 16 yo, wAr E (a 7) 16 fr, wAr E (a 8) 16 tt, wAr E (a 9) 16 nm, wAr E (a 10) 816 ah].flatten) X (c_X10_in E y (nI 0) (nI 60)) cs_X10_84 rfl (List.Perm.refl _) rfl (List.Perm.refl _) rfl rfl (Nat.le_of_ble_eq_true rfl) dX10_move_24 rfl ?_
      refine g_bif_ne (tgt := 32) X dX10_move_27 (by decide) (fun c_27 => ?_) (fun c_27 => ?_)
      · rcases hasR_or hmm c_6 with ⟨rfl, j, hj, rfl⟩ | ⟨rfl, j, hj, rfl⟩
        · refine g_bipush (v := (nI 8)) X dX10_move_32 rfl ?_
          refine g_iload_n X 1 dX10_move_34 rfl ?_
          refine g_imulN X dX10_move_35 ?_
          refine g_iload_n X 2 dX10_move_36 rfl ?_
          refine g_iaddN X dX10_move_37 ?_
          rw [show 8 * 0 + j = j from Nat.zero_add _]
          refine g_istore (lv' := [(5, .int (nI j)), (0, .ref (a 0)), (1, .int (nI 0)), (2, .int (nI j)), (3, .int x), (4, .int y)]) X dX10_move_38 (by decide) rfl ?_
          refine g_aload_n X 1 dX10_move_40 rfl ?_
          refine g_getf (v := .ref (a 5)) X fs_X10_26 0 rfl rfl dX10_move_41 ?_
          refine g_iload X 0 dX10_move_44 rfl ?_
          refine g_iald X 4 rfl j (ix_nI (by omega) (by decide)) dX10_move_46 ?_
          refine g_iload_n X 4 dX10_move_47 rfl ?_
          refine g_icmp_ne (tgt := 66) X dX10_move_48 (by decide) (fun c_48 => ?_) (fun c_48 => ?_)
          · refine g_aload_n X 1 dX10_move_66 rfl ?_
            refine g_callV (st2 := []) (S' := [wMd E a (dR s, dN0 s, ntU (dU s), dK s, dP s, dX s, dY s, dS s, dA s, dQ s), wAn E (a 2) 2 mm, wAn E (a 3) 2 ss, wAr E (a 4) 16 kd, wAr E (a 5) 16 xo, wAr E (a 6) 16 yo, wAr E (a 7) 16 fr, wAr E (a 8) 16 tt, wAr E (a 9) 16 nm, wAr E (a 10) 816 (lyF (snp (dR s, dN0 s, mm, ss, kd, xo, yo, fr, tt, nm)) (ntF ah (dU s)) (ntQ (dU s)))]) (q0 := 0) X (c_X10_notes E a s mm ss kd xo yo fr tt nm ah (by first | assumption | omega)) cs_X10_114 rfl [0, 1, 2, 3, 4, 5, 6, 7, 8, 9] [] 10 rfl rfl (by decide) [] rfl rfl rfl rfl (by simp only [List.map_cons, List.map_nil, fsAn, fsAr, fsMd]) rfl rfl rfl rfl (Nat.le_of_ble_eq_true rfl) dX10_move_67 rfl ?_
            refine g_aload_n X 1 dX10_move_70 rfl ?_
            refine g_getf (v := .ref (a 5)) X fs_X10_26 0 rfl rfl dX10_move_71 ?_
            refine g_iload X 0 dX10_move_74 rfl ?_
            refine g_iload_n X 4 dX10_move_76 rfl ?_
            refine g_iast (ws' := [wMd E a (dR s, dN0 s, ntU (dU s), dK s, dP s, dX s, dY s, dS s, dA s, dQ s), wAn E (a 2) 2 mm, wAn E (a 3) 2 ss, wAr E (a 4) 16 kd, wAr E (a 5) 16 (upd xo j x), wAr E (a 6) 16 yo, wAr E (a 7) 16 fr, wAr E (a 8) 16 tt, wAr E (a 9) 16 nm, wAr E (a 10) 816 (lyF (snp (dR s, dN0 s, mm, ss, kd, xo, yo, fr, tt, nm)) (ntF ah (dU s)) (ntQ (dU s)))].flatten) X 4 rfl j (ix_nI (by omega) (by decide)) rfl dX10_move_77 ?_
            refine g_aload_n X 1 dX10_move_78 rfl ?_
            refine g_getf (v := .ref (a 6)) X fs_X10_29 0 rfl rfl dX10_move_79 ?_
            refine g_iload X 0 dX10_move_82 rfl ?_
            refine g_iload X 5 dX10_move_84 rfl ?_
            refine g_iast (ws' := [wMd E a (dR s, dN0 s, ntU (dU s), dK s, dP s, dX s, dY s, dS s, dA s, dQ s), wAn E (a 2) 2 mm, wAn E (a 3) 2 ss, wAr E (a 4) 16 kd, wAr E (a 5) 16 (upd xo j x), wAr E (a 6) 16 (upd yo j y), wAr E (a 7) 16 fr, wAr E (a 8) 16 tt, wAr E (a 9) 16 nm, wAr E (a 10) 816 (lyF (snp (dR s, dN0 s, mm, ss, kd, xo, yo, fr, tt, nm)) (ntF ah (dU s)) (ntQ (dU s)))].flatten) X 5 rfl j (ix_nI (by omega) (by decide)) rfl dX10_move_86 ?_
            refine g_iconst (v := (nI 1)) X dX10_move_87 rfl ?_
            exact g_iretv (r := (nI 1)) X hx rfl (by simp [rMvV, rMvB, rMvA, rIx, mmOf_0, mmOf_1, nI_clamp (show 0 < 2 ^ 31 by decide), nI_clamp (show 1 < 2 ^ 31 by decide), nI_clamp (show j < 2 ^ 31 by omega), nI_eq, c_6, c_16, c_27, c_48]) (by simp [rMvB, rMvA, ntS, ntA, rIx, mmOf_0, mmOf_1, nI_clamp (show 0 < 2 ^ 31 by decide), nI_clamp (show 1 < 2 ^ 31 by decide), nI_clamp (show j < 2 ^ 31 by omega), nI_eq, c_6, c_16, c_27, c_48]) dX10_move_88
          · refine g_aload_n X 1 dX10_move_51 rfl ?_
            refine g_getf (v := .ref (a 6)) X fs_X10_29 0 rfl rfl dX10_move_52 ?_
            refine g_iload X 0 dX10_move_55 rfl ?_
            refine g_iald X 5 rfl j (ix_nI (by omega) (by decide)) dX10_move_57 ?_
            refine g_iload X 5 dX10_move_58 rfl ?_
            refine g_icmp_ne (tgt := 66) X dX10_move_60 (by decide) (fun c_60 => ?_) (fun c_60 => ?_)
            · refine g_aload_n X 1 dX10_move_66 rfl ?_
              refine g_callV (st2 := []) (S' := [wMd E a (dR s, dN0 s, ntU (dU s), dK s, dP s, dX s, dY s, dS s, dA s, dQ s), wAn E (a 2) 2 mm, wAn E (a 3) 2 ss, wAr E (a 4) 16 kd, wAr E (a 5) 16 xo, wAr E (a 6) 16 yo, wAr E (a 7) 16 fr, wAr E (a 8) 16 tt, wAr E (a 9) 16 nm, wAr E (a 10) 816 (lyF (snp (dR s, dN0 s, mm, ss, kd, xo, yo, fr, tt, nm)) (ntF ah (dU s)) (ntQ (dU s)))]) (q0 := 0) X (c_X10_notes E a s mm ss kd xo yo fr tt nm ah (by first | assumption | omega)) cs_X10_114 rfl [0, 1, 2, 3, 4, 5, 6, 7, 8, 9] [] 10 rfl rfl (by decide) [] rfl rfl rfl rfl (by simp only [List.map_cons, List.map_nil, fsAn, fsAr, fsMd]) rfl rfl rfl rfl (Nat.le_of_ble_eq_true rfl) dX10_move_67 rfl ?_
              refine g_aload_n X 1 dX10_move_70 rfl ?_
              refine g_getf (v := .ref (a 5)) X fs_X10_26 0 rfl rfl dX10_move_71 ?_
              refine g_iload X 0 dX10_move_74 rfl ?_
              refine g_iload_n X 4 dX10_move_76 rfl ?_
              refine g_iast (ws' := [wMd E a (dR s, dN0 s, ntU (dU s), dK s, dP s, dX s, dY s, dS s, dA s, dQ s), wAn E (a 2) 2 mm, wAn E (a 3) 2 ss, wAr E (a 4) 16 kd, wAr E (a 5) 16 (upd xo j x), wAr E (a 6) 16 yo, wAr E (a 7) 16 fr, wAr E (a 8) 16 tt, wAr E (a 9) 16 nm, wAr E (a 10) 816 (lyF (snp (dR s, dN0 s, mm, ss, kd, xo, yo, fr, tt, nm)) (ntF ah (dU s)) (ntQ (dU s)))].flatten) X 4 rfl j (ix_nI (by omega) (by decide)) rfl dX10_move_77 ?_
              refine g_aload_n X 1 dX10_move_78 rfl ?_
              refine g_getf (v := .ref (a 6)) X fs_X10_29 0 rfl rfl dX10_move_79 ?_
              refine g_iload X 0 dX10_move_82 rfl ?_
              refine g_iload X 5 dX10_move_84 rfl ?_
              refine g_iast (ws' := [wMd E a (dR s, dN0 s, ntU (dU s), dK s, dP s, dX s, dY s, dS s, dA s, dQ s), wAn E (a 2) 2 mm, wAn E (a 3) 2 ss, wAr E (a 4) 16 kd, wAr E (a 5) 16 (upd xo j x), wAr E (a 6) 16 (upd yo j y), wAr E (a 7) 16 fr, wAr E (a 8) 16 tt, wAr E (a 9) 16 nm, wAr E (a 10) 816 (lyF (snp (dR s, dN0 s, mm, ss, kd, xo, yo, fr, tt, nm)) (ntF ah (dU s)) (ntQ (dU s)))].flatten) X 5 rfl j (ix_nI (by omega) (by decide)) rfl dX10_move_86 ?_
              refine g_iconst (v := (nI 1)) X dX10_move_87 rfl ?_
              exact g_iretv (r := (nI 1)) X hx rfl (by simp [rMvV, rMvB, rMvA, rIx, mmOf_0, mmOf_1, nI_clamp (show 0 < 2 ^ 31 by decide), nI_clamp (show 1 < 2 ^ 31 by decide), nI_clamp (show j < 2 ^ 31 by omega), nI_eq, c_6, c_16, c_27, c_48, c_60]) (by simp [rMvB, rMvA, ntS, ntA, rIx, mmOf_0, mmOf_1, nI_clamp (show 0 < 2 ^ 31 by decide), nI_clamp (show 1 < 2 ^ 31 by decide), nI_clamp (show j < 2 ^ 31 by omega), nI_eq, c_6, c_16, c_27, c_48, c_60]) dX10_move_88
            · refine g_bipush (v := (-2)) X dX10_move_63 rfl ?_
              exact g_iretv (r := (-2)) X hx rfl (by simp [rMvV, rMvB, rMvA, rIx, mmOf_0, mmOf_1, nI_clamp (show 0 < 2 ^ 31 by decide), nI_clamp (show 1 < 2 ^ 31 by decide), nI_clamp (show j < 2 ^ 31 by omega), nI_eq, c_6, c_16, c_27, c_48, c_60]) (by simp [rMvB, rMvA, ntS, ntA, rIx, mmOf_0, mmOf_1, nI_clamp (show 0 < 2 ^ 31 by decide), nI_clamp (show 1 < 2 ^ 31 by decide), nI_clamp (show j < 2 ^ 31 by omega), nI_eq, c_6, c_16, c_27, c_48, c_60]) dX10_move_65
        · refine g_bipush (v := (nI 8)) X dX10_move_32 rfl ?_
          refine g_iload_n X 1 dX10_move_34 rfl ?_
          refine g_imulN X dX10_move_35 ?_
          refine g_iload_n X 2 dX10_move_36 rfl ?_
          refine g_iaddN X dX10_move_37 ?_
          refine g_istore (lv' := [(5, .int (nI (8 + j))), (0, .ref (a 0)), (1, .int (nI 1)), (2, .int (nI j)), (3, .int x), (4, .int y)]) X dX10_move_38 (by decide) rfl ?_
          refine g_aload_n X 1 dX10_move_40 rfl ?_
          refine g_getf (v := .ref (a 5)) X fs_X10_26 0 rfl rfl dX10_move_41 ?_
          refine g_iload X 0 dX10_move_44 rfl ?_
          refine g_iald X 4 rfl (8 + j) (ix_nI (by omega) (by decide)) dX10_move_46 ?_
          refine g_iload_n X 4 dX10_move_47 rfl ?_
          refine g_icmp_ne (tgt := 66) X dX10_move_48 (by decide) (fun c_48 => ?_) (fun c_48 => ?_)
          · refine g_aload_n X 1 dX10_move_66 rfl ?_
            refine g_callV (st2 := []) (S' := [wMd E a (dR s, dN0 s, ntU (dU s), dK s, dP s, dX s, dY s, dS s, dA s, dQ s), wAn E (a 2) 2 mm, wAn E (a 3) 2 ss, wAr E (a 4) 16 kd, wAr E (a 5) 16 xo, wAr E (a 6) 16 yo, wAr E (a 7) 16 fr, wAr E (a 8) 16 tt, wAr E (a 9) 16 nm, wAr E (a 10) 816 (lyF (snp (dR s, dN0 s, mm, ss, kd, xo, yo, fr, tt, nm)) (ntF ah (dU s)) (ntQ (dU s)))]) (q0 := 0) X (c_X10_notes E a s mm ss kd xo yo fr tt nm ah (by first | assumption | omega)) cs_X10_114 rfl [0, 1, 2, 3, 4, 5, 6, 7, 8, 9] [] 10 rfl rfl (by decide) [] rfl rfl rfl rfl (by simp only [List.map_cons, List.map_nil, fsAn, fsAr, fsMd]) rfl rfl rfl rfl (Nat.le_of_ble_eq_true rfl) dX10_move_67 rfl ?_
            refine g_aload_n X 1 dX10_move_70 rfl ?_
            refine g_getf (v := .ref (a 5)) X fs_X10_26 0 rfl rfl dX10_move_71 ?_
            refine g_iload X 0 dX10_move_74 rfl ?_
            refine g_iload_n X 4 dX10_move_76 rfl ?_
            refine g_iast (ws' := [wMd E a (dR s, dN0 s, ntU (dU s), dK s, dP s, dX s, dY s, dS s, dA s, dQ s), wAn E (a 2) 2 mm, wAn E (a 3) 2 ss, wAr E (a 4) 16 kd, wAr E (a 5) 16 (upd xo (8 + j) x), wAr E (a 6) 16 yo, wAr E (a 7) 16 fr, wAr E (a 8) 16 tt, wAr E (a 9) 16 nm, wAr E (a 10) 816 (lyF (snp (dR s, dN0 s, mm, ss, kd, xo, yo, fr, tt, nm)) (ntF ah (dU s)) (ntQ (dU s)))].flatten) X 4 rfl (8 + j) (ix_nI (by omega) (by decide)) rfl dX10_move_77 ?_
            refine g_aload_n X 1 dX10_move_78 rfl ?_
            refine g_getf (v := .ref (a 6)) X fs_X10_29 0 rfl rfl dX10_move_79 ?_
            refine g_iload X 0 dX10_move_82 rfl ?_
            refine g_iload X 5 dX10_move_84 rfl ?_
            refine g_iast (ws' := [wMd E a (dR s, dN0 s, ntU (dU s), dK s, dP s, dX s, dY s, dS s, dA s, dQ s), wAn E (a 2) 2 mm, wAn E (a 3) 2 ss, wAr E (a 4) 16 kd, wAr E (a 5) 16 (upd xo (8 + j) x), wAr E (a 6) 16 (upd yo (8 + j) y), wAr E (a 7) 16 fr, wAr E (a 8) 16 tt, wAr E (a 9) 16 nm, wAr E (a 10) 816 (lyF (snp (dR s, dN0 s, mm, ss, kd, xo, yo, fr, tt, nm)) (ntF ah (dU s)) (ntQ (dU s)))].flatten) X 5 rfl (8 + j) (ix_nI (by omega) (by decide)) rfl dX10_move_86 ?_
            refine g_iconst (v := (nI 1)) X dX10_move_87 rfl ?_
            exact g_iretv (r := (nI 1)) X hx rfl (by simp [rMvV, rMvB, rMvA, rIx, mmOf_0, mmOf_1, nI_clamp (show 0 < 2 ^ 31 by decide), nI_clamp (show 1 < 2 ^ 31 by decide), nI_clamp (show j < 2 ^ 31 by omega), nI_eq, c_6, c_16, c_27, c_48]) (by simp [rMvB, rMvA, ntS, ntA, rIx, mmOf_0, mmOf_1, nI_clamp (show 0 < 2 ^ 31 by decide), nI_clamp (show 1 < 2 ^ 31 by decide), nI_clamp (show j < 2 ^ 31 by omega), nI_eq, c_6, c_16, c_27, c_48]) dX10_move_88
          · refine g_aload_n X 1 dX10_move_51 rfl ?_
            refine g_getf (v := .ref (a 6)) X fs_X10_29 0 rfl rfl dX10_move_52 ?_
            refine g_iload X 0 dX10_move_55 rfl ?_
            refine g_iald X 5 rfl (8 + j) (ix_nI (by omega) (by decide)) dX10_move_57 ?_
            refine g_iload X 5 dX10_move_58 rfl ?_
            refine g_icmp_ne (tgt := 66) X dX10_move_60 (by decide) (fun c_60 => ?_) (fun c_60 => ?_)
            · refine g_aload_n X 1 dX10_move_66 rfl ?_
              refine g_callV (st2 := []) (S' := [wMd E a (dR s, dN0 s, ntU (dU s), dK s, dP s, dX s, dY s, dS s, dA s, dQ s), wAn E (a 2) 2 mm, wAn E (a 3) 2 ss, wAr E (a 4) 16 kd, wAr E (a 5) 16 xo, wAr E (a 6) 16 yo, wAr E (a 7) 16 fr, wAr E (a 8) 16 tt, wAr E (a 9) 16 nm, wAr E (a 10) 816 (lyF (snp (dR s, dN0 s, mm, ss, kd, xo, yo, fr, tt, nm)) (ntF ah (dU s)) (ntQ (dU s)))]) (q0 := 0) X (c_X10_notes E a s mm ss kd xo yo fr tt nm ah (by first | assumption | omega)) cs_X10_114 rfl [0, 1, 2, 3, 4, 5, 6, 7, 8, 9] [] 10 rfl rfl (by decide) [] rfl rfl rfl rfl (by simp only [List.map_cons, List.map_nil, fsAn, fsAr, fsMd]) rfl rfl rfl rfl (Nat.le_of_ble_eq_true rfl) dX10_move_67 rfl ?_
              refine g_aload_n X 1 dX10_move_70 rfl ?_
              refine g_getf (v := .ref (a 5)) X fs_X10_26 0 rfl rfl dX10_move_71 ?_
              refine g_iload X 0 dX10_move_74 rfl ?_
              refine g_iload_n X 4 dX10_move_76 rfl ?_
              refine g_iast (ws' := [wMd E a (dR s, dN0 s, ntU (dU s), dK s, dP s, dX s, dY s, dS s, dA s, dQ s), wAn E (a 2) 2 mm, wAn E (a 3) 2 ss, wAr E (a 4) 16 kd, wAr E (a 5) 16 (upd xo (8 + j) x), wAr E (a 6) 16 yo, wAr E (a 7) 16 fr, wAr E (a 8) 16 tt, wAr E (a 9) 16 nm, wAr E (a 10) 816 (lyF (snp (dR s, dN0 s, mm, ss, kd, xo, yo, fr, tt, nm)) (ntF ah (dU s)) (ntQ (dU s)))].flatten) X 4 rfl (8 + j) (ix_nI (by omega) (by decide)) rfl dX10_move_77 ?_
              refine g_aload_n X 1 dX10_move_78 rfl ?_
              refine g_getf (v := .ref (a 6)) X fs_X10_29 0 rfl rfl dX10_move_79 ?_
              refine g_iload X 0 dX10_move_82 rfl ?_
              refine g_iload X 5 dX10_move_84 rfl ?_
              refine g_iast (ws' := [wMd E a (dR s, dN0 s, ntU (dU s), dK s, dP s, dX s, dY s, dS s, dA s, dQ s), wAn E (a 2) 2 mm, wAn E (a 3) 2 ss, wAr E (a 4) 16 kd, wAr E (a 5) 16 (upd xo (8 + j) x), wAr E (a 6) 16 (upd yo (8 + j) y), wAr E (a 7) 16 fr, wAr E (a 8) 16 tt, wAr E (a 9) 16 nm, wAr E (a 10) 816 (lyF (snp (dR s, dN0 s, mm, ss, kd, xo, yo, fr, tt, nm)) (ntF ah (dU s)) (ntQ (dU s)))].flatten) X 5 rfl (8 + j) (ix_nI (by omega) (by decide)) rfl dX10_move_86 ?_
              refine g_iconst (v := (nI 1)) X dX10_move_87 rfl ?_
              exact g_iretv (r := (nI 1)) X hx rfl (by simp [rMvV, rMvB, rMvA, rIx, mmOf_0, mmOf_1, nI_clamp (show 0 < 2 ^ 31 by decide), nI_clamp (show 1 < 2 ^ 31 by decide), nI_clamp (show j < 2 ^ 31 by omega), nI_eq, c_6, c_16, c_27, c_48, c_60]) (by simp [rMvB, rMvA, ntS, ntA, rIx, mmOf_0, mmOf_1, nI_clamp (show 0 < 2 ^ 31 by decide), nI_clamp (show 1 < 2 ^ 31 by decide), nI_clamp (show j < 2 ^ 31 by omega), nI_eq, c_6, c_16, c_27, c_48, c_60]) dX10_move_88
            · refine g_bipush (v := (-2)) X dX10_move_63 rfl ?_
              exact g_iretv (r := (-2)) X hx rfl (by simp [rMvV, rMvB, rMvA, rIx, mmOf_0, mmOf_1, nI_clamp (show 0 < 2 ^ 31 by decide), nI_clamp (show 1 < 2 ^ 31 by decide), nI_clamp (show j < 2 ^ 31 by omega), nI_eq, c_6, c_16, c_27, c_48, c_60]) (by simp [rMvB, rMvA, ntS, ntA, rIx, mmOf_0, mmOf_1, nI_clamp (show 0 < 2 ^ 31 by decide), nI_clamp (show 1 < 2 ^ 31 by decide), nI_clamp (show j < 2 ^ 31 by omega), nI_eq, c_6, c_16, c_27, c_48, c_60]) dX10_move_65
      · refine g_iconst (v := (-1)) X dX10_move_30 rfl ?_
        exact g_iretv (r := (-1)) X hx rfl (by simp [rMvV, rMvB, rMvA, c_6, c_16, c_27]) (by simp [rMvB, rMvA, c_6, c_16, c_27]) dX10_move_31
set_option maxHeartbeats 4000000 in
set_option maxRecDepth 100000 in
theorem c_X10_becomes_kd (E : GE) (a : Nat → Nat) (s : MD0) (mm : Nat → Nat) (ss : Nat → Nat) (kd : Nat → Int32) (xo : Nat → Int32) (yo : Nat → Int32) (fr : Nat → Int32) (tt : Nat → Int32) (nm : Nat → Int32) (ah : Nat → Int32) (p : Nat) (x : Int32) (hmm : ∀ g, g < 2 → mm g ≤ 8) (hss : ∀ g, g < 2 → ss g ≤ 8) (hU : dU s ≤ 8) (hp : p < 16) : CT E m_X10_becomes [.ref (a 0), .ref (a 4), .int (nI p), .int x] ([wMd E a s, wAn E (a 2) 2 mm, wAn E (a 3) 2 ss, wAr E (a 4) 16 kd, wAr E (a 5) 16 xo, wAr E (a 6) 16 yo, wAr E (a 7) 16 fr, wAr E (a 8) 16 tt, wAr E (a 9) 16 nm, wAr E (a 10) 816 ah].flatten) (some (.int (if decide (¬ kd p = x) then kd p else -2))) ([wMd E a (if decide (¬ kd p = x) then ntS s else s), wAn E (a 2) 2 mm, wAn E (a 3) 2 ss, wAr E (a 4) 16 (if decide (¬ kd p = x) then upd kd p x else kd), wAr E (a 5) 16 xo, wAr E (a 6) 16 yo, wAr E (a 7) 16 fr, wAr E (a 8) 16 tt, wAr E (a 9) 16 nm, wAr E (a 10) 816 (if decide (¬ kd p = x) then ntA s mm ss kd xo yo fr tt nm ah else ah)].flatten) := by
  refine CT.intro (by decide +kernel) (Nat.le_of_ble_eq_true rfl) (fun Γ X hx => ?_)
  refine GG.lv [0, 1, 2, 3] (lv' := [(0, .ref (a 0)), (1, .ref (a 4)), (2, .int (nI p)), (3, .int x)]) rfl ?_
  refine g_aload_n X 1 dX10_becomes_0 rfl ?_
  refine g_iload_n X 2 dX10_becomes_1 rfl ?_
  refine g_iald X 3 rfl p (ix_nI (by omega) (by decide)) dX10_becomes_2 ?_
  refine g_istore (lv' := [(4, .int (kd p)), (0, .ref (a 0)), (1, .ref (a 4)), (2, .int (nI p)), (3, .int x)]) X dX10_becomes_3 (by decide) rfl ?_
  refine g_iload X 0 dX10_becomes_5 rfl ?_
  refine g_iload_n X 4 dX10_becomes_7 rfl ?_
  refine g_icmp_ne (tgt := 14) X dX10_becomes_8 (by decide) (fun c_8 => ?_) (fun c_8 => ?_)
  · refine g_aload_n X 1 dX10_becomes_14 rfl ?_
    refine g_callV (st2 := []) (S' := [wMd E a (dR s, dN0 s, ntU (dU s), dK s, dP s, dX s, dY s, dS s, dA s, dQ s), wAn E (a 2) 2 mm, wAn E (a 3) 2 ss, wAr E (a 4) 16 kd, wAr E (a 5) 16 xo, wAr E (a 6) 16 yo, wAr E (a 7) 16 fr, wAr E (a 8) 16 tt, wAr E (a 9) 16 nm, wAr E (a 10) 816 (lyF (snp (dR s, dN0 s, mm, ss, kd, xo, yo, fr, tt, nm)) (ntF ah (dU s)) (ntQ (dU s)))]) (q0 := 0) X (c_X10_notes E a s mm ss kd xo yo fr tt nm ah (by first | assumption | omega)) cs_X10_114 rfl [0, 1, 2, 3, 4, 5, 6, 7, 8, 9] [] 10 rfl rfl (by decide) [] rfl rfl rfl rfl (by simp only [List.map_cons, List.map_nil, fsAn, fsAr, fsMd]) rfl rfl rfl rfl (Nat.le_of_ble_eq_true rfl) dX10_becomes_15 rfl ?_
    refine g_aload_n X 2 dX10_becomes_18 rfl ?_
    refine g_iload_n X 3 dX10_becomes_19 rfl ?_
    refine g_iload_n X 4 dX10_becomes_20 rfl ?_
    refine g_iast (ws' := [wMd E a (dR s, dN0 s, ntU (dU s), dK s, dP s, dX s, dY s, dS s, dA s, dQ s), wAn E (a 2) 2 mm, wAn E (a 3) 2 ss, wAr E (a 4) 16 (upd kd p x), wAr E (a 5) 16 xo, wAr E (a 6) 16 yo, wAr E (a 7) 16 fr, wAr E (a 8) 16 tt, wAr E (a 9) 16 nm, wAr E (a 10) 816 (lyF (snp (dR s, dN0 s, mm, ss, kd, xo, yo, fr, tt, nm)) (ntF ah (dU s)) (ntQ (dU s)))].flatten) X 3 rfl p (ix_nI (by omega) (by decide)) rfl dX10_becomes_21 ?_
    refine g_iload X 0 dX10_becomes_22 rfl ?_
    exact g_iretv (r := (kd p)) X hx rfl (by simp [c_8]) (by simp [ntS, ntA, c_8]) dX10_becomes_24
  · refine g_bipush (v := (-2)) X dX10_becomes_11 rfl ?_
    exact g_iretv (r := (-2)) X hx rfl (by simp [c_8]) (by simp [ntS, ntA, c_8]) dX10_becomes_13
set_option maxHeartbeats 4000000 in
set_option maxRecDepth 100000 in
theorem c_X10_becomes_nm (E : GE) (a : Nat → Nat) (s : MD0) (mm : Nat → Nat) (ss : Nat → Nat) (kd : Nat → Int32) (xo : Nat → Int32) (yo : Nat → Int32) (fr : Nat → Int32) (tt : Nat → Int32) (nm : Nat → Int32) (ah : Nat → Int32) (p : Nat) (x : Int32) (hmm : ∀ g, g < 2 → mm g ≤ 8) (hss : ∀ g, g < 2 → ss g ≤ 8) (hU : dU s ≤ 8) (hp : p < 16) : CT E m_X10_becomes [.ref (a 0), .ref (a 9), .int (nI p), .int x] ([wMd E a s, wAn E (a 2) 2 mm, wAn E (a 3) 2 ss, wAr E (a 4) 16 kd, wAr E (a 5) 16 xo, wAr E (a 6) 16 yo, wAr E (a 7) 16 fr, wAr E (a 8) 16 tt, wAr E (a 9) 16 nm, wAr E (a 10) 816 ah].flatten) (some (.int (if decide (¬ nm p = x) then nm p else -2))) ([wMd E a (if decide (¬ nm p = x) then ntS s else s), wAn E (a 2) 2 mm, wAn E (a 3) 2 ss, wAr E (a 4) 16 kd, wAr E (a 5) 16 xo, wAr E (a 6) 16 yo, wAr E (a 7) 16 fr, wAr E (a 8) 16 tt, wAr E (a 9) 16 (if decide (¬ nm p = x) then upd nm p x else nm), wAr E (a 10) 816 (if decide (¬ nm p = x) then ntA s mm ss kd xo yo fr tt nm ah else ah)].flatten) := by
  refine CT.intro (by decide +kernel) (Nat.le_of_ble_eq_true rfl) (fun Γ X hx => ?_)
  refine GG.lv [0, 1, 2, 3] (lv' := [(0, .ref (a 0)), (1, .ref (a 9)), (2, .int (nI p)), (3, .int x)]) rfl ?_
  refine g_aload_n X 1 dX10_becomes_0 rfl ?_
  refine g_iload_n X 2 dX10_becomes_1 rfl ?_
  refine g_iald X 8 rfl p (ix_nI (by omega) (by decide)) dX10_becomes_2 ?_
  refine g_istore (lv' := [(4, .int (nm p)), (0, .ref (a 0)), (1, .ref (a 9)), (2, .int (nI p)), (3, .int x)]) X dX10_becomes_3 (by decide) rfl ?_
  refine g_iload X 0 dX10_becomes_5 rfl ?_
  refine g_iload_n X 4 dX10_becomes_7 rfl ?_
  refine g_icmp_ne (tgt := 14) X dX10_becomes_8 (by decide) (fun c_8 => ?_) (fun c_8 => ?_)
  · refine g_aload_n X 1 dX10_becomes_14 rfl ?_
    refine g_callV (st2 := []) (S' := [wMd E a (dR s, dN0 s, ntU (dU s), dK s, dP s, dX s, dY s, dS s, dA s, dQ s), wAn E (a 2) 2 mm, wAn E (a 3) 2 ss, wAr E (a 4) 16 kd, wAr E (a 5) 16 xo, wAr E (a 6) 16 yo, wAr E (a 7) 16 fr, wAr E (a 8) 16 tt, wAr E (a 9) 16 nm, wAr E (a 10) 816 (lyF (snp (dR s, dN0 s, mm, ss, kd, xo, yo, fr, tt, nm)) (ntF ah (dU s)) (ntQ (dU s)))]) (q0 := 0) X (c_X10_notes E a s mm ss kd xo yo fr tt nm ah (by first | assumption | omega)) cs_X10_114 rfl [0, 1, 2, 3, 4, 5, 6, 7, 8, 9] [] 10 rfl rfl (by decide) [] rfl rfl rfl rfl (by simp only [List.map_cons, List.map_nil, fsAn, fsAr, fsMd]) rfl rfl rfl rfl (Nat.le_of_ble_eq_true rfl) dX10_becomes_15 rfl ?_
    refine g_aload_n X 2 dX10_becomes_18 rfl ?_
    refine g_iload_n X 3 dX10_becomes_19 rfl ?_
    refine g_iload_n X 4 dX10_becomes_20 rfl ?_
    refine g_iast (ws' := [wMd E a (dR s, dN0 s, ntU (dU s), dK s, dP s, dX s, dY s, dS s, dA s, dQ s), wAn E (a 2) 2 mm, wAn E (a 3) 2 ss, wAr E (a 4) 16 kd, wAr E (a 5) 16 xo, wAr E (a 6) 16 yo, wAr E (a 7) 16 fr, wAr E (a 8) 16 tt, wAr E (a 9) 16 (upd nm p x), wAr E (a 10) 816 (lyF (snp (dR s, dN0 s, mm, ss, kd, xo, yo, fr, tt, nm)) (ntF ah (dU s)) (ntQ (dU s)))].flatten) X 8 rfl p (ix_nI (by omega) (by decide)) rfl dX10_becomes_21 ?_
    refine g_iload X 0 dX10_becomes_22 rfl ?_
    exact g_iretv (r := (nm p)) X hx rfl (by simp [c_8]) (by simp [ntS, ntA, c_8]) dX10_becomes_24
  · refine g_bipush (v := (-2)) X dX10_becomes_11 rfl ?_
    exact g_iretv (r := (-2)) X hx rfl (by simp [c_8]) (by simp [ntS, ntA, c_8]) dX10_becomes_13
set_option maxHeartbeats 4000000 in
set_option maxRecDepth 100000 in
theorem c_X10_rename (E : GE) (a : Nat → Nat) (s : MD0) (mm : Nat → Nat) (ss : Nat → Nat) (kd : Nat → Int32) (xo : Nat → Int32) (yo : Nat → Int32) (fr : Nat → Int32) (tt : Nat → Int32) (nm : Nat → Int32) (ah : Nat → Int32) (z : Int32) (i : Int32) (k : Int32) (hmm : ∀ g, g < 2 → mm g ≤ 8) (hss : ∀ g, g < 2 → ss g ≤ 8) (hU : dU s ≤ 8) : CT E m_X10_rename [.ref (a 0), .int z, .int i, .int k] ([wMd E a s, wAn E (a 2) 2 mm, wAn E (a 3) 2 ss, wAr E (a 4) 16 kd, wAr E (a 5) 16 xo, wAr E (a 6) 16 yo, wAr E (a 7) 16 fr, wAr E (a 8) 16 tt, wAr E (a 9) 16 nm, wAr E (a 10) 816 ah].flatten) (some (.int (rRnV mm 3 kd z i k))) ([wMd E a (if rRnB mm 3 kd z i k then ntS s else s), wAn E (a 2) 2 mm, wAn E (a 3) 2 ss, wAr E (a 4) 16 (if rRnB mm 3 kd z i k then upd kd (rIx z i) k else kd), wAr E (a 5) 16 xo, wAr E (a 6) 16 yo, wAr E (a 7) 16 fr, wAr E (a 8) 16 tt, wAr E (a 9) 16 nm, wAr E (a 10) 816 (if rRnB mm 3 kd z i k then ntA s mm ss kd xo yo fr tt nm ah else ah)].flatten) := by
  refine CT.intro (by decide +kernel) (Nat.le_of_ble_eq_true rfl) (fun Γ X hx => ?_)
  refine GG.lv [0, 1, 2, 3] (lv' := [(0, .ref (a 0)), (1, .int z), (2, .int i), (3, .int k)]) rfl ?_
  have hm0 := hmm 0 (by decide)
  have hm1 := hmm 1 (by decide)
  have hs0 := hss 0 (by decide)
  have hs1 := hss 1 (by decide)
  refine g_aload_n X 0 dX10_rename_0 rfl ?_
  refine g_iload_n X 1 dX10_rename_1 rfl ?_
  refine g_iload_n X 2 dX10_rename_2 rfl ?_
  refine g_callVr (st2 := [.int (b2i (hasR mm z i))]) (q0 := 0) X (c_X10_isMeeting E a s mm z i) cs_X10_92 rfl [0, 1] [2, 3, 4, 5, 6, 7, 8, 9] 10 rfl (by decide) rfl rfl rfl rfl rfl (Nat.le_of_ble_eq_true rfl) dX10_rename_3 rfl ?_
  refine g_bif_eq (tgt := 36) X dX10_rename_6 (by decide) (fun c_6 => ?_) (fun c_6 => ?_)
  · refine g_iconst (v := (-1)) X dX10_rename_36 rfl ?_
    exact g_iretv (r := (-1)) X hx rfl (by simp [rRnV, rRnB, rRnA, c_6]) (by simp [rRnB, rRnA, c_6]) dX10_rename_37
  · refine g_iload_n X 3 dX10_rename_9 rfl ?_
    refine g_iconst (v := (nI 0)) X dX10_rename_10 rfl ?_
    refine g_iconst (v := (nI 3)) X dX10_rename_11 rfl ?_
    refine g_callSP (st2 := [.int (b2i (inR k (nI 0) (nI 3)))]) (ws' := [wMd E a s, wAn E (a 2) 2 mm, wAn E (a 3) 2 ss, wAr E (a 4) 16 kd, wAr E (a 5) 16 xo, wAr E (a 6) 16 yo, wAr E (a 7) 16 fr, wAr E (a 8) 16 tt, wAr E (a 9) 16 nm, wAr E (a 10) 816 ah].flatten) (wr := [wMd E a s, wAn E (a 2) 2 mm, wAn E (a 3) 2 ss, wAr E (a 4) 16 kd, wAr E (a 5) 16 xo, wAr E (a 6) 16 yo, wAr E (a 7) 16 fr, wAr E (a 8) 16 tt, wAr E (a 9) 16 nm, wAr E (a 10) 816 ah].flatten) X (c_X10_in E k (nI 0) (nI 3)) cs_X10_84 rfl (List.Perm.refl _) rfl (List.Perm.refl _) rfl rfl (Nat.le_of_ble_eq_true rfl) dX10_rename_12 rfl ?_
    refine g_bif_eq (tgt := 36) X dX10_rename_15 (by decide) (fun c_15 => ?_) (fun c_15 => ?_)
    · refine g_iconst (v := (-1)) X dX10_rename_36 rfl ?_
      exact g_iretv (r := (-1)) X hx rfl (by simp [rRnV, rRnB, rRnA, c_6, c_15]) (by simp [rRnB, rRnA, c_6, c_15]) dX10_rename_37
    · rcases hasR_or hmm c_6 with ⟨rfl, j, hj, rfl⟩ | ⟨rfl, j, hj, rfl⟩
      · refine g_aload_n X 0 dX10_rename_18 rfl ?_
        refine g_aload_n X 0 dX10_rename_19 rfl ?_
        refine g_getf (v := .ref (a 4)) X fs_X10_23 0 rfl rfl dX10_rename_20 ?_
        refine g_bipush (v := (nI 8)) X dX10_rename_23 rfl ?_
        refine g_iload_n X 1 dX10_rename_25 rfl ?_
        refine g_imulN X dX10_rename_26 ?_
        refine g_iload_n X 2 dX10_rename_27 rfl ?_
        refine g_iaddN X dX10_rename_28 ?_
        rw [show 8 * 0 + j = j from Nat.zero_add _]
        refine g_iload_n X 3 dX10_rename_29 rfl ?_
        refine g_callV (st2 := [.int (if decide (¬ kd j = k) then kd j else -2)]) (S' := [wMd E a (if decide (¬ kd j = k) then ntS s else s), wAn E (a 2) 2 mm, wAn E (a 3) 2 ss, wAr E (a 4) 16 (if decide (¬ kd j = k) then upd kd j k else kd), wAr E (a 5) 16 xo, wAr E (a 6) 16 yo, wAr E (a 7) 16 fr, wAr E (a 8) 16 tt, wAr E (a 9) 16 nm, wAr E (a 10) 816 (if decide (¬ kd j = k) then ntA s mm ss kd xo yo fr tt nm ah else ah)]) (q0 := 0) X (c_X10_becomes_kd E a s mm ss kd xo yo fr tt nm ah j k (by first | assumption | omega) (by first | assumption | omega) (by first | assumption | omega) (by first | assumption | omega)) cs_X10_117 rfl [0, 1, 2, 3, 4, 5, 6, 7, 8, 9] [] 10 rfl rfl (by decide) [] rfl rfl rfl rfl (by simp only [List.map_cons, List.map_nil, fsAn, fsAr, fsMd]) rfl rfl rfl rfl (Nat.le_of_ble_eq_true rfl) dX10_rename_30 rfl ?_
        refine g_goto (tgt := 37) X dX10_rename_33 (by decide) ?_
        exact g_iretv (r := (if decide (¬ kd j = k) then kd j else -2)) X hx rfl (by simp [rRnV, rRnB, rRnA, rIx, mmOf_0, mmOf_1, nI_clamp (show 0 < 2 ^ 31 by decide), nI_clamp (show 1 < 2 ^ 31 by decide), nI_clamp (show j < 2 ^ 31 by omega), nI_eq, c_6, c_15]) (by simp [rRnB, rRnA, ntS, ntA, rIx, mmOf_0, mmOf_1, nI_clamp (show 0 < 2 ^ 31 by decide), nI_clamp (show 1 < 2 ^ 31 by decide), nI_clamp (show j < 2 ^ 31 by omega), nI_eq, c_6, c_15]) dX10_rename_37
      · refine g_aload_n X 0 dX10_rename_18 rfl ?_
        refine g_aload_n X 0 dX10_rename_19 rfl ?_
        refine g_getf (v := .ref (a 4)) X fs_X10_23 0 rfl rfl dX10_rename_20 ?_
        refine g_bipush (v := (nI 8)) X dX10_rename_23 rfl ?_
        refine g_iload_n X 1 dX10_rename_25 rfl ?_
        refine g_imulN X dX10_rename_26 ?_
        refine g_iload_n X 2 dX10_rename_27 rfl ?_
        refine g_iaddN X dX10_rename_28 ?_
        refine g_iload_n X 3 dX10_rename_29 rfl ?_
        refine g_callV (st2 := [.int (if decide (¬ kd (8 + j) = k) then kd (8 + j) else -2)]) (S' := [wMd E a (if decide (¬ kd (8 + j) = k) then ntS s else s), wAn E (a 2) 2 mm, wAn E (a 3) 2 ss, wAr E (a 4) 16 (if decide (¬ kd (8 + j) = k) then upd kd (8 + j) k else kd), wAr E (a 5) 16 xo, wAr E (a 6) 16 yo, wAr E (a 7) 16 fr, wAr E (a 8) 16 tt, wAr E (a 9) 16 nm, wAr E (a 10) 816 (if decide (¬ kd (8 + j) = k) then ntA s mm ss kd xo yo fr tt nm ah else ah)]) (q0 := 0) X (c_X10_becomes_kd E a s mm ss kd xo yo fr tt nm ah (8 + j) k (by first | assumption | omega) (by first | assumption | omega) (by first | assumption | omega) (by first | assumption | omega)) cs_X10_117 rfl [0, 1, 2, 3, 4, 5, 6, 7, 8, 9] [] 10 rfl rfl (by decide) [] rfl rfl rfl rfl (by simp only [List.map_cons, List.map_nil, fsAn, fsAr, fsMd]) rfl rfl rfl rfl (Nat.le_of_ble_eq_true rfl) dX10_rename_30 rfl ?_
        refine g_goto (tgt := 37) X dX10_rename_33 (by decide) ?_
        exact g_iretv (r := (if decide (¬ kd (8 + j) = k) then kd (8 + j) else -2)) X hx rfl (by simp [rRnV, rRnB, rRnA, rIx, mmOf_0, mmOf_1, nI_clamp (show 0 < 2 ^ 31 by decide), nI_clamp (show 1 < 2 ^ 31 by decide), nI_clamp (show j < 2 ^ 31 by omega), nI_eq, c_6, c_15]) (by simp [rRnB, rRnA, ntS, ntA, rIx, mmOf_0, mmOf_1, nI_clamp (show 0 < 2 ^ 31 by decide), nI_clamp (show 1 < 2 ^ 31 by decide), nI_clamp (show j < 2 ^ 31 by omega), nI_eq, c_6, c_15]) dX10_rename_37
set_option maxHeartbeats 4000000 in
set_option maxRecDepth 100000 in
theorem c_X10_name (E : GE) (a : Nat → Nat) (s : MD0) (mm : Nat → Nat) (ss : Nat → Nat) (kd : Nat → Int32) (xo : Nat → Int32) (yo : Nat → Int32) (fr : Nat → Int32) (tt : Nat → Int32) (nm : Nat → Int32) (ah : Nat → Int32) (z : Int32) (i : Int32) (k : Int32) (hmm : ∀ g, g < 2 → mm g ≤ 8) (hss : ∀ g, g < 2 → ss g ≤ 8) (hU : dU s ≤ 8) : CT E m_X10_name [.ref (a 0), .int z, .int i, .int k] ([wMd E a s, wAn E (a 2) 2 mm, wAn E (a 3) 2 ss, wAr E (a 4) 16 kd, wAr E (a 5) 16 xo, wAr E (a 6) 16 yo, wAr E (a 7) 16 fr, wAr E (a 8) 16 tt, wAr E (a 9) 16 nm, wAr E (a 10) 816 ah].flatten) (some (.int (rRnV ss 9 nm z i k))) ([wMd E a (if rRnB ss 9 nm z i k then ntS s else s), wAn E (a 2) 2 mm, wAn E (a 3) 2 ss, wAr E (a 4) 16 kd, wAr E (a 5) 16 xo, wAr E (a 6) 16 yo, wAr E (a 7) 16 fr, wAr E (a 8) 16 tt, wAr E (a 9) 16 (if rRnB ss 9 nm z i k then upd nm (rIx z i) k else nm), wAr E (a 10) 816 (if rRnB ss 9 nm z i k then ntA s mm ss kd xo yo fr tt nm ah else ah)].flatten) := by
  refine CT.intro (by decide +kernel) (Nat.le_of_ble_eq_true rfl) (fun Γ X hx => ?_)
  refine GG.lv [0, 1, 2, 3] (lv' := [(0, .ref (a 0)), (1, .int z), (2, .int i), (3, .int k)]) rfl ?_
  have hm0 := hmm 0 (by decide)
  have hm1 := hmm 1 (by decide)
  have hs0 := hss 0 (by decide)
  have hs1 := hss 1 (by decide)
  refine g_aload_n X 0 dX10_name_0 rfl ?_
  refine g_iload_n X 1 dX10_name_1 rfl ?_
  refine g_iload_n X 2 dX10_name_2 rfl ?_
  refine g_callVr (st2 := [.int (b2i (hasR ss z i))]) (q0 := 0) X (c_X10_isStreet E a s ss z i) cs_X10_104 rfl [0, 2] [1, 3, 4, 5, 6, 7, 8, 9] 10 rfl (by decide) rfl rfl rfl rfl rfl (Nat.le_of_ble_eq_true rfl) dX10_name_3 rfl ?_
  refine g_bif_eq (tgt := 37) X dX10_name_6 (by decide) (fun c_6 => ?_) (fun c_6 => ?_)
  · refine g_iconst (v := (-1)) X dX10_name_37 rfl ?_
    exact g_iretv (r := (-1)) X hx rfl (by simp [rRnV, rRnB, rRnA, c_6]) (by simp [rRnB, rRnA, c_6]) dX10_name_38
  · refine g_iload_n X 3 dX10_name_9 rfl ?_
    refine g_iconst (v := (nI 0)) X dX10_name_10 rfl ?_
    refine g_bipush (v := (nI 9)) X dX10_name_11 rfl ?_
    refine g_callSP (st2 := [.int (b2i (inR k (nI 0) (nI 9)))]) (ws' := [wMd E a s, wAn E (a 2) 2 mm, wAn E (a 3) 2 ss, wAr E (a 4) 16 kd, wAr E (a 5) 16 xo, wAr E (a 6) 16 yo, wAr E (a 7) 16 fr, wAr E (a 8) 16 tt, wAr E (a 9) 16 nm, wAr E (a 10) 816 ah].flatten) (wr := [wMd E a s, wAn E (a 2) 2 mm, wAn E (a 3) 2 ss, wAr E (a 4) 16 kd, wAr E (a 5) 16 xo, wAr E (a 6) 16 yo, wAr E (a 7) 16 fr, wAr E (a 8) 16 tt, wAr E (a 9) 16 nm, wAr E (a 10) 816 ah].flatten) X (c_X10_in E k (nI 0) (nI 9)) cs_X10_84 rfl (List.Perm.refl _) rfl (List.Perm.refl _) rfl rfl (Nat.le_of_ble_eq_true rfl) dX10_name_13 rfl ?_
    refine g_bif_eq (tgt := 37) X dX10_name_16 (by decide) (fun c_16 => ?_) (fun c_16 => ?_)
    · refine g_iconst (v := (-1)) X dX10_name_37 rfl ?_
      exact g_iretv (r := (-1)) X hx rfl (by simp [rRnV, rRnB, rRnA, c_6, c_16]) (by simp [rRnB, rRnA, c_6, c_16]) dX10_name_38
    · rcases hasR_or hss c_6 with ⟨rfl, j, hj, rfl⟩ | ⟨rfl, j, hj, rfl⟩
      · refine g_aload_n X 0 dX10_name_19 rfl ?_
        refine g_aload_n X 0 dX10_name_20 rfl ?_
        refine g_getf (v := .ref (a 9)) X fs_X10_38 0 rfl rfl dX10_name_21 ?_
        refine g_bipush (v := (nI 8)) X dX10_name_24 rfl ?_
        refine g_iload_n X 1 dX10_name_26 rfl ?_
        refine g_imulN X dX10_name_27 ?_
        refine g_iload_n X 2 dX10_name_28 rfl ?_
        refine g_iaddN X dX10_name_29 ?_
        rw [show 8 * 0 + j = j from Nat.zero_add _]
        refine g_iload_n X 3 dX10_name_30 rfl ?_
        refine g_callV (st2 := [.int (if decide (¬ nm j = k) then nm j else -2)]) (S' := [wMd E a (if decide (¬ nm j = k) then ntS s else s), wAn E (a 2) 2 mm, wAn E (a 3) 2 ss, wAr E (a 4) 16 kd, wAr E (a 5) 16 xo, wAr E (a 6) 16 yo, wAr E (a 7) 16 fr, wAr E (a 8) 16 tt, wAr E (a 9) 16 (if decide (¬ nm j = k) then upd nm j k else nm), wAr E (a 10) 816 (if decide (¬ nm j = k) then ntA s mm ss kd xo yo fr tt nm ah else ah)]) (q0 := 0) X (c_X10_becomes_nm E a s mm ss kd xo yo fr tt nm ah j k (by first | assumption | omega) (by first | assumption | omega) (by first | assumption | omega) (by first | assumption | omega)) cs_X10_117 rfl [0, 1, 2, 3, 4, 5, 6, 7, 8, 9] [] 10 rfl rfl (by decide) [] rfl rfl rfl rfl (by simp only [List.map_cons, List.map_nil, fsAn, fsAr, fsMd]) rfl rfl rfl rfl (Nat.le_of_ble_eq_true rfl) dX10_name_31 rfl ?_
        refine g_goto (tgt := 38) X dX10_name_34 (by decide) ?_
        exact g_iretv (r := (if decide (¬ nm j = k) then nm j else -2)) X hx rfl (by simp [rRnV, rRnB, rRnA, rIx, mmOf_0, mmOf_1, nI_clamp (show 0 < 2 ^ 31 by decide), nI_clamp (show 1 < 2 ^ 31 by decide), nI_clamp (show j < 2 ^ 31 by omega), nI_eq, c_6, c_16]) (by simp [rRnB, rRnA, ntS, ntA, rIx, mmOf_0, mmOf_1, nI_clamp (show 0 < 2 ^ 31 by decide), nI_clamp (show 1 < 2 ^ 31 by decide), nI_clamp (show j < 2 ^ 31 by omega), nI_eq, c_6, c_16]) dX10_name_38
      · refine g_aload_n X 0 dX10_name_19 rfl ?_
        refine g_aload_n X 0 dX10_name_20 rfl ?_
        refine g_getf (v := .ref (a 9)) X fs_X10_38 0 rfl rfl dX10_name_21 ?_
        refine g_bipush (v := (nI 8)) X dX10_name_24 rfl ?_
        refine g_iload_n X 1 dX10_name_26 rfl ?_
        refine g_imulN X dX10_name_27 ?_
        refine g_iload_n X 2 dX10_name_28 rfl ?_
        refine g_iaddN X dX10_name_29 ?_
        refine g_iload_n X 3 dX10_name_30 rfl ?_
        refine g_callV (st2 := [.int (if decide (¬ nm (8 + j) = k) then nm (8 + j) else -2)]) (S' := [wMd E a (if decide (¬ nm (8 + j) = k) then ntS s else s), wAn E (a 2) 2 mm, wAn E (a 3) 2 ss, wAr E (a 4) 16 kd, wAr E (a 5) 16 xo, wAr E (a 6) 16 yo, wAr E (a 7) 16 fr, wAr E (a 8) 16 tt, wAr E (a 9) 16 (if decide (¬ nm (8 + j) = k) then upd nm (8 + j) k else nm), wAr E (a 10) 816 (if decide (¬ nm (8 + j) = k) then ntA s mm ss kd xo yo fr tt nm ah else ah)]) (q0 := 0) X (c_X10_becomes_nm E a s mm ss kd xo yo fr tt nm ah (8 + j) k (by first | assumption | omega) (by first | assumption | omega) (by first | assumption | omega) (by first | assumption | omega)) cs_X10_117 rfl [0, 1, 2, 3, 4, 5, 6, 7, 8, 9] [] 10 rfl rfl (by decide) [] rfl rfl rfl rfl (by simp only [List.map_cons, List.map_nil, fsAn, fsAr, fsMd]) rfl rfl rfl rfl (Nat.le_of_ble_eq_true rfl) dX10_name_31 rfl ?_
        refine g_goto (tgt := 38) X dX10_name_34 (by decide) ?_
        exact g_iretv (r := (if decide (¬ nm (8 + j) = k) then nm (8 + j) else -2)) X hx rfl (by simp [rRnV, rRnB, rRnA, rIx, mmOf_0, mmOf_1, nI_clamp (show 0 < 2 ^ 31 by decide), nI_clamp (show 1 < 2 ^ 31 by decide), nI_clamp (show j < 2 ^ 31 by omega), nI_eq, c_6, c_16]) (by simp [rRnB, rRnA, ntS, ntA, rIx, mmOf_0, mmOf_1, nI_clamp (show 0 < 2 ^ 31 by decide), nI_clamp (show 1 < 2 ^ 31 by decide), nI_clamp (show j < 2 ^ 31 by omega), nI_eq, c_6, c_16]) dX10_name_38
set_option maxHeartbeats 4000000 in
set_option maxRecDepth 100000 in
theorem c_X10_empties (E : GE) (a : Nat → Nat) (s : MD0) (sh : Nat → Int32) : CT E m_X10_empties [.ref (a 0)] ([wMd E a s, wAr E (a 23) 12 sh].flatten) none ([wMd E a s, wAr E (a 23) 12 (clrF sh 12)].flatten) := by
  refine CT.intro (by decide +kernel) (Nat.le_of_ble_eq_true rfl) (fun Γ X hx => ?_)
  refine GG.lv [0] (lv' := [(0, .ref (a 0))]) rfl ?_
  refine g_iconst (v := (nI 0)) X dX10_empties_0 rfl ?_
  refine g_istore_n (lv' := [(1, .int (nI 0)), (0, .ref (a 0))]) X dX10_empties_1 (by decide) rfl ?_
  have L_2 : ∀ (n_2 : Nat) (k : Nat) (hk : k ≤ 12) (hm_2 : 12 - k < n_2) (x_1 : Int32) (ex_1 : x_1 = (nI k)) (u_0 : Nat → Int32) (eu_0 : u_0 = clrF sh k), GG E m_X10_empties Γ 0 0 ([wMd E a s, wAr E (a 23) 12 u_0].flatten) [(0, .ref (a 0)), (1, .int x_1)] 2 [] := by
    intro n_2
    induction n_2 with
    | zero => intro k hk hm_2; exact absurd hm_2 (Nat.not_lt_zero _)
    | succ n_2 ih_2 =>
      intro k hk hm_2 x_1 ex_1 u_0 eu_0
      subst ex_1
      subst eu_0
      refine g_iload_n X 1 dX10_empties_2 rfl ?_
      refine g_bipush (v := (nI 12)) X dX10_empties_3 rfl ?_
      refine g_icmp_ge (tgt := 22) X dX10_empties_5 (by decide) (fun c_5 => ?_) (fun c_5 => ?_)
      · have f_c_5 : 12 ≤ k := n_le (by omega) (by omega) c_5
        have fn_c_5 := Nat.not_lt.mpr f_c_5
        exact g_vret X hx rfl rfl (by rw [show 12 = k by omega]) dX10_empties_22
      · have f_c_5 : k < 12 := n_nle (by omega) (by omega) c_5
        have fn_c_5 := Nat.not_le.mpr f_c_5
        refine g_aload_n X 0 dX10_empties_8 rfl ?_
        refine g_getf (v := .ref (a 23)) X fs_X10_65 0 rfl rfl dX10_empties_9 ?_
        refine g_iload_n X 1 dX10_empties_12 rfl ?_
        refine g_bipush (v := (-4)) X dX10_empties_13 rfl ?_
        refine g_iast (ws' := [wMd E a s, wAr E (a 23) 12 (upd (clrF sh k) k (-4))].flatten) X 1 rfl k (ix_nI (by omega) (by decide)) rfl dX10_empties_15 ?_
        refine g_iincN (lv' := [(1, .int (nI (k + 1))), (0, .ref (a 0))]) X 1 dX10_empties_16 rfl (by decide) rfl ?_
        refine g_goto (tgt := 2) X dX10_empties_19 (by decide) ?_
        refine GG.lv [1, 0] rfl ?_
        exact ih_2 (k + 1) (by omega) (by omega) (nI (k + 1)) (by rfl) (upd (clrF sh k) k (-4)) (by exact clrF_s _ _)
  refine GG.lv [1, 0] rfl ?_
  exact L_2 (13) 0 (by omega) (by omega) (nI 0) (by rfl) sh (by exact (clrF_0 _).symm)
set_option maxHeartbeats 4000000 in
set_option maxRecDepth 100000 in
theorem c_X10_thingMany (E : GE) (a : Nat → Nat) (s : MD0) (sh : Nat → Int32) : CT E m_X10_thingMany [.ref (a 0)] ([wMd E a s, wAr E (a 23) 12 sh].flatten) (some (.int (nI (cntB (fun k => decide (¬ sh k = -4)) 12)))) ([wMd E a s, wAr E (a 23) 12 sh].flatten) := by
  refine CT.intro (by decide +kernel) (Nat.le_of_ble_eq_true rfl) (fun Γ X hx => ?_)
  refine GG.lv [0] (lv' := [(0, .ref (a 0))]) rfl ?_
  refine g_iconst (v := (nI 0)) X dX10_thingMany_0 rfl ?_
  refine g_istore_n (lv' := [(1, .int (nI 0)), (0, .ref (a 0))]) X dX10_thingMany_1 (by decide) rfl ?_
  refine g_iconst (v := (nI 0)) X dX10_thingMany_2 rfl ?_
  refine g_istore_n (lv' := [(2, .int (nI 0)), (1, .int (nI 0)), (0, .ref (a 0))]) X dX10_thingMany_3 (by decide) rfl ?_
  have L_4 : ∀ (n_4 : Nat) (k : Nat) (hk : k ≤ 12) (hm_4 : 12 - k < n_4) (x_1 : Int32) (ex_1 : x_1 = (nI (cntB (fun k => decide (¬ sh k = -4)) k))) (x_2 : Int32) (ex_2 : x_2 = (nI k)), GG E m_X10_thingMany Γ 0 0 ([wMd E a s, wAr E (a 23) 12 sh].flatten) [(0, .ref (a 0)), (1, .int x_1), (2, .int x_2)] 4 [] := by
    intro n_4
    induction n_4 with
    | zero => intro k hk hm_4; exact absurd hm_4 (Nat.not_lt_zero _)
    | succ n_4 ih_4 =>
      intro k hk hm_4 x_1 ex_1 x_2 ex_2
      subst ex_1
      subst ex_2
      refine g_iload_n X 2 dX10_thingMany_4 rfl ?_
      refine g_bipush (v := (nI 12)) X dX10_thingMany_5 rfl ?_
      refine g_icmp_ge (tgt := 35) X dX10_thingMany_7 (by decide) (fun c_7 => ?_) (fun c_7 => ?_)
      · have f_c_7 : 12 ≤ k := n_le (by omega) (by omega) c_7
        have fn_c_7 := Nat.not_lt.mpr f_c_7
        refine g_iload_n X 1 dX10_thingMany_35 rfl ?_
        exact g_iretv (r := (nI (cntB (fun k => decide (¬ sh k = -4)) k))) X hx rfl (by rw [show 12 = k by omega]) (by rfl) dX10_thingMany_36
      · have f_c_7 : k < 12 := n_nle (by omega) (by omega) c_7
        have fn_c_7 := Nat.not_le.mpr f_c_7
        refine g_iload_n X 1 dX10_thingMany_10 rfl ?_
        refine g_aload_n X 0 dX10_thingMany_11 rfl ?_
        refine g_getf (v := .ref (a 23)) X fs_X10_65 0 rfl rfl dX10_thingMany_12 ?_
        refine g_iload_n X 2 dX10_thingMany_15 rfl ?_
        refine g_iald X 1 rfl k (ix_nI (by omega) (by decide)) dX10_thingMany_16 ?_
        refine g_bipush (v := (-4)) X dX10_thingMany_17 rfl ?_
        refine g_icmp_ne (tgt := 26) X dX10_thingMany_19 (by decide) (fun c_19 => ?_) (fun c_19 => ?_)
        · refine g_iconst (v := (nI 1)) X dX10_thingMany_26 rfl ?_
          refine g_iaddN X dX10_thingMany_27 ?_
          refine g_istore_n (lv' := [(1, .int (nI ((cntB (fun k => decide (¬ sh k = -4)) k) + 1))), (0, .ref (a 0)), (2, .int (nI k))]) X dX10_thingMany_28 (by decide) rfl ?_
          refine g_iincN (lv' := [(2, .int (nI (k + 1))), (1, .int (nI ((cntB (fun k => decide (¬ sh k = -4)) k) + 1))), (0, .ref (a 0))]) X 2 dX10_thingMany_29 rfl (by decide) rfl ?_
          refine g_goto (tgt := 4) X dX10_thingMany_32 (by decide) ?_
          refine GG.lv [2, 1, 0] rfl ?_
          exact ih_4 (k + 1) (by omega) (by omega) (nI ((cntB (fun k => decide (¬ sh k = -4)) k) + 1)) (by rw [cntB_t (by simp [c_7, f_c_7, fn_c_7, c_19])]) (nI (k + 1)) (by rfl)
        · refine g_iconst (v := (nI 0)) X dX10_thingMany_22 rfl ?_
          refine g_goto (tgt := 27) X dX10_thingMany_23 (by decide) ?_
          refine g_iaddN X dX10_thingMany_27 ?_
          refine g_istore_n (lv' := [(1, .int (nI ((cntB (fun k => decide (¬ sh k = -4)) k) + 0))), (0, .ref (a 0)), (2, .int (nI k))]) X dX10_thingMany_28 (by decide) rfl ?_
          refine g_iincN (lv' := [(2, .int (nI (k + 1))), (1, .int (nI ((cntB (fun k => decide (¬ sh k = -4)) k) + 0))), (0, .ref (a 0))]) X 2 dX10_thingMany_29 rfl (by decide) rfl ?_
          refine g_goto (tgt := 4) X dX10_thingMany_32 (by decide) ?_
          refine GG.lv [2, 1, 0] rfl ?_
          exact ih_4 (k + 1) (by omega) (by omega) (nI ((cntB (fun k => decide (¬ sh k = -4)) k) + 0)) (by rw [← cntB_f (by simp [c_7, f_c_7, fn_c_7, c_19]), Nat.add_zero]) (nI (k + 1)) (by rfl)
  refine GG.lv [2, 1, 0] rfl ?_
  exact L_4 (13) 0 (by omega) (by omega) (nI 0) (by rfl) (nI 0) (by rfl)
set_option maxHeartbeats 4000000 in
set_option maxRecDepth 100000 in
theorem c_X10_shelf (E : GE) (a : Nat → Nat) (s : MD0) (sh : Nat → Int32) (z : Int32) (p : Int32) : CT E m_X10_shelf [.ref (a 0), .int z, .int p] ([wMd E a s, wAr E (a 23) 12 sh].flatten) (some (.int (if inR z (nI 0) (nI 2) && inR p (nI 0) (nI 3) then sh (4 * z.toNatClampNeg + p.toNatClampNeg) else -1))) ([wMd E a s, wAr E (a 23) 12 sh].flatten) := by
  refine CT.intro (by decide +kernel) (Nat.le_of_ble_eq_true rfl) (fun Γ X hx => ?_)
  refine GG.lv [0, 1, 2] (lv' := [(0, .ref (a 0)), (1, .int z), (2, .int p)]) rfl ?_
  refine g_iload_n X 1 dX10_shelf_0 rfl ?_
  refine g_iconst (v := (nI 0)) X dX10_shelf_1 rfl ?_
  refine g_iconst (v := (nI 2)) X dX10_shelf_2 rfl ?_
  refine g_callSP (st2 := [.int (b2i (inR z (nI 0) (nI 2)))]) (ws' := [wMd E a s, wAr E (a 23) 12 sh].flatten) (wr := [wMd E a s, wAr E (a 23) 12 sh].flatten) X (c_X10_in E z (nI 0) (nI 2)) cs_X10_84 rfl (List.Perm.refl _) rfl (List.Perm.refl _) rfl rfl (Nat.le_of_ble_eq_true rfl) dX10_shelf_3 rfl ?_
  refine g_bif_eq (tgt := 31) X dX10_shelf_6 (by decide) (fun c_6 => ?_) (fun c_6 => ?_)
  · refine g_iconst (v := (-1)) X dX10_shelf_31 rfl ?_
    exact g_iretv (r := (-1)) X hx rfl (by simp [c_6]) (by rfl) dX10_shelf_32
  · refine g_iload_n X 2 dX10_shelf_9 rfl ?_
    refine g_iconst (v := (nI 0)) X dX10_shelf_10 rfl ?_
    refine g_iconst (v := (nI 3)) X dX10_shelf_11 rfl ?_
    refine g_callSP (st2 := [.int (b2i (inR p (nI 0) (nI 3)))]) (ws' := [wMd E a s, wAr E (a 23) 12 sh].flatten) (wr := [wMd E a s, wAr E (a 23) 12 sh].flatten) X (c_X10_in E p (nI 0) (nI 3)) cs_X10_84 rfl (List.Perm.refl _) rfl (List.Perm.refl _) rfl rfl (Nat.le_of_ble_eq_true rfl) dX10_shelf_12 rfl ?_
    refine g_bif_eq (tgt := 31) X dX10_shelf_15 (by decide) (fun c_15 => ?_) (fun c_15 => ?_)
    · refine g_iconst (v := (-1)) X dX10_shelf_31 rfl ?_
      exact g_iretv (r := (-1)) X hx rfl (by simp [c_6, c_15]) (by rfl) dX10_shelf_32
    · obtain ⟨s1, hs1, rfl⟩ := inR_nI c_6 (by decide)
      obtain ⟨p1, hp1, rfl⟩ := inR_nI c_15 (by decide)
      refine g_aload_n X 0 dX10_shelf_18 rfl ?_
      refine g_getf (v := .ref (a 23)) X fs_X10_65 0 rfl rfl dX10_shelf_19 ?_
      refine g_iconst (v := (nI 4)) X dX10_shelf_22 rfl ?_
      refine g_iload_n X 1 dX10_shelf_23 rfl ?_
      refine g_imulN X dX10_shelf_24 ?_
      refine g_iload_n X 2 dX10_shelf_25 rfl ?_
      refine g_iaddN X dX10_shelf_26 ?_
      refine g_iald X 1 rfl ((4 * s1) + p1) (ix_nI (by omega) (by decide)) dX10_shelf_27 ?_
      refine g_goto (tgt := 32) X dX10_shelf_28 (by decide) ?_
      exact g_iretv (r := (sh ((4 * s1) + p1))) X hx rfl (by simp [c_6, c_15, nI_clamp (show s1 < 2 ^ 31 by omega), nI_clamp (show p1 < 2 ^ 31 by omega)]) (by rfl) dX10_shelf_32
set_option maxHeartbeats 4000000 in
set_option maxRecDepth 100000 in
theorem c_X10_count (E : GE) (a : Nat → Nat) (s : MD0) (mm : Nat → Nat) (ss : Nat → Nat) (sh : Nat → Int32) (q : Int32) (hmm : ∀ g, g < 2 → mm g ≤ 8) (hss : ∀ g, g < 2 → ss g ≤ 8) : CT E m_X10_count [.ref (a 0), .int q] ([wMd E a s, wAn E (a 2) 2 mm, wAn E (a 3) 2 ss, wAr E (a 23) 12 sh].flatten) (some (.int (rCo s mm ss sh q))) ([wMd E a s, wAn E (a 2) 2 mm, wAn E (a 3) 2 ss, wAr E (a 23) 12 sh].flatten) := by
  refine CT.intro (by decide +kernel) (Nat.le_of_ble_eq_true rfl) (fun Γ X hx => ?_)
  refine GG.lv [0, 1] (lv' := [(0, .ref (a 0)), (1, .int q)]) rfl ?_
  have hm0 := hmm 0 (by decide)
  have hm1 := hmm 1 (by decide)
  have hs0 := hss 0 (by decide)
  have hs1 := hss 1 (by decide)
  refine g_iload_n X 1 dX10_count_0 rfl ?_
  refine g_iconst (v := (nI 0)) X dX10_count_1 rfl ?_
  refine g_bipush (v := (nI 9)) X dX10_count_2 rfl ?_
  refine g_callSP (st2 := [.int (b2i (inR q (nI 0) (nI 9)))]) (ws' := [wMd E a s, wAn E (a 2) 2 mm, wAn E (a 3) 2 ss, wAr E (a 23) 12 sh].flatten) (wr := [wMd E a s, wAn E (a 2) 2 mm, wAn E (a 3) 2 ss, wAr E (a 23) 12 sh].flatten) X (c_X10_in E q (nI 0) (nI 9)) cs_X10_84 rfl (List.Perm.refl _) rfl (List.Perm.refl _) rfl rfl (Nat.le_of_ble_eq_true rfl) dX10_count_4 rfl ?_
  refine g_bif_ne (tgt := 12) X dX10_count_7 (by decide) (fun c_7 => ?_) (fun c_7 => ?_)
  · refine g_iload_n X 1 dX10_count_12 rfl ?_
    by_cases w_13_0 : q = nI 0
    · subst w_13_0
      refine g_tsIn (tgt := 64) X 0 dX10_count_13 rfl (by decide) (by decide) rfl (by decide) ?_
      refine g_aload_n X 0 dX10_count_64 rfl ?_
      refine g_getf (v := .ref (a 2)) X fs_X10_16 0 rfl rfl dX10_count_65 ?_
      refine g_iload_n X 1 dX10_count_68 rfl ?_
      refine g_anld (f := mm) X 1 rfl 0 (ix_nI (by omega) (by decide)) dX10_count_69 ?_
      exact g_iretv (r := (nI (mm 0))) X hx rfl (by simp [rCo, nI_eq, c_7]) (by rfl) dX10_count_70
    by_cases w_13_1 : q = nI 1
    · subst w_13_1
      refine g_tsIn (tgt := 64) X 1 dX10_count_13 rfl (by decide) (by decide) rfl (by decide) ?_
      refine g_aload_n X 0 dX10_count_64 rfl ?_
      refine g_getf (v := .ref (a 2)) X fs_X10_16 0 rfl rfl dX10_count_65 ?_
      refine g_iload_n X 1 dX10_count_68 rfl ?_
      refine g_anld (f := mm) X 1 rfl 1 (ix_nI (by omega) (by decide)) dX10_count_69 ?_
      exact g_iretv (r := (nI (mm 1))) X hx rfl (by simp [rCo, nI_eq, c_7]) (by rfl) dX10_count_70
    by_cases w_13_2 : q = nI 2
    · subst w_13_2
      refine g_tsIn (tgt := 71) X 2 dX10_count_13 rfl (by decide) (by decide) rfl (by decide) ?_
      refine g_aload_n X 0 dX10_count_71 rfl ?_
      refine g_getf (v := .ref (a 3)) X fs_X10_20 0 rfl rfl dX10_count_72 ?_
      refine g_iload_n X 1 dX10_count_75 rfl ?_
      refine g_iconst (v := (nI 2)) X dX10_count_76 rfl ?_
      refine g_isubN X (by omega) dX10_count_77 ?_
      refine g_anld (f := ss) X 2 rfl 0 (ix_nI (by omega) (by decide)) dX10_count_78 ?_
      exact g_iretv (r := (nI (ss 0))) X hx rfl (by simp [rCo, nI_eq, c_7]) (by rfl) dX10_count_79
    by_cases w_13_3 : q = nI 3
    · subst w_13_3
      refine g_tsIn (tgt := 71) X 3 dX10_count_13 rfl (by decide) (by decide) rfl (by decide) ?_
      refine g_aload_n X 0 dX10_count_71 rfl ?_
      refine g_getf (v := .ref (a 3)) X fs_X10_20 0 rfl rfl dX10_count_72 ?_
      refine g_iload_n X 1 dX10_count_75 rfl ?_
      refine g_iconst (v := (nI 2)) X dX10_count_76 rfl ?_
      refine g_isubN X (by omega) dX10_count_77 ?_
      refine g_anld (f := ss) X 2 rfl 1 (ix_nI (by omega) (by decide)) dX10_count_78 ?_
      exact g_iretv (r := (nI (ss 1))) X hx rfl (by simp [rCo, nI_eq, c_7]) (by rfl) dX10_count_79
    by_cases w_13_4 : q = nI 4
    · subst w_13_4
      refine g_tsIn (tgt := 80) X 4 dX10_count_13 rfl (by decide) (by decide) rfl (by decide) ?_
      refine g_aload_n X 0 dX10_count_80 rfl ?_
      refine g_getf (v := .int (dR s)) X fs_X10_7 0 rfl rfl dX10_count_81 ?_
      exact g_iretv (r := (dR s)) X hx rfl (by simp [rCo, nI_eq, c_7]) (by rfl) dX10_count_84
    by_cases w_13_5 : q = nI 5
    · subst w_13_5
      refine g_tsIn (tgt := 85) X 5 dX10_count_13 rfl (by decide) (by decide) rfl (by decide) ?_
      refine g_aload_n X 0 dX10_count_85 rfl ?_
      refine g_getf (v := .int (nI (dN0 s))) X fs_X10_13 0 rfl rfl dX10_count_86 ?_
      exact g_iretv (r := (nI (dN0 s))) X hx rfl (by simp [rCo, nI_eq, c_7]) (by rfl) dX10_count_89
    by_cases w_13_6 : q = nI 6
    · subst w_13_6
      refine g_tsIn (tgt := 90) X 6 dX10_count_13 rfl (by decide) (by decide) rfl (by decide) ?_
      refine g_aload_n X 0 dX10_count_90 rfl ?_
      refine g_getf (v := .int (nI (dU s))) X fs_X10_107 0 rfl rfl dX10_count_91 ?_
      exact g_iretv (r := (nI (dU s))) X hx rfl (by simp [rCo, nI_eq, c_7]) (by rfl) dX10_count_94
    by_cases w_13_7 : q = nI 7
    · subst w_13_7
      refine g_tsIn (tgt := 95) X 7 dX10_count_13 rfl (by decide) (by decide) rfl (by decide) ?_
      refine g_aload_n X 0 dX10_count_95 rfl ?_
      refine g_getf (v := .int (nI (dK s))) X fs_X10_128 0 rfl rfl dX10_count_96 ?_
      exact g_iretv (r := (nI (dK s))) X hx rfl (by simp [rCo, nI_eq, c_7]) (by rfl) dX10_count_99
    by_cases w_13_8 : q = nI 8
    · subst w_13_8
      refine g_tsIn (tgt := 100) X 8 dX10_count_13 rfl (by decide) (by decide) rfl (by decide) ?_
      refine g_aload_n X 0 dX10_count_100 rfl ?_
      refine g_getf (v := .int (nI (dS s))) X fs_X10_238 0 rfl rfl dX10_count_101 ?_
      exact g_iretv (r := (nI (dS s))) X hx rfl (by simp [rCo, nI_eq, c_7]) (by rfl) dX10_count_104
    refine g_tsOut (tgt := 105) X dX10_count_13 (by have t0 := lv_neT w_13_0 (a := 0) rfl; have t1 := lv_neT w_13_1 (a := 1) rfl; have t2 := lv_neT w_13_2 (a := 2) rfl; have t3 := lv_neT w_13_3 (a := 3) rfl; have t4 := lv_neT w_13_4 (a := 4) rfl; have t5 := lv_neT w_13_5 (a := 5) rfl; have t6 := lv_neT w_13_6 (a := 6) rfl; have t7 := lv_neT w_13_7 (a := 7) rfl; have t8 := lv_neT w_13_8 (a := 8) rfl; omega) (by decide) ?_
    refine g_aload_n X 0 dX10_count_105 rfl ?_
    refine g_callVr (st2 := [.int (nI (cntB (fun k => decide (¬ sh k = -4)) 12))]) (q0 := 0) X (c_X10_thingMany E a s sh) cs_X10_241 rfl [0, 3] [1, 2] 4 rfl (by decide) rfl rfl rfl rfl rfl (Nat.le_of_ble_eq_true rfl) dX10_count_106 rfl ?_
    exact g_iretv (r := (nI (cntB (fun k => decide (¬ sh k = -4)) 12))) X hx rfl (by simp [rCo, nI_eq, c_7, w_13_0, w_13_1, w_13_2, w_13_3, w_13_4, w_13_5, w_13_6, w_13_7, w_13_8]) (by rfl) dX10_count_109
  · refine g_iconst (v := (-1)) X dX10_count_10 rfl ?_
    exact g_iretv (r := (-1)) X hx rfl (by simp [rCo, nI_eq, c_7]) (by rfl) dX10_count_11
set_option maxHeartbeats 4000000 in
set_option maxRecDepth 100000 in
theorem c_X10_wipe (E : GE) (a : Nat → Nat) (s : MD0) : CT E m_X10_wipe [.ref (a 0)] ([wMd E a s].flatten) (some (.int (nI (dS s)))) ([wMd E a (dR s, dN0 s, dU s, dK s, dP s, dX s, dY s, 0, dA s, dQ s)].flatten) := by
  refine CT.intro (by decide +kernel) (Nat.le_of_ble_eq_true rfl) (fun Γ X hx => ?_)
  refine GG.lv [0] (lv' := [(0, .ref (a 0))]) rfl ?_
  refine g_aload_n X 0 dX10_wipe_0 rfl ?_
  refine g_getf (v := .int (nI (dS s))) X fs_X10_238 0 rfl rfl dX10_wipe_1 ?_
  refine g_istore_n (lv' := [(1, .int (nI (dS s))), (0, .ref (a 0))]) X dX10_wipe_4 (by decide) rfl ?_
  refine g_aload_n X 1 dX10_wipe_5 rfl ?_
  refine g_iconst (v := (nI 0)) X dX10_wipe_6 rfl ?_
  refine g_putf (ws' := [wMd E a (dR s, dN0 s, dU s, dK s, dP s, dX s, dY s, 0, dA s, dQ s)].flatten) X ps_X10_238 0 rfl rfl rfl (Nat.le_of_ble_eq_true rfl) rfl dX10_wipe_7 ?_
  refine g_iload_n X 0 dX10_wipe_10 rfl ?_
  exact g_iretv (r := (nI (dS s))) X hx rfl (by rfl) (by rfl) dX10_wipe_11
set_option maxHeartbeats 4000000 in
set_option maxRecDepth 100000 in
theorem c_X10_write (E : GE) (a : Nat → Nat) (s : MD0) (tx : Nat → Int32) (x : Int32) (hS : dS s ≤ 200) : CT E m_X10_write [.ref (a 0), .int x] ([wMd E a s, wAr E (a 24) 200 tx].flatten) (some (.int (rWrV s x))) ([wMd E a (if inR x (nI 32) (nI 126) && decide (¬ dS s = 200) then (dR s, dN0 s, dU s, dK s, dP s, dX s, dY s, dS s + 1, dA s, dQ s) else s), wAr E (a 24) 200 (if inR x (nI 32) (nI 126) && decide (¬ dS s = 200) then upd tx (dS s) x else tx)].flatten) := by
  refine CT.intro (by decide +kernel) (Nat.le_of_ble_eq_true rfl) (fun Γ X hx => ?_)
  refine GG.lv [0, 1] (lv' := [(0, .ref (a 0)), (1, .int x)]) rfl ?_
  refine g_iload_n X 1 dX10_write_0 rfl ?_
  refine g_bipush (v := (nI 32)) X dX10_write_1 rfl ?_
  refine g_bipush (v := (nI 126)) X dX10_write_3 rfl ?_
  refine g_callSP (st2 := [.int (b2i (inR x (nI 32) (nI 126)))]) (ws' := [wMd E a s, wAr E (a 24) 200 tx].flatten) (wr := [wMd E a s, wAr E (a 24) 200 tx].flatten) X (c_X10_in E x (nI 32) (nI 126)) cs_X10_84 rfl (List.Perm.refl _) rfl (List.Perm.refl _) rfl rfl (Nat.le_of_ble_eq_true rfl) dX10_write_5 rfl ?_
  refine g_bif_ne (tgt := 13) X dX10_write_8 (by decide) (fun c_8 => ?_) (fun c_8 => ?_)
  · refine g_aload_n X 0 dX10_write_13 rfl ?_
    refine g_getf (v := .int (nI (dS s))) X fs_X10_238 0 rfl rfl dX10_write_14 ?_
    refine g_sipush (v := (nI 200)) X dX10_write_17 rfl ?_
    refine g_icmp_ne (tgt := 26) X dX10_write_20 (by decide) (fun c_20 => ?_) (fun c_20 => ?_)
    · have f_c_20 : ¬ dS s = 200 := n_ne (by omega) (by omega) c_20
      refine g_aload_n X 0 dX10_write_26 rfl ?_
      refine g_getf (v := .ref (a 24)) X fs_X10_68 0 rfl rfl dX10_write_27 ?_
      refine g_aload_n X 0 dX10_write_30 rfl ?_
      refine g_getf (v := .int (nI (dS s))) X fs_X10_238 0 rfl rfl dX10_write_31 ?_
      refine g_iload_n X 1 dX10_write_34 rfl ?_
      refine g_iast (ws' := [wMd E a s, wAr E (a 24) 200 (upd tx (dS s) x)].flatten) X 1 rfl (dS s) (ix_nI (by omega) (by decide)) rfl dX10_write_35 ?_
      refine g_aload_n X 0 dX10_write_36 rfl ?_
      refine g_dup X dX10_write_37 rfl ?_
      refine g_getf (v := .int (nI (dS s))) X fs_X10_238 0 rfl rfl dX10_write_38 ?_
      refine g_iconst (v := (nI 1)) X dX10_write_41 rfl ?_
      refine g_iaddN X dX10_write_42 ?_
      refine g_putf (ws' := [wMd E a (dR s, dN0 s, dU s, dK s, dP s, dX s, dY s, (dS s) + 1, dA s, dQ s), wAr E (a 24) 200 (upd tx (dS s) x)].flatten) X ps_X10_238 0 rfl rfl rfl (Nat.le_of_ble_eq_true rfl) rfl dX10_write_43 ?_
      refine g_aload_n X 0 dX10_write_46 rfl ?_
      refine g_getf (v := .int (nI ((dS s) + 1))) X fs_X10_238 0 rfl rfl dX10_write_47 ?_
      exact g_iretv (r := (nI ((dS s) + 1))) X hx rfl (by simp [rWrV, c_8, c_20, f_c_20]) (by simp [c_8, c_20, f_c_20]) dX10_write_50
    · have f_c_20 : dS s = 200 := n_eq (by omega) (by omega) c_20
      refine g_bipush (v := (-3)) X dX10_write_23 rfl ?_
      exact g_iretv (r := (-3)) X hx rfl (by simp [rWrV, c_8, c_20, f_c_20]) (by simp [c_8, c_20, f_c_20]) dX10_write_25
  · refine g_iconst (v := (-1)) X dX10_write_11 rfl ?_
    exact g_iretv (r := (-1)) X hx rfl (by simp [rWrV, c_8]) (by simp [c_8]) dX10_write_12
