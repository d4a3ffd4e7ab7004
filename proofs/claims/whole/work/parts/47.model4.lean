set_option maxHeartbeats 4000000 in
set_option maxRecDepth 100000 in
theorem c_X10_join (E : GE) (a : Nat → Nat) (s : MD0) (mm : Nat → Nat) (ss : Nat → Nat) (kd : Nat → Int32) (xo : Nat → Int32) (yo : Nat → Int32) (fr : Nat → Int32) (tt : Nat → Int32) (nm : Nat → Int32) (ah : Nat → Int32) (z : Int32) (x : Int32) (y : Int32) (n : Int32) (hmm : ∀ g, g < 2 → mm g ≤ 8) (hss : ∀ g, g < 2 → ss g ≤ 8) (hU : dU s ≤ 8) : CT E m_X10_join [.ref (a 0), .int z, .int x, .int y, .int n] ([wMd E a s, wAn E (a 2) 2 mm, wAn E (a 3) 2 ss, wAr E (a 4) 16 kd, wAr E (a 5) 16 xo, wAr E (a 6) 16 yo, wAr E (a 7) 16 fr, wAr E (a 8) 16 tt, wAr E (a 9) 16 nm, wAr E (a 10) 816 ah].flatten) (some (.int (rJnV mm ss fr tt z x y n))) ([wMd E a (if rJnB mm ss fr tt z x y n then ntS s else s), wAn E (a 2) 2 mm, wAn E (a 3) 2 (if rJnB mm ss fr tt z x y n then upN ss z.toNatClampNeg (mmOf ss z + 1) else ss), wAr E (a 4) 16 kd, wAr E (a 5) 16 xo, wAr E (a 6) 16 yo, wAr E (a 7) 16 (if rJnB mm ss fr tt z x y n then upd fr (8 * z.toNatClampNeg + mmOf ss z) x else fr), wAr E (a 8) 16 (if rJnB mm ss fr tt z x y n then upd tt (8 * z.toNatClampNeg + mmOf ss z) y else tt), wAr E (a 9) 16 (if rJnB mm ss fr tt z x y n then upd nm (8 * z.toNatClampNeg + mmOf ss z) n else nm), wAr E (a 10) 816 (if rJnB mm ss fr tt z x y n then ntA s mm ss kd xo yo fr tt nm ah else ah)].flatten) := by
  refine CT.intro (by decide +kernel) (Nat.le_of_ble_eq_true rfl) (fun Γ X hx => ?_)
  refine GG.lv [0, 1, 2, 3, 4] (lv' := [(0, .ref (a 0)), (1, .int z), (2, .int x), (3, .int y), (4, .int n)]) rfl ?_
  have hm0 := hmm 0 (by decide)
  have hm1 := hmm 1 (by decide)
  have hs0 := hss 0 (by decide)
  have hs1 := hss 1 (by decide)
  refine g_aload_n X 0 dX10_join_0 rfl ?_
  refine g_iload_n X 1 dX10_join_1 rfl ?_
  refine g_iload_n X 2 dX10_join_2 rfl ?_
  refine g_callVr (st2 := [.int (b2i (hasR mm z x))]) (q0 := 0) X (c_X10_isMeeting E a s mm z x) cs_X10_92 rfl [0, 1] [2, 3, 4, 5, 6, 7, 8, 9] 10 rfl (by decide) rfl rfl rfl rfl rfl (Nat.le_of_ble_eq_true rfl) dX10_join_3 rfl ?_
  refine g_bif_eq (tgt := 34) X dX10_join_6 (by decide) (fun c_6 => ?_) (fun c_6 => ?_)
  · refine g_iconst (v := (-1)) X dX10_join_34 rfl ?_
    exact g_iretv (r := (-1)) X hx rfl (by simp [rJnV, rJnB, rJnA, c_6]) (by simp [rJnB, rJnA, c_6]) dX10_join_35
  · refine g_aload_n X 0 dX10_join_9 rfl ?_
    refine g_iload_n X 1 dX10_join_10 rfl ?_
    refine g_iload_n X 3 dX10_join_11 rfl ?_
    refine g_callVr (st2 := [.int (b2i (hasR mm z y))]) (q0 := 0) X (c_X10_isMeeting E a s mm z y) cs_X10_92 rfl [0, 1] [2, 3, 4, 5, 6, 7, 8, 9] 10 rfl (by decide) rfl rfl rfl rfl rfl (Nat.le_of_ble_eq_true rfl) dX10_join_12 rfl ?_
    refine g_bif_eq (tgt := 34) X dX10_join_15 (by decide) (fun c_15 => ?_) (fun c_15 => ?_)
    · refine g_iconst (v := (-1)) X dX10_join_34 rfl ?_
      exact g_iretv (r := (-1)) X hx rfl (by simp [rJnV, rJnB, rJnA, c_6, c_15]) (by simp [rJnB, rJnA, c_6, c_15]) dX10_join_35
    · refine g_iload_n X 2 dX10_join_18 rfl ?_
      refine g_iload_n X 3 dX10_join_19 rfl ?_
      refine g_icmp_eq (tgt := 34) X dX10_join_20 (by decide) (fun c_20 => ?_) (fun c_20 => ?_)
      · refine g_iconst (v := (-1)) X dX10_join_34 rfl ?_
        exact g_iretv (r := (-1)) X hx rfl (by simp [rJnV, rJnB, rJnA, c_6, c_15, c_20]) (by simp [rJnB, rJnA, c_6, c_15, c_20]) dX10_join_35
      · refine g_iload X 4 dX10_join_23 rfl ?_
        refine g_iconst (v := (nI 0)) X dX10_join_25 rfl ?_
        refine g_bipush (v := (nI 9)) X dX10_join_26 rfl ?_
        refine g_callSP (st2 := [.int (b2i (inR n (nI 0) (nI 9)))]) (ws' := [wMd E a s, wAn E (a 2) 2 mm, wAn E (a 3) 2 ss, wAr E (a 4) 16 kd, wAr E (a 5) 16 xo, wAr E (a 6) 16 yo, wAr E (a 7) 16 fr, wAr E (a 8) 16 tt, wAr E (a 9) 16 nm, wAr E (a 10) 816 ah].flatten) (wr := [wMd E a s, wAn E (a 2) 2 mm, wAn E (a 3) 2 ss, wAr E (a 4) 16 kd, wAr E (a 5) 16 xo, wAr E (a 6) 16 yo, wAr E (a 7) 16 fr, wAr E (a 8) 16 tt, wAr E (a 9) 16 nm, wAr E (a 10) 816 ah].flatten) X (c_X10_in E n (nI 0) (nI 9)) cs_X10_84 rfl (List.Perm.refl _) rfl (List.Perm.refl _) rfl rfl (Nat.le_of_ble_eq_true rfl) dX10_join_28 rfl ?_
        refine g_bif_ne (tgt := 36) X dX10_join_31 (by decide) (fun c_31 => ?_) (fun c_31 => ?_)
        · rcases hasR_or hmm c_6 with ⟨rfl, j, hj, rfl⟩ | ⟨rfl, j, hj, rfl⟩
          · obtain ⟨k, hk, rfl⟩ := hasR_0 hmm c_15
            refine g_aload_n X 0 dX10_join_36 rfl ?_
            refine g_iload_n X 1 dX10_join_37 rfl ?_
            refine g_iload_n X 2 dX10_join_38 rfl ?_
            refine g_iload_n X 3 dX10_join_39 rfl ?_
            refine g_callVr (st2 := [.int (rBet ss fr tt 0 (nI j) (nI k))]) (q0 := 0) X (c_X10_between E a s ss fr tt 0 (nI j) (nI k) (by first | assumption | omega) (by first | assumption | omega)) cs_X10_121 rfl [0, 2, 6, 7] [1, 3, 4, 5, 8, 9] 10 rfl (by decide) rfl rfl rfl rfl rfl (Nat.le_of_ble_eq_true rfl) dX10_join_40 rfl ?_
            refine g_bipush (v := (-4)) X dX10_join_43 rfl ?_
            refine g_icmp_eq (tgt := 51) X dX10_join_45 (by decide) (fun c_45 => ?_) (fun c_45 => ?_)
            · refine g_aload_n X 0 dX10_join_51 rfl ?_
              refine g_getf (v := .ref (a 3)) X fs_X10_20 0 rfl rfl dX10_join_52 ?_
              refine g_iload_n X 1 dX10_join_55 rfl ?_
              refine g_anld (f := ss) X 2 rfl 0 (ix_nI (by omega) (by decide)) dX10_join_56 ?_
              refine g_bipush (v := (nI 8)) X dX10_join_57 rfl ?_
              refine g_icmp_ne (tgt := 65) X dX10_join_59 (by decide) (fun c_59 => ?_) (fun c_59 => ?_)
              · have f_c_59 : ¬ ss 0 = 8 := n_ne (by omega) (by omega) c_59
                refine g_aload_n X 0 dX10_join_65 rfl ?_
                refine g_callV (st2 := []) (S' := [wMd E a (dR s, dN0 s, ntU (dU s), dK s, dP s, dX s, dY s, dS s, dA s, dQ s), wAn E (a 2) 2 mm, wAn E (a 3) 2 ss, wAr E (a 4) 16 kd, wAr E (a 5) 16 xo, wAr E (a 6) 16 yo, wAr E (a 7) 16 fr, wAr E (a 8) 16 tt, wAr E (a 9) 16 nm, wAr E (a 10) 816 (lyF (snp (dR s, dN0 s, mm, ss, kd, xo, yo, fr, tt, nm)) (ntF ah (dU s)) (ntQ (dU s)))]) (q0 := 0) X (c_X10_notes E a s mm ss kd xo yo fr tt nm ah (by first | assumption | omega)) cs_X10_114 rfl [0, 1, 2, 3, 4, 5, 6, 7, 8, 9] [] 10 rfl rfl (by decide) [] rfl rfl rfl rfl (by simp only [List.map_cons, List.map_nil, fsAn, fsAr, fsMd]) rfl rfl rfl rfl (Nat.le_of_ble_eq_true rfl) dX10_join_66 rfl ?_
                refine g_aload_n X 0 dX10_join_69 rfl ?_
                refine g_iload_n X 1 dX10_join_70 rfl ?_
                refine g_iload_n X 2 dX10_join_71 rfl ?_
                refine g_iload_n X 3 dX10_join_72 rfl ?_
                refine g_iload X 4 dX10_join_73 rfl ?_
                refine g_callV (st2 := []) (S' := [wMd E a (dR s, dN0 s, ntU (dU s), dK s, dP s, dX s, dY s, dS s, dA s, dQ s), wAn E (a 2) 2 mm, wAn E (a 3) 2 (upN ss 0 (ss 0 + 1)), wAr E (a 4) 16 kd, wAr E (a 5) 16 xo, wAr E (a 6) 16 yo, wAr E (a 7) 16 (upd fr (8 * 0 + ss 0) (nI j)), wAr E (a 8) 16 (upd tt (8 * 0 + ss 0) (nI k)), wAr E (a 9) 16 (upd nm (8 * 0 + ss 0) n), wAr E (a 10) 816 (lyF (snp (dR s, dN0 s, mm, ss, kd, xo, yo, fr, tt, nm)) (ntF ah (dU s)) (ntQ (dU s)))]) (q0 := 0) X (c_X10_joins E a (dR s, dN0 s, ntU (dU s), dK s, dP s, dX s, dY s, dS s, dA s, dQ s) ss fr tt nm 0 (nI j) (nI k) n (by first | assumption | omega) (by first | assumption | omega)) cs_X10_78 rfl [0, 2, 6, 7, 8] [1, 3, 4, 5, 9] 10 rfl rfl (by decide) [wAn E (a 2) 2 mm, wAr E (a 4) 16 kd, wAr E (a 5) 16 xo, wAr E (a 6) 16 yo, wAr E (a 10) 816 (lyF (snp (dR s, dN0 s, mm, ss, kd, xo, yo, fr, tt, nm)) (ntF ah (dU s)) (ntQ (dU s)))] rfl rfl rfl rfl (by simp only [List.map_cons, List.map_nil, fsAn, fsAr, fsMd]) rfl rfl rfl rfl (Nat.le_of_ble_eq_true rfl) dX10_join_75 rfl ?_
                refine g_aload_n X 0 dX10_join_78 rfl ?_
                refine g_getf (v := .ref (a 3)) X fs_X10_20 0 rfl rfl dX10_join_79 ?_
                refine g_iload_n X 1 dX10_join_82 rfl ?_
                refine g_anld (f := (upN ss 0 (ss 0 + 1))) X 2 rfl 0 (ix_nI (by omega) (by decide)) dX10_join_83 ?_
                exact g_iretv (r := (nI ((upN ss 0 (ss 0 + 1)) 0))) X hx rfl (by simp [rJnV, rJnB, rJnA, rIx, mmOf_0, mmOf_1, nI_clamp (show 0 < 2 ^ 31 by decide), nI_clamp (show 1 < 2 ^ 31 by decide), nI_clamp (show j < 2 ^ 31 by omega), nI_eq, upN, c_6, c_15, c_20, c_31, c_45, c_59, f_c_59]) (by simp [rJnB, rJnA, ntS, ntA, rIx, mmOf_0, mmOf_1, nI_clamp (show 0 < 2 ^ 31 by decide), nI_clamp (show 1 < 2 ^ 31 by decide), nI_clamp (show j < 2 ^ 31 by omega), nI_eq, c_6, c_15, c_20, c_31, c_45, c_59, f_c_59]) dX10_join_84
              · have f_c_59 : ss 0 = 8 := n_eq (by omega) (by omega) c_59
                refine g_bipush (v := (-3)) X dX10_join_62 rfl ?_
                exact g_iretv (r := (-3)) X hx rfl (by simp [rJnV, rJnB, rJnA, rIx, mmOf_0, mmOf_1, nI_clamp (show 0 < 2 ^ 31 by decide), nI_clamp (show 1 < 2 ^ 31 by decide), nI_clamp (show j < 2 ^ 31 by omega), nI_eq, upN, c_6, c_15, c_20, c_31, c_45, c_59, f_c_59]) (by simp [rJnB, rJnA, ntS, ntA, rIx, mmOf_0, mmOf_1, nI_clamp (show 0 < 2 ^ 31 by decide), nI_clamp (show 1 < 2 ^ 31 by decide), nI_clamp (show j < 2 ^ 31 by omega), nI_eq, c_6, c_15, c_20, c_31, c_45, c_59, f_c_59]) dX10_join_64
            · refine g_bipush (v := (-2)) X dX10_join_48 rfl ?_
              exact g_iretv (r := (-2)) X hx rfl (by simp [rJnV, rJnB, rJnA, rIx, mmOf_0, mmOf_1, nI_clamp (show 0 < 2 ^ 31 by decide), nI_clamp (show 1 < 2 ^ 31 by decide), nI_clamp (show j < 2 ^ 31 by omega), nI_eq, upN, c_6, c_15, c_20, c_31, c_45]) (by simp [rJnB, rJnA, ntS, ntA, rIx, mmOf_0, mmOf_1, nI_clamp (show 0 < 2 ^ 31 by decide), nI_clamp (show 1 < 2 ^ 31 by decide), nI_clamp (show j < 2 ^ 31 by omega), nI_eq, c_6, c_15, c_20, c_31, c_45]) dX10_join_50
          · obtain ⟨k, hk, rfl⟩ := hasR_1 hmm c_15
            refine g_aload_n X 0 dX10_join_36 rfl ?_
            refine g_iload_n X 1 dX10_join_37 rfl ?_
            refine g_iload_n X 2 dX10_join_38 rfl ?_
            refine g_iload_n X 3 dX10_join_39 rfl ?_
            refine g_callVr (st2 := [.int (rBet ss fr tt 1 (nI j) (nI k))]) (q0 := 0) X (c_X10_between E a s ss fr tt 1 (nI j) (nI k) (by first | assumption | omega) (by first | assumption | omega)) cs_X10_121 rfl [0, 2, 6, 7] [1, 3, 4, 5, 8, 9] 10 rfl (by decide) rfl rfl rfl rfl rfl (Nat.le_of_ble_eq_true rfl) dX10_join_40 rfl ?_
            refine g_bipush (v := (-4)) X dX10_join_43 rfl ?_
            refine g_icmp_eq (tgt := 51) X dX10_join_45 (by decide) (fun c_45 => ?_) (fun c_45 => ?_)
            · refine g_aload_n X 0 dX10_join_51 rfl ?_
              refine g_getf (v := .ref (a 3)) X fs_X10_20 0 rfl rfl dX10_join_52 ?_
              refine g_iload_n X 1 dX10_join_55 rfl ?_
              refine g_anld (f := ss) X 2 rfl 1 (ix_nI (by omega) (by decide)) dX10_join_56 ?_
              refine g_bipush (v := (nI 8)) X dX10_join_57 rfl ?_
              refine g_icmp_ne (tgt := 65) X dX10_join_59 (by decide) (fun c_59 => ?_) (fun c_59 => ?_)
              · have f_c_59 : ¬ ss 1 = 8 := n_ne (by omega) (by omega) c_59
                refine g_aload_n X 0 dX10_join_65 rfl ?_
                refine g_callV (st2 := []) (S' := [wMd E a (dR s, dN0 s, ntU (dU s), dK s, dP s, dX s, dY s, dS s, dA s, dQ s), wAn E (a 2) 2 mm, wAn E (a 3) 2 ss, wAr E (a 4) 16 kd, wAr E (a 5) 16 xo, wAr E (a 6) 16 yo, wAr E (a 7) 16 fr, wAr E (a 8) 16 tt, wAr E (a 9) 16 nm, wAr E (a 10) 816 (lyF (snp (dR s, dN0 s, mm, ss, kd, xo, yo, fr, tt, nm)) (ntF ah (dU s)) (ntQ (dU s)))]) (q0 := 0) X (c_X10_notes E a s mm ss kd xo yo fr tt nm ah (by first | assumption | omega)) cs_X10_114 rfl [0, 1, 2, 3, 4, 5, 6, 7, 8, 9] [] 10 rfl rfl (by decide) [] rfl rfl rfl rfl (by simp only [List.map_cons, List.map_nil, fsAn, fsAr, fsMd]) rfl rfl rfl rfl (Nat.le_of_ble_eq_true rfl) dX10_join_66 rfl ?_
                refine g_aload_n X 0 dX10_join_69 rfl ?_
                refine g_iload_n X 1 dX10_join_70 rfl ?_
                refine g_iload_n X 2 dX10_join_71 rfl ?_
                refine g_iload_n X 3 dX10_join_72 rfl ?_
                refine g_iload X 4 dX10_join_73 rfl ?_
                refine g_callV (st2 := []) (S' := [wMd E a (dR s, dN0 s, ntU (dU s), dK s, dP s, dX s, dY s, dS s, dA s, dQ s), wAn E (a 2) 2 mm, wAn E (a 3) 2 (upN ss 1 (ss 1 + 1)), wAr E (a 4) 16 kd, wAr E (a 5) 16 xo, wAr E (a 6) 16 yo, wAr E (a 7) 16 (upd fr (8 * 1 + ss 1) (nI j)), wAr E (a 8) 16 (upd tt (8 * 1 + ss 1) (nI k)), wAr E (a 9) 16 (upd nm (8 * 1 + ss 1) n), wAr E (a 10) 816 (lyF (snp (dR s, dN0 s, mm, ss, kd, xo, yo, fr, tt, nm)) (ntF ah (dU s)) (ntQ (dU s)))]) (q0 := 0) X (c_X10_joins E a (dR s, dN0 s, ntU (dU s), dK s, dP s, dX s, dY s, dS s, dA s, dQ s) ss fr tt nm 1 (nI j) (nI k) n (by first | assumption | omega) (by first | assumption | omega)) cs_X10_78 rfl [0, 2, 6, 7, 8] [1, 3, 4, 5, 9] 10 rfl rfl (by decide) [wAn E (a 2) 2 mm, wAr E (a 4) 16 kd, wAr E (a 5) 16 xo, wAr E (a 6) 16 yo, wAr E (a 10) 816 (lyF (snp (dR s, dN0 s, mm, ss, kd, xo, yo, fr, tt, nm)) (ntF ah (dU s)) (ntQ (dU s)))] rfl rfl rfl rfl (by simp only [List.map_cons, List.map_nil, fsAn, fsAr, fsMd]) rfl rfl rfl rfl (Nat.le_of_ble_eq_true rfl) dX10_join_75 rfl ?_
                refine g_aload_n X 0 dX10_join_78 rfl ?_
                refine g_getf (v := .ref (a 3)) X fs_X10_20 0 rfl rfl dX10_join_79 ?_
                refine g_iload_n X 1 dX10_join_82 rfl ?_
                refine g_anld (f := (upN ss 1 (ss 1 + 1))) X 2 rfl 1 (ix_nI (by omega) (by decide)) dX10_join_83 ?_
                exact g_iretv (r := (nI ((upN ss 1 (ss 1 + 1)) 1))) X hx rfl (by simp [rJnV, rJnB, rJnA, rIx, mmOf_0, mmOf_1, nI_clamp (show 0 < 2 ^ 31 by decide), nI_clamp (show 1 < 2 ^ 31 by decide), nI_clamp (show j < 2 ^ 31 by omega), nI_eq, upN, c_6, c_15, c_20, c_31, c_45, c_59, f_c_59]) (by simp [rJnB, rJnA, ntS, ntA, rIx, mmOf_0, mmOf_1, nI_clamp (show 0 < 2 ^ 31 by decide), nI_clamp (show 1 < 2 ^ 31 by decide), nI_clamp (show j < 2 ^ 31 by omega), nI_eq, c_6, c_15, c_20, c_31, c_45, c_59, f_c_59]) dX10_join_84
              · have f_c_59 : ss 1 = 8 := n_eq (by omega) (by omega) c_59
                refine g_bipush (v := (-3)) X dX10_join_62 rfl ?_
                exact g_iretv (r := (-3)) X hx rfl (by simp [rJnV, rJnB, rJnA, rIx, mmOf_0, mmOf_1, nI_clamp (show 0 < 2 ^ 31 by decide), nI_clamp (show 1 < 2 ^ 31 by decide), nI_clamp (show j < 2 ^ 31 by omega), nI_eq, upN, c_6, c_15, c_20, c_31, c_45, c_59, f_c_59]) (by simp [rJnB, rJnA, ntS, ntA, rIx, mmOf_0, mmOf_1, nI_clamp (show 0 < 2 ^ 31 by decide), nI_clamp (show 1 < 2 ^ 31 by decide), nI_clamp (show j < 2 ^ 31 by omega), nI_eq, c_6, c_15, c_20, c_31, c_45, c_59, f_c_59]) dX10_join_64
            · refine g_bipush (v := (-2)) X dX10_join_48 rfl ?_
              exact g_iretv (r := (-2)) X hx rfl (by simp [rJnV, rJnB, rJnA, rIx, mmOf_0, mmOf_1, nI_clamp (show 0 < 2 ^ 31 by decide), nI_clamp (show 1 < 2 ^ 31 by decide), nI_clamp (show j < 2 ^ 31 by omega), nI_eq, upN, c_6, c_15, c_20, c_31, c_45]) (by simp [rJnB, rJnA, ntS, ntA, rIx, mmOf_0, mmOf_1, nI_clamp (show 0 < 2 ^ 31 by decide), nI_clamp (show 1 < 2 ^ 31 by decide), nI_clamp (show j < 2 ^ 31 by omega), nI_eq, c_6, c_15, c_20, c_31, c_45]) dX10_join_50
        · refine g_iconst (v := (-1)) X dX10_join_34 rfl ?_
          exact g_iretv (r := (-1)) X hx rfl (by simp [rJnV, rJnB, rJnA, c_6, c_15, c_20, c_31]) (by simp [rJnB, rJnA, c_6, c_15, c_20, c_31]) dX10_join_35
set_option maxHeartbeats 4000000 in
set_option maxRecDepth 100000 in
theorem c_X10_cut (E : GE) (a : Nat → Nat) (s : MD0) (mm : Nat → Nat) (ss : Nat → Nat) (kd : Nat → Int32) (xo : Nat → Int32) (yo : Nat → Int32) (fr : Nat → Int32) (tt : Nat → Int32) (nm : Nat → Int32) (ah : Nat → Int32) (z : Int32) (i : Int32) (hmm : ∀ g, g < 2 → mm g ≤ 8) (hss : ∀ g, g < 2 → ss g ≤ 8) (hU : dU s ≤ 8) : CT E m_X10_cut [.ref (a 0), .int z, .int i] ([wMd E a s, wAn E (a 2) 2 mm, wAn E (a 3) 2 ss, wAr E (a 4) 16 kd, wAr E (a 5) 16 xo, wAr E (a 6) 16 yo, wAr E (a 7) 16 fr, wAr E (a 8) 16 tt, wAr E (a 9) 16 nm, wAr E (a 10) 816 ah].flatten) (some (.int (if hasR ss z i then nI (mmOf ss z - 1) else -1))) ([wMd E a (if hasR ss z i then ntS s else s), wAn E (a 2) 2 mm, wAn E (a 3) 2 (if hasR ss z i then upN ss z.toNatClampNeg (mmOf ss z - 1) else ss), wAr E (a 4) 16 kd, wAr E (a 5) 16 xo, wAr E (a 6) 16 yo, wAr E (a 7) 16 (if hasR ss z i then shG fr (rIx z i) (8 * z.toNatClampNeg + (mmOf ss z - 1)) else fr), wAr E (a 8) 16 (if hasR ss z i then shG tt (rIx z i) (8 * z.toNatClampNeg + (mmOf ss z - 1)) else tt), wAr E (a 9) 16 (if hasR ss z i then shG nm (rIx z i) (8 * z.toNatClampNeg + (mmOf ss z - 1)) else nm), wAr E (a 10) 816 (if hasR ss z i then ntA s mm ss kd xo yo fr tt nm ah else ah)].flatten) := by
  refine CT.intro (by decide +kernel) (Nat.le_of_ble_eq_true rfl) (fun Γ X hx => ?_)
  refine GG.lv [0, 1, 2] (lv' := [(0, .ref (a 0)), (1, .int z), (2, .int i)]) rfl ?_
  have hm0 := hmm 0 (by decide)
  have hm1 := hmm 1 (by decide)
  have hs0 := hss 0 (by decide)
  have hs1 := hss 1 (by decide)
  refine g_aload_n X 0 dX10_cut_0 rfl ?_
  refine g_iload_n X 1 dX10_cut_1 rfl ?_
  refine g_iload_n X 2 dX10_cut_2 rfl ?_
  refine g_callVr (st2 := [.int (b2i (hasR ss z i))]) (q0 := 0) X (c_X10_isStreet E a s ss z i) cs_X10_104 rfl [0, 2] [1, 3, 4, 5, 6, 7, 8, 9] 10 rfl (by decide) rfl rfl rfl rfl rfl (Nat.le_of_ble_eq_true rfl) dX10_cut_3 rfl ?_
  refine g_bif_ne (tgt := 11) X dX10_cut_6 (by decide) (fun c_6 => ?_) (fun c_6 => ?_)
  · rcases hasR_or hss c_6 with ⟨rfl, j, hj, rfl⟩ | ⟨rfl, j, hj, rfl⟩
    · refine g_aload_n X 0 dX10_cut_11 rfl ?_
      refine g_callV (st2 := []) (S' := [wMd E a (dR s, dN0 s, ntU (dU s), dK s, dP s, dX s, dY s, dS s, dA s, dQ s), wAn E (a 2) 2 mm, wAn E (a 3) 2 ss, wAr E (a 4) 16 kd, wAr E (a 5) 16 xo, wAr E (a 6) 16 yo, wAr E (a 7) 16 fr, wAr E (a 8) 16 tt, wAr E (a 9) 16 nm, wAr E (a 10) 816 (lyF (snp (dR s, dN0 s, mm, ss, kd, xo, yo, fr, tt, nm)) (ntF ah (dU s)) (ntQ (dU s)))]) (q0 := 0) X (c_X10_notes E a s mm ss kd xo yo fr tt nm ah (by first | assumption | omega)) cs_X10_114 rfl [0, 1, 2, 3, 4, 5, 6, 7, 8, 9] [] 10 rfl rfl (by decide) [] rfl rfl rfl rfl (by simp only [List.map_cons, List.map_nil, fsAn, fsAr, fsMd]) rfl rfl rfl rfl (Nat.le_of_ble_eq_true rfl) dX10_cut_12 rfl ?_
      refine g_aload_n X 0 dX10_cut_15 rfl ?_
      refine g_getf (v := .ref (a 3)) X fs_X10_20 0 rfl rfl dX10_cut_16 ?_
      refine g_iload_n X 1 dX10_cut_19 rfl ?_
      refine g_dup2 X dX10_cut_20 rfl rfl ?_
      refine g_anld (f := ss) X 2 rfl 0 (ix_nI (by omega) (by decide)) dX10_cut_21 ?_
      refine g_iconst (v := (nI 1)) X dX10_cut_22 rfl ?_
      refine g_isubN X (by omega) dX10_cut_23 ?_
      refine g_anst (S' := [wMd E a (dR s, dN0 s, ntU (dU s), dK s, dP s, dX s, dY s, dS s, dA s, dQ s), wAn E (a 2) 2 mm, wAn E (a 3) 2 (upN ss 0 ((ss 0) - 1)), wAr E (a 4) 16 kd, wAr E (a 5) 16 xo, wAr E (a 6) 16 yo, wAr E (a 7) 16 fr, wAr E (a 8) 16 tt, wAr E (a 9) 16 nm, wAr E (a 10) 816 (lyF (snp (dR s, dN0 s, mm, ss, kd, xo, yo, fr, tt, nm)) (ntF ah (dU s)) (ntQ (dU s)))]) X 2 rfl 0 (ix_nI (by omega) (by decide)) rfl dX10_cut_24 ?_
      refine g_iload_n X 2 dX10_cut_25 rfl ?_
      refine g_istore_n (lv' := [(3, .int (nI j)), (0, .ref (a 0)), (1, .int (nI 0)), (2, .int (nI j))]) X dX10_cut_26 (by decide) rfl ?_
      have L_27 : ∀ (n_27 : Nat) (k : Nat) (hk : k ≤ ss 0 - 1) (hjk : j ≤ k) (hm_27 : ss 0 - 1 - k < n_27) (x_3 : Int32) (ex_3 : x_3 = (nI k)) (u_0 : Nat → Int32) (eu_0 : u_0 = shG fr (j) (k)) (u_1 : Nat → Int32) (eu_1 : u_1 = shG tt (j) (k)) (u_2 : Nat → Int32) (eu_2 : u_2 = shG nm (j) (k)), GG E m_X10_cut Γ 0 0 ([wMd E a (dR s, dN0 s, ntU (dU s), dK s, dP s, dX s, dY s, dS s, dA s, dQ s), wAn E (a 2) 2 mm, wAn E (a 3) 2 (upN ss 0 ((ss 0) - 1)), wAr E (a 4) 16 kd, wAr E (a 5) 16 xo, wAr E (a 6) 16 yo, wAr E (a 7) 16 u_0, wAr E (a 8) 16 u_1, wAr E (a 9) 16 u_2, wAr E (a 10) 816 (lyF (snp (dR s, dN0 s, mm, ss, kd, xo, yo, fr, tt, nm)) (ntF ah (dU s)) (ntQ (dU s)))].flatten) [(0, .ref (a 0)), (1, .int (nI 0)), (2, .int (nI j)), (3, .int x_3)] 27 [] := by
        intro n_27
        induction n_27 with
        | zero => intro k hk hjk hm_27; exact absurd hm_27 (Nat.not_lt_zero _)
        | succ n_27 ih_27 =>
          intro k hk hjk hm_27 x_3 ex_3 u_0 eu_0 u_1 eu_1 u_2 eu_2
          subst ex_3
          subst eu_0
          subst eu_1
          subst eu_2
          refine g_iload_n X 3 dX10_cut_27 rfl ?_
          refine g_aload_n X 0 dX10_cut_28 rfl ?_
          refine g_getf (v := .ref (a 3)) X fs_X10_20 0 rfl rfl dX10_cut_29 ?_
          refine g_iload_n X 1 dX10_cut_32 rfl ?_
          refine g_anld (f := (upN ss 0 ((ss 0) - 1))) X 2 rfl 0 (ix_nI (by omega) (by decide)) dX10_cut_33 ?_
          rw [upN_s]
          refine g_icmp_ge (tgt := 99) X dX10_cut_34 (by decide) (fun c_34 => ?_) (fun c_34 => ?_)
          · have f_c_34 : ss 0 - 1 ≤ k := n_le (by omega) (by omega) c_34
            have fn_c_34 := Nat.not_lt.mpr f_c_34
            have ek : k = ss 0 - 1 := by omega
            subst ek
            refine g_aload_n X 0 dX10_cut_99 rfl ?_
            refine g_getf (v := .ref (a 3)) X fs_X10_20 0 rfl rfl dX10_cut_100 ?_
            refine g_iload_n X 1 dX10_cut_103 rfl ?_
            refine g_anld (f := (upN ss 0 ((ss 0) - 1))) X 2 rfl 0 (ix_nI (by omega) (by decide)) dX10_cut_104 ?_
            exact g_iretv (r := (nI ((upN ss 0 ((ss 0) - 1)) 0))) X hx rfl (by simp [rIx, mmOf_0, mmOf_1, nI_clamp (show 0 < 2 ^ 31 by decide), nI_clamp (show 1 < 2 ^ 31 by decide), nI_clamp (show j < 2 ^ 31 by omega), nI_eq, upN, c_6, c_34, f_c_34, fn_c_34]) (by simp [ntS, ntA, rIx, mmOf_0, mmOf_1, nI_clamp (show 0 < 2 ^ 31 by decide), nI_clamp (show 1 < 2 ^ 31 by decide), nI_clamp (show j < 2 ^ 31 by omega), nI_eq, c_6, c_34, f_c_34, fn_c_34]) dX10_cut_105
          · have f_c_34 : k < ss 0 - 1 := n_nle (by omega) (by omega) c_34
            have fn_c_34 := Nat.not_le.mpr f_c_34
            refine g_bipush (v := (nI 8)) X dX10_cut_37 rfl ?_
            refine g_iload_n X 1 dX10_cut_39 rfl ?_
            refine g_imulN X dX10_cut_40 ?_
            refine g_iload_n X 3 dX10_cut_41 rfl ?_
            refine g_iaddN X dX10_cut_42 ?_
            rw [show 8 * 0 + k = k from Nat.zero_add _]
            refine g_istore (lv' := [(4, .int (nI k)), (0, .ref (a 0)), (1, .int (nI 0)), (2, .int (nI j)), (3, .int (nI k))]) X dX10_cut_43 (by decide) rfl ?_
            refine g_aload_n X 1 dX10_cut_45 rfl ?_
            refine g_getf (v := .ref (a 7)) X fs_X10_32 0 rfl rfl dX10_cut_46 ?_
            refine g_iload X 0 dX10_cut_49 rfl ?_
            refine g_aload_n X 1 dX10_cut_51 rfl ?_
            refine g_getf (v := .ref (a 7)) X fs_X10_32 0 rfl rfl dX10_cut_52 ?_
            refine g_iload X 0 dX10_cut_55 rfl ?_
            refine g_iconst (v := (nI 1)) X dX10_cut_57 rfl ?_
            refine g_iaddN X dX10_cut_58 ?_
            refine g_iald X 6 rfl (k + 1) (ix_nI (by omega) (by decide)) dX10_cut_59 ?_
            refine g_iast (ws' := [wMd E a (dR s, dN0 s, ntU (dU s), dK s, dP s, dX s, dY s, dS s, dA s, dQ s), wAn E (a 2) 2 mm, wAn E (a 3) 2 (upN ss 0 ((ss 0) - 1)), wAr E (a 4) 16 kd, wAr E (a 5) 16 xo, wAr E (a 6) 16 yo, wAr E (a 7) 16 (upd (shG fr (j) (k)) k ((shG fr (j) (k)) (k + 1))), wAr E (a 8) 16 (shG tt (j) (k)), wAr E (a 9) 16 (shG nm (j) (k)), wAr E (a 10) 816 (lyF (snp (dR s, dN0 s, mm, ss, kd, xo, yo, fr, tt, nm)) (ntF ah (dU s)) (ntQ (dU s)))].flatten) X 6 rfl k (ix_nI (by omega) (by decide)) rfl dX10_cut_60 ?_
            refine g_aload_n X 1 dX10_cut_61 rfl ?_
            refine g_getf (v := .ref (a 8)) X fs_X10_35 0 rfl rfl dX10_cut_62 ?_
            refine g_iload X 0 dX10_cut_65 rfl ?_
            refine g_aload_n X 1 dX10_cut_67 rfl ?_
            refine g_getf (v := .ref (a 8)) X fs_X10_35 0 rfl rfl dX10_cut_68 ?_
            refine g_iload X 0 dX10_cut_71 rfl ?_
            refine g_iconst (v := (nI 1)) X dX10_cut_73 rfl ?_
            refine g_iaddN X dX10_cut_74 ?_
            refine g_iald X 7 rfl (k + 1) (ix_nI (by omega) (by decide)) dX10_cut_75 ?_
            refine g_iast (ws' := [wMd E a (dR s, dN0 s, ntU (dU s), dK s, dP s, dX s, dY s, dS s, dA s, dQ s), wAn E (a 2) 2 mm, wAn E (a 3) 2 (upN ss 0 ((ss 0) - 1)), wAr E (a 4) 16 kd, wAr E (a 5) 16 xo, wAr E (a 6) 16 yo, wAr E (a 7) 16 (upd (shG fr (j) (k)) k ((shG fr (j) (k)) (k + 1))), wAr E (a 8) 16 (upd (shG tt (j) (k)) k ((shG tt (j) (k)) (k + 1))), wAr E (a 9) 16 (shG nm (j) (k)), wAr E (a 10) 816 (lyF (snp (dR s, dN0 s, mm, ss, kd, xo, yo, fr, tt, nm)) (ntF ah (dU s)) (ntQ (dU s)))].flatten) X 7 rfl k (ix_nI (by omega) (by decide)) rfl dX10_cut_76 ?_
            refine g_aload_n X 1 dX10_cut_77 rfl ?_
            refine g_getf (v := .ref (a 9)) X fs_X10_38 0 rfl rfl dX10_cut_78 ?_
            refine g_iload X 0 dX10_cut_81 rfl ?_
            refine g_aload_n X 1 dX10_cut_83 rfl ?_
            refine g_getf (v := .ref (a 9)) X fs_X10_38 0 rfl rfl dX10_cut_84 ?_
            refine g_iload X 0 dX10_cut_87 rfl ?_
            refine g_iconst (v := (nI 1)) X dX10_cut_89 rfl ?_
            refine g_iaddN X dX10_cut_90 ?_
            refine g_iald X 8 rfl (k + 1) (ix_nI (by omega) (by decide)) dX10_cut_91 ?_
            refine g_iast (ws' := [wMd E a (dR s, dN0 s, ntU (dU s), dK s, dP s, dX s, dY s, dS s, dA s, dQ s), wAn E (a 2) 2 mm, wAn E (a 3) 2 (upN ss 0 ((ss 0) - 1)), wAr E (a 4) 16 kd, wAr E (a 5) 16 xo, wAr E (a 6) 16 yo, wAr E (a 7) 16 (upd (shG fr (j) (k)) k ((shG fr (j) (k)) (k + 1))), wAr E (a 8) 16 (upd (shG tt (j) (k)) k ((shG tt (j) (k)) (k + 1))), wAr E (a 9) 16 (upd (shG nm (j) (k)) k ((shG nm (j) (k)) (k + 1))), wAr E (a 10) 816 (lyF (snp (dR s, dN0 s, mm, ss, kd, xo, yo, fr, tt, nm)) (ntF ah (dU s)) (ntQ (dU s)))].flatten) X 8 rfl k (ix_nI (by omega) (by decide)) rfl dX10_cut_92 ?_
            refine g_iincN (lv' := [(3, .int (nI (k + 1))), (4, .int (nI k)), (0, .ref (a 0)), (1, .int (nI 0)), (2, .int (nI j))]) X 4 dX10_cut_93 rfl (by decide) rfl ?_
            refine g_goto (tgt := 27) X dX10_cut_96 (by decide) ?_
            refine GG.lv [2, 3, 4, 0] rfl ?_
            exact ih_27 (k + 1) (by omega) (by omega) (by omega) (nI (k + 1)) (by rfl) (upd (shG fr (j) (k)) k ((shG fr (j) (k)) (k + 1))) (by exact shG_s _ (by omega)) (upd (shG tt (j) (k)) k ((shG tt (j) (k)) (k + 1))) (by exact shG_s _ (by omega)) (upd (shG nm (j) (k)) k ((shG nm (j) (k)) (k + 1))) (by exact shG_s _ (by omega))
      refine GG.lv [1, 2, 3, 0] rfl ?_
      exact L_27 (ss 0 + 1) j (by omega) (by omega) (by omega) (nI j) (by rfl) fr (by exact (shG_0 _ _).symm) tt (by exact (shG_0 _ _).symm) nm (by exact (shG_0 _ _).symm)
    · refine g_aload_n X 0 dX10_cut_11 rfl ?_
      refine g_callV (st2 := []) (S' := [wMd E a (dR s, dN0 s, ntU (dU s), dK s, dP s, dX s, dY s, dS s, dA s, dQ s), wAn E (a 2) 2 mm, wAn E (a 3) 2 ss, wAr E (a 4) 16 kd, wAr E (a 5) 16 xo, wAr E (a 6) 16 yo, wAr E (a 7) 16 fr, wAr E (a 8) 16 tt, wAr E (a 9) 16 nm, wAr E (a 10) 816 (lyF (snp (dR s, dN0 s, mm, ss, kd, xo, yo, fr, tt, nm)) (ntF ah (dU s)) (ntQ (dU s)))]) (q0 := 0) X (c_X10_notes E a s mm ss kd xo yo fr tt nm ah (by first | assumption | omega)) cs_X10_114 rfl [0, 1, 2, 3, 4, 5, 6, 7, 8, 9] [] 10 rfl rfl (by decide) [] rfl rfl rfl rfl (by simp only [List.map_cons, List.map_nil, fsAn, fsAr, fsMd]) rfl rfl rfl rfl (Nat.le_of_ble_eq_true rfl) dX10_cut_12 rfl ?_
      refine g_aload_n X 0 dX10_cut_15 rfl ?_
      refine g_getf (v := .ref (a 3)) X fs_X10_20 0 rfl rfl dX10_cut_16 ?_
      refine g_iload_n X 1 dX10_cut_19 rfl ?_
      refine g_dup2 X dX10_cut_20 rfl rfl ?_
      refine g_anld (f := ss) X 2 rfl 1 (ix_nI (by omega) (by decide)) dX10_cut_21 ?_
      refine g_iconst (v := (nI 1)) X dX10_cut_22 rfl ?_
      refine g_isubN X (by omega) dX10_cut_23 ?_
      refine g_anst (S' := [wMd E a (dR s, dN0 s, ntU (dU s), dK s, dP s, dX s, dY s, dS s, dA s, dQ s), wAn E (a 2) 2 mm, wAn E (a 3) 2 (upN ss 1 ((ss 1) - 1)), wAr E (a 4) 16 kd, wAr E (a 5) 16 xo, wAr E (a 6) 16 yo, wAr E (a 7) 16 fr, wAr E (a 8) 16 tt, wAr E (a 9) 16 nm, wAr E (a 10) 816 (lyF (snp (dR s, dN0 s, mm, ss, kd, xo, yo, fr, tt, nm)) (ntF ah (dU s)) (ntQ (dU s)))]) X 2 rfl 1 (ix_nI (by omega) (by decide)) rfl dX10_cut_24 ?_
      refine g_iload_n X 2 dX10_cut_25 rfl ?_
      refine g_istore_n (lv' := [(3, .int (nI j)), (0, .ref (a 0)), (1, .int (nI 1)), (2, .int (nI j))]) X dX10_cut_26 (by decide) rfl ?_
      have L_27 : ∀ (n_27 : Nat) (k : Nat) (hk : k ≤ ss 1 - 1) (hjk : j ≤ k) (hm_27 : ss 1 - 1 - k < n_27) (x_3 : Int32) (ex_3 : x_3 = (nI k)) (u_0 : Nat → Int32) (eu_0 : u_0 = shG fr (8 + j) (8 + k)) (u_1 : Nat → Int32) (eu_1 : u_1 = shG tt (8 + j) (8 + k)) (u_2 : Nat → Int32) (eu_2 : u_2 = shG nm (8 + j) (8 + k)), GG E m_X10_cut Γ 0 0 ([wMd E a (dR s, dN0 s, ntU (dU s), dK s, dP s, dX s, dY s, dS s, dA s, dQ s), wAn E (a 2) 2 mm, wAn E (a 3) 2 (upN ss 1 ((ss 1) - 1)), wAr E (a 4) 16 kd, wAr E (a 5) 16 xo, wAr E (a 6) 16 yo, wAr E (a 7) 16 u_0, wAr E (a 8) 16 u_1, wAr E (a 9) 16 u_2, wAr E (a 10) 816 (lyF (snp (dR s, dN0 s, mm, ss, kd, xo, yo, fr, tt, nm)) (ntF ah (dU s)) (ntQ (dU s)))].flatten) [(0, .ref (a 0)), (1, .int (nI 1)), (2, .int (nI j)), (3, .int x_3)] 27 [] := by
        intro n_27
        induction n_27 with
        | zero => intro k hk hjk hm_27; exact absurd hm_27 (Nat.not_lt_zero _)
        | succ n_27 ih_27 =>
          intro k hk hjk hm_27 x_3 ex_3 u_0 eu_0 u_1 eu_1 u_2 eu_2
          subst ex_3
          subst eu_0
          subst eu_1
          subst eu_2
          refine g_iload_n X 3 dX10_cut_27 rfl ?_
          refine g_aload_n X 0 dX10_cut_28 rfl ?_
          refine g_getf (v := .ref (a 3)) X fs_X10_20 0 rfl rfl dX10_cut_29 ?_
          refine g_iload_n X 1 dX10_cut_32 rfl ?_
          refine g_anld (f := (upN ss 1 ((ss 1) - 1))) X 2 rfl 1 (ix_nI (by omega) (by decide)) dX10_cut_33 ?_
          rw [upN_s]
          refine g_icmp_ge (tgt := 99) X dX10_cut_34 (by decide) (fun c_34 => ?_) (fun c_34 => ?_)
          · have f_c_34 : ss 1 - 1 ≤ k := n_le (by omega) (by omega) c_34
            have fn_c_34 := Nat.not_lt.mpr f_c_34
            have ek : k = ss 1 - 1 := by omega
            subst ek
            refine g_aload_n X 0 dX10_cut_99 rfl ?_
            refine g_getf (v := .ref (a 3)) X fs_X10_20 0 rfl rfl dX10_cut_100 ?_
            refine g_iload_n X 1 dX10_cut_103 rfl ?_
            refine g_anld (f := (upN ss 1 ((ss 1) - 1))) X 2 rfl 1 (ix_nI (by omega) (by decide)) dX10_cut_104 ?_
            exact g_iretv (r := (nI ((upN ss 1 ((ss 1) - 1)) 1))) X hx rfl (by simp [rIx, mmOf_0, mmOf_1, nI_clamp (show 0 < 2 ^ 31 by decide), nI_clamp (show 1 < 2 ^ 31 by decide), nI_clamp (show j < 2 ^ 31 by omega), nI_eq, upN, c_6, c_34, f_c_34, fn_c_34]) (by simp [ntS, ntA, rIx, mmOf_0, mmOf_1, nI_clamp (show 0 < 2 ^ 31 by decide), nI_clamp (show 1 < 2 ^ 31 by decide), nI_clamp (show j < 2 ^ 31 by omega), nI_eq, c_6, c_34, f_c_34, fn_c_34]) dX10_cut_105
          · have f_c_34 : k < ss 1 - 1 := n_nle (by omega) (by omega) c_34
            have fn_c_34 := Nat.not_le.mpr f_c_34
            refine g_bipush (v := (nI 8)) X dX10_cut_37 rfl ?_
            refine g_iload_n X 1 dX10_cut_39 rfl ?_
            refine g_imulN X dX10_cut_40 ?_
            refine g_iload_n X 3 dX10_cut_41 rfl ?_
            refine g_iaddN X dX10_cut_42 ?_
            refine g_istore (lv' := [(4, .int (nI (8 + k))), (0, .ref (a 0)), (1, .int (nI 1)), (2, .int (nI j)), (3, .int (nI k))]) X dX10_cut_43 (by decide) rfl ?_
            refine g_aload_n X 1 dX10_cut_45 rfl ?_
            refine g_getf (v := .ref (a 7)) X fs_X10_32 0 rfl rfl dX10_cut_46 ?_
            refine g_iload X 0 dX10_cut_49 rfl ?_
            refine g_aload_n X 1 dX10_cut_51 rfl ?_
            refine g_getf (v := .ref (a 7)) X fs_X10_32 0 rfl rfl dX10_cut_52 ?_
            refine g_iload X 0 dX10_cut_55 rfl ?_
            refine g_iconst (v := (nI 1)) X dX10_cut_57 rfl ?_
            refine g_iaddN X dX10_cut_58 ?_
            refine g_iald X 6 rfl ((8 + k) + 1) (ix_nI (by omega) (by decide)) dX10_cut_59 ?_
            refine g_iast (ws' := [wMd E a (dR s, dN0 s, ntU (dU s), dK s, dP s, dX s, dY s, dS s, dA s, dQ s), wAn E (a 2) 2 mm, wAn E (a 3) 2 (upN ss 1 ((ss 1) - 1)), wAr E (a 4) 16 kd, wAr E (a 5) 16 xo, wAr E (a 6) 16 yo, wAr E (a 7) 16 (upd (shG fr (8 + j) (8 + k)) (8 + k) ((shG fr (8 + j) (8 + k)) ((8 + k) + 1))), wAr E (a 8) 16 (shG tt (8 + j) (8 + k)), wAr E (a 9) 16 (shG nm (8 + j) (8 + k)), wAr E (a 10) 816 (lyF (snp (dR s, dN0 s, mm, ss, kd, xo, yo, fr, tt, nm)) (ntF ah (dU s)) (ntQ (dU s)))].flatten) X 6 rfl (8 + k) (ix_nI (by omega) (by decide)) rfl dX10_cut_60 ?_
            refine g_aload_n X 1 dX10_cut_61 rfl ?_
            refine g_getf (v := .ref (a 8)) X fs_X10_35 0 rfl rfl dX10_cut_62 ?_
            refine g_iload X 0 dX10_cut_65 rfl ?_
            refine g_aload_n X 1 dX10_cut_67 rfl ?_
            refine g_getf (v := .ref (a 8)) X fs_X10_35 0 rfl rfl dX10_cut_68 ?_
            refine g_iload X 0 dX10_cut_71 rfl ?_
            refine g_iconst (v := (nI 1)) X dX10_cut_73 rfl ?_
            refine g_iaddN X dX10_cut_74 ?_
            refine g_iald X 7 rfl ((8 + k) + 1) (ix_nI (by omega) (by decide)) dX10_cut_75 ?_
            refine g_iast (ws' := [wMd E a (dR s, dN0 s, ntU (dU s), dK s, dP s, dX s, dY s, dS s, dA s, dQ s), wAn E (a 2) 2 mm, wAn E (a 3) 2 (upN ss 1 ((ss 1) - 1)), wAr E (a 4) 16 kd, wAr E (a 5) 16 xo, wAr E (a 6) 16 yo, wAr E (a 7) 16 (upd (shG fr (8 + j) (8 + k)) (8 + k) ((shG fr (8 + j) (8 + k)) ((8 + k) + 1))), wAr E (a 8) 16 (upd (shG tt (8 + j) (8 + k)) (8 + k) ((shG tt (8 + j) (8 + k)) ((8 + k) + 1))), wAr E (a 9) 16 (shG nm (8 + j) (8 + k)), wAr E (a 10) 816 (lyF (snp (dR s, dN0 s, mm, ss, kd, xo, yo, fr, tt, nm)) (ntF ah (dU s)) (ntQ (dU s)))].flatten) X 7 rfl (8 + k) (ix_nI (by omega) (by decide)) rfl dX10_cut_76 ?_
            refine g_aload_n X 1 dX10_cut_77 rfl ?_
            refine g_getf (v := .ref (a 9)) X fs_X10_38 0 rfl rfl dX10_cut_78 ?_
            refine g_iload X 0 dX10_cut_81 rfl ?_
            refine g_aload_n X 1 dX10_cut_83 rfl ?_
            refine g_getf (v := .ref (a 9)) X fs_X10_38 0 rfl rfl dX10_cut_84 ?_
            refine g_iload X 0 dX10_cut_87 rfl ?_
            refine g_iconst (v := (nI 1)) X dX10_cut_89 rfl ?_
            refine g_iaddN X dX10_cut_90 ?_
            refine g_iald X 8 rfl ((8 + k) + 1) (ix_nI (by omega) (by decide)) dX10_cut_91 ?_
            refine g_iast (ws' := [wMd E a (dR s, dN0 s, ntU (dU s), dK s, dP s, dX s, dY s, dS s, dA s, dQ s), wAn E (a 2) 2 mm, wAn E (a 3) 2 (upN ss 1 ((ss 1) - 1)), wAr E (a 4) 16 kd, wAr E (a 5) 16 xo, wAr E (a 6) 16 yo, wAr E (a 7) 16 (upd (shG fr (8 + j) (8 + k)) (8 + k) ((shG fr (8 + j) (8 + k)) ((8 + k) + 1))), wAr E (a 8) 16 (upd (shG tt (8 + j) (8 + k)) (8 + k) ((shG tt (8 + j) (8 + k)) ((8 + k) + 1))), wAr E (a 9) 16 (upd (shG nm (8 + j) (8 + k)) (8 + k) ((shG nm (8 + j) (8 + k)) ((8 + k) + 1))), wAr E (a 10) 816 (lyF (snp (dR s, dN0 s, mm, ss, kd, xo, yo, fr, tt, nm)) (ntF ah (dU s)) (ntQ (dU s)))].flatten) X 8 rfl (8 + k) (ix_nI (by omega) (by decide)) rfl dX10_cut_92 ?_
            refine g_iincN (lv' := [(3, .int (nI (k + 1))), (4, .int (nI (8 + k))), (0, .ref (a 0)), (1, .int (nI 1)), (2, .int (nI j))]) X 4 dX10_cut_93 rfl (by decide) rfl ?_
            refine g_goto (tgt := 27) X dX10_cut_96 (by decide) ?_
            refine GG.lv [2, 3, 4, 0] rfl ?_
            exact ih_27 (k + 1) (by omega) (by omega) (by omega) (nI (k + 1)) (by rfl) (upd (shG fr (8 + j) (8 + k)) (8 + k) ((shG fr (8 + j) (8 + k)) ((8 + k) + 1))) (by exact shG_s _ (by omega)) (upd (shG tt (8 + j) (8 + k)) (8 + k) ((shG tt (8 + j) (8 + k)) ((8 + k) + 1))) (by exact shG_s _ (by omega)) (upd (shG nm (8 + j) (8 + k)) (8 + k) ((shG nm (8 + j) (8 + k)) ((8 + k) + 1))) (by exact shG_s _ (by omega))
      refine GG.lv [1, 2, 3, 0] rfl ?_
      exact L_27 (ss 1 + 1) j (by omega) (by omega) (by omega) (nI j) (by rfl) fr (by exact (shG_0 _ _).symm) tt (by exact (shG_0 _ _).symm) nm (by exact (shG_0 _ _).symm)
  · refine g_iconst (v := (-1)) X dX10_cut_9 rfl ?_
    exact g_iretv (r := (-1)) X hx rfl (by simp [c_6]) (by simp [c_6]) dX10_cut_10
set_option maxHeartbeats 4000000 in
set_option maxRecDepth 100000 in
theorem c_X10_tune (E : GE) (a : Nat → Nat) (s : MD0) (mm : Nat → Nat) (ss : Nat → Nat) (kd : Nat → Int32) (xo : Nat → Int32) (yo : Nat → Int32) (fr : Nat → Int32) (tt : Nat → Int32) (nm : Nat → Int32) (ah : Nat → Int32) (q : Int32) (x : Int32) (hmm : ∀ g, g < 2 → mm g ≤ 8) (hss : ∀ g, g < 2 → ss g ≤ 8) (hU : dU s ≤ 8) (hN : dN0 s ≤ 3) : CT E m_X10_tune [.ref (a 0), .int q, .int x] ([wMd E a s, wAn E (a 2) 2 mm, wAn E (a 3) 2 ss, wAr E (a 4) 16 kd, wAr E (a 5) 16 xo, wAr E (a 6) 16 yo, wAr E (a 7) 16 fr, wAr E (a 8) 16 tt, wAr E (a 9) 16 nm, wAr E (a 10) 816 ah].flatten) (some (.int (rTnV s q x))) ([wMd E a (rTnS s q x), wAn E (a 2) 2 mm, wAn E (a 3) 2 ss, wAr E (a 4) 16 kd, wAr E (a 5) 16 xo, wAr E (a 6) 16 yo, wAr E (a 7) 16 fr, wAr E (a 8) 16 tt, wAr E (a 9) 16 nm, wAr E (a 10) 816 (if rTnB s q x then ntA s mm ss kd xo yo fr tt nm ah else ah)].flatten) := by
  refine CT.intro (by decide +kernel) (Nat.le_of_ble_eq_true rfl) (fun Γ X hx => ?_)
  refine GG.lv [0, 1, 2] (lv' := [(0, .ref (a 0)), (1, .int q), (2, .int x)]) rfl ?_
  refine g_iload_n X 1 dX10_tune_0 rfl ?_
  refine g_iconst (v := (nI 0)) X dX10_tune_1 rfl ?_
  refine g_iconst (v := (nI 1)) X dX10_tune_2 rfl ?_
  refine g_callSP (st2 := [.int (b2i (inR q (nI 0) (nI 1)))]) (ws' := [wMd E a s, wAn E (a 2) 2 mm, wAn E (a 3) 2 ss, wAr E (a 4) 16 kd, wAr E (a 5) 16 xo, wAr E (a 6) 16 yo, wAr E (a 7) 16 fr, wAr E (a 8) 16 tt, wAr E (a 9) 16 nm, wAr E (a 10) 816 ah].flatten) (wr := [wMd E a s, wAn E (a 2) 2 mm, wAn E (a 3) 2 ss, wAr E (a 4) 16 kd, wAr E (a 5) 16 xo, wAr E (a 6) 16 yo, wAr E (a 7) 16 fr, wAr E (a 8) 16 tt, wAr E (a 9) 16 nm, wAr E (a 10) 816 ah].flatten) X (c_X10_in E q (nI 0) (nI 1)) cs_X10_84 rfl (List.Perm.refl _) rfl (List.Perm.refl _) rfl rfl (Nat.le_of_ble_eq_true rfl) dX10_tune_3 rfl ?_
  refine g_bif_eq (tgt := 35) X dX10_tune_6 (by decide) (fun c_6 => ?_) (fun c_6 => ?_)
  · refine g_iconst (v := (-1)) X dX10_tune_35 rfl ?_
    exact g_iretv (r := (-1)) X hx rfl (by simp [rTnV, rTnB, rTnA, rTnW, nI_eq, c_6]) (by simp [rTnS, rTnB, rTnA, rTnW, ntS, ntA, nI_eq, c_6]) dX10_tune_36
  · rcases inR01 c_6 with rfl | rfl
    · refine g_iload_n X 1 dX10_tune_9 rfl ?_
      refine g_if_ne (tgt := 26) X dX10_tune_10 (by decide) (fun c_10 => absurd c_10 (by decide)) (fun c_10 => ?_)
      refine g_iload_n X 2 dX10_tune_13 rfl ?_
      refine g_iconst (v := (nI 1)) X dX10_tune_14 rfl ?_
      refine g_bipush (v := (nI 20)) X dX10_tune_15 rfl ?_
      refine g_callSP (st2 := [.int (b2i (inR x (nI 1) (nI 20)))]) (ws' := [wMd E a s, wAn E (a 2) 2 mm, wAn E (a 3) 2 ss, wAr E (a 4) 16 kd, wAr E (a 5) 16 xo, wAr E (a 6) 16 yo, wAr E (a 7) 16 fr, wAr E (a 8) 16 tt, wAr E (a 9) 16 nm, wAr E (a 10) 816 ah].flatten) (wr := [wMd E a s, wAn E (a 2) 2 mm, wAn E (a 3) 2 ss, wAr E (a 4) 16 kd, wAr E (a 5) 16 xo, wAr E (a 6) 16 yo, wAr E (a 7) 16 fr, wAr E (a 8) 16 tt, wAr E (a 9) 16 nm, wAr E (a 10) 816 ah].flatten) X (c_X10_in E x (nI 1) (nI 20)) cs_X10_84 rfl (List.Perm.refl _) rfl (List.Perm.refl _) rfl rfl (Nat.le_of_ble_eq_true rfl) dX10_tune_17 rfl ?_
      refine g_bif_eq (tgt := 35) X dX10_tune_20 (by decide) (fun c_20 => ?_) (fun c_20 => ?_)
      · refine g_iconst (v := (-1)) X dX10_tune_35 rfl ?_
        exact g_iretv (r := (-1)) X hx rfl (by simp [rTnV, rTnB, rTnA, rTnW, nI_eq, c_6, c_20]) (by simp [rTnS, rTnB, rTnA, rTnW, ntS, ntA, nI_eq, c_6, c_20]) dX10_tune_36
      · refine g_goto (tgt := 37) X dX10_tune_23 (by decide) ?_
        refine g_iload_n X 1 dX10_tune_37 rfl ?_
        refine g_if_ne (tgt := 48) X dX10_tune_38 (by decide) (fun c_38 => absurd c_38 (by decide)) (fun c_38 => ?_)
        refine g_aload_n X 0 dX10_tune_41 rfl ?_
        refine g_getf (v := .int (dR s)) X fs_X10_7 0 rfl rfl dX10_tune_42 ?_
        refine g_goto (tgt := 52) X dX10_tune_45 (by decide) ?_
        refine g_istore_n (lv' := [(3, .int (dR s)), (0, .ref (a 0)), (1, .int (nI 0)), (2, .int x)]) X dX10_tune_52 (by decide) rfl ?_
        refine g_iload_n X 0 dX10_tune_53 rfl ?_
        refine g_iload_n X 3 dX10_tune_54 rfl ?_
        refine g_icmp_ne (tgt := 61) X dX10_tune_55 (by decide) (fun c_55 => ?_) (fun c_55 => ?_)
        · refine g_aload_n X 1 dX10_tune_61 rfl ?_
          refine g_callV (st2 := []) (S' := [wMd E a (dR s, dN0 s, ntU (dU s), dK s, dP s, dX s, dY s, dS s, dA s, dQ s), wAn E (a 2) 2 mm, wAn E (a 3) 2 ss, wAr E (a 4) 16 kd, wAr E (a 5) 16 xo, wAr E (a 6) 16 yo, wAr E (a 7) 16 fr, wAr E (a 8) 16 tt, wAr E (a 9) 16 nm, wAr E (a 10) 816 (lyF (snp (dR s, dN0 s, mm, ss, kd, xo, yo, fr, tt, nm)) (ntF ah (dU s)) (ntQ (dU s)))]) (q0 := 0) X (c_X10_notes E a s mm ss kd xo yo fr tt nm ah (by first | assumption | omega)) cs_X10_114 rfl [0, 1, 2, 3, 4, 5, 6, 7, 8, 9] [] 10 rfl rfl (by decide) [] rfl rfl rfl rfl (by simp only [List.map_cons, List.map_nil, fsAn, fsAr, fsMd]) rfl rfl rfl rfl (Nat.le_of_ble_eq_true rfl) dX10_tune_62 rfl ?_
          refine g_aload_n X 1 dX10_tune_65 rfl ?_
          refine g_iload_n X 2 dX10_tune_66 rfl ?_
          refine g_if_ne (tgt := 74) X dX10_tune_67 (by decide) (fun c_67 => absurd c_67 (by decide)) (fun c_67 => ?_)
          refine g_iload_n X 3 dX10_tune_70 rfl ?_
          refine g_goto (tgt := 78) X dX10_tune_71 (by decide) ?_
          refine g_putf (ws' := [wMd E a (x, dN0 (dR s, dN0 s, ntU (dU s), dK s, dP s, dX s, dY s, dS s, dA s, dQ s), dU (dR s, dN0 s, ntU (dU s), dK s, dP s, dX s, dY s, dS s, dA s, dQ s), dK (dR s, dN0 s, ntU (dU s), dK s, dP s, dX s, dY s, dS s, dA s, dQ s), dP (dR s, dN0 s, ntU (dU s), dK s, dP s, dX s, dY s, dS s, dA s, dQ s), dX (dR s, dN0 s, ntU (dU s), dK s, dP s, dX s, dY s, dS s, dA s, dQ s), dY (dR s, dN0 s, ntU (dU s), dK s, dP s, dX s, dY s, dS s, dA s, dQ s), dS (dR s, dN0 s, ntU (dU s), dK s, dP s, dX s, dY s, dS s, dA s, dQ s), dA (dR s, dN0 s, ntU (dU s), dK s, dP s, dX s, dY s, dS s, dA s, dQ s), dQ (dR s, dN0 s, ntU (dU s), dK s, dP s, dX s, dY s, dS s, dA s, dQ s)), wAn E (a 2) 2 mm, wAn E (a 3) 2 ss, wAr E (a 4) 16 kd, wAr E (a 5) 16 xo, wAr E (a 6) 16 yo, wAr E (a 7) 16 fr, wAr E (a 8) 16 tt, wAr E (a 9) 16 nm, wAr E (a 10) 816 (lyF (snp (dR s, dN0 s, mm, ss, kd, xo, yo, fr, tt, nm)) (ntF ah (dU s)) (ntQ (dU s)))].flatten) X ps_X10_7 0 rfl rfl rfl (Nat.le_of_ble_eq_true rfl) rfl dX10_tune_78 ?_
          refine g_aload_n X 1 dX10_tune_81 rfl ?_
          refine g_iload_n X 2 dX10_tune_82 rfl ?_
          refine g_iconst (v := (nI 1)) X dX10_tune_83 rfl ?_
          refine g_icmp_ne (tgt := 91) X dX10_tune_84 (by decide) (fun c_84 => ?_) (fun c_84 => absurd c_84 (by decide))
          refine g_aload_n X 1 dX10_tune_91 rfl ?_
          refine g_getf (v := .int (nI (dN0 (dR s, dN0 s, ntU (dU s), dK s, dP s, dX s, dY s, dS s, dA s, dQ s)))) X fs_X10_13 0 rfl rfl dX10_tune_92 ?_
          refine g_putf (ws' := [wMd E a (x, dN0 (dR s, dN0 s, ntU (dU s), dK s, dP s, dX s, dY s, dS s, dA s, dQ s), dU (dR s, dN0 s, ntU (dU s), dK s, dP s, dX s, dY s, dS s, dA s, dQ s), dK (dR s, dN0 s, ntU (dU s), dK s, dP s, dX s, dY s, dS s, dA s, dQ s), dP (dR s, dN0 s, ntU (dU s), dK s, dP s, dX s, dY s, dS s, dA s, dQ s), dX (dR s, dN0 s, ntU (dU s), dK s, dP s, dX s, dY s, dS s, dA s, dQ s), dY (dR s, dN0 s, ntU (dU s), dK s, dP s, dX s, dY s, dS s, dA s, dQ s), dS (dR s, dN0 s, ntU (dU s), dK s, dP s, dX s, dY s, dS s, dA s, dQ s), dA (dR s, dN0 s, ntU (dU s), dK s, dP s, dX s, dY s, dS s, dA s, dQ s), dQ (dR s, dN0 s, ntU (dU s), dK s, dP s, dX s, dY s, dS s, dA s, dQ s)), wAn E (a 2) 2 mm, wAn E (a 3) 2 ss, wAr E (a 4) 16 kd, wAr E (a 5) 16 xo, wAr E (a 6) 16 yo, wAr E (a 7) 16 fr, wAr E (a 8) 16 tt, wAr E (a 9) 16 nm, wAr E (a 10) 816 (lyF (snp (dR s, dN0 s, mm, ss, kd, xo, yo, fr, tt, nm)) (ntF ah (dU s)) (ntQ (dU s)))].flatten) X ps_X10_13 0 rfl rfl rfl (Nat.le_of_ble_eq_true rfl) rfl dX10_tune_95 ?_
          refine g_iload_n X 0 dX10_tune_98 rfl ?_
          exact g_iretv (r := (dR s)) X hx rfl (by simp [rTnV, rTnB, rTnA, rTnW, nI_eq, c_6, c_20, c_55]) (by simp [rTnS, rTnB, rTnA, rTnW, ntS, ntA, nI_eq, c_6, c_20, c_55]) dX10_tune_99
        · refine g_bipush (v := (-2)) X dX10_tune_58 rfl ?_
          exact g_iretv (r := (-2)) X hx rfl (by simp [rTnV, rTnB, rTnA, rTnW, nI_eq, c_6, c_20, c_55]) (by simp [rTnS, rTnB, rTnA, rTnW, ntS, ntA, nI_eq, c_6, c_20, c_55]) dX10_tune_60
    · refine g_iload_n X 1 dX10_tune_9 rfl ?_
      refine g_if_ne (tgt := 26) X dX10_tune_10 (by decide) (fun c_10 => ?_) (fun c_10 => absurd c_10 (by decide))
      refine g_iload_n X 2 dX10_tune_26 rfl ?_
      refine g_iconst (v := (nI 0)) X dX10_tune_27 rfl ?_
      refine g_iconst (v := (nI 3)) X dX10_tune_28 rfl ?_
      refine g_callSP (st2 := [.int (b2i (inR x (nI 0) (nI 3)))]) (ws' := [wMd E a s, wAn E (a 2) 2 mm, wAn E (a 3) 2 ss, wAr E (a 4) 16 kd, wAr E (a 5) 16 xo, wAr E (a 6) 16 yo, wAr E (a 7) 16 fr, wAr E (a 8) 16 tt, wAr E (a 9) 16 nm, wAr E (a 10) 816 ah].flatten) (wr := [wMd E a s, wAn E (a 2) 2 mm, wAn E (a 3) 2 ss, wAr E (a 4) 16 kd, wAr E (a 5) 16 xo, wAr E (a 6) 16 yo, wAr E (a 7) 16 fr, wAr E (a 8) 16 tt, wAr E (a 9) 16 nm, wAr E (a 10) 816 ah].flatten) X (c_X10_in E x (nI 0) (nI 3)) cs_X10_84 rfl (List.Perm.refl _) rfl (List.Perm.refl _) rfl rfl (Nat.le_of_ble_eq_true rfl) dX10_tune_29 rfl ?_
      refine g_bif_ne (tgt := 37) X dX10_tune_32 (by decide) (fun c_32 => ?_) (fun c_32 => ?_)
      · obtain ⟨k, hk, rfl⟩ := inR_nI c_32 (by decide)
        refine g_iload_n X 1 dX10_tune_37 rfl ?_
        refine g_if_ne (tgt := 48) X dX10_tune_38 (by decide) (fun c_38 => ?_) (fun c_38 => absurd c_38 (by decide))
        refine g_aload_n X 0 dX10_tune_48 rfl ?_
        refine g_getf (v := .int (nI (dN0 s))) X fs_X10_13 0 rfl rfl dX10_tune_49 ?_
        refine g_istore_n (lv' := [(3, .int (nI (dN0 s))), (0, .ref (a 0)), (1, .int (nI 1)), (2, .int (nI k))]) X dX10_tune_52 (by decide) rfl ?_
        refine g_iload_n X 0 dX10_tune_53 rfl ?_
        refine g_iload_n X 3 dX10_tune_54 rfl ?_
        refine g_icmp_ne (tgt := 61) X dX10_tune_55 (by decide) (fun c_55 => ?_) (fun c_55 => ?_)
        · have f_c_55 : ¬ dN0 s = k := n_ne (by omega) (by omega) c_55
          refine g_aload_n X 1 dX10_tune_61 rfl ?_
          refine g_callV (st2 := []) (S' := [wMd E a (dR s, dN0 s, ntU (dU s), dK s, dP s, dX s, dY s, dS s, dA s, dQ s), wAn E (a 2) 2 mm, wAn E (a 3) 2 ss, wAr E (a 4) 16 kd, wAr E (a 5) 16 xo, wAr E (a 6) 16 yo, wAr E (a 7) 16 fr, wAr E (a 8) 16 tt, wAr E (a 9) 16 nm, wAr E (a 10) 816 (lyF (snp (dR s, dN0 s, mm, ss, kd, xo, yo, fr, tt, nm)) (ntF ah (dU s)) (ntQ (dU s)))]) (q0 := 0) X (c_X10_notes E a s mm ss kd xo yo fr tt nm ah (by first | assumption | omega)) cs_X10_114 rfl [0, 1, 2, 3, 4, 5, 6, 7, 8, 9] [] 10 rfl rfl (by decide) [] rfl rfl rfl rfl (by simp only [List.map_cons, List.map_nil, fsAn, fsAr, fsMd]) rfl rfl rfl rfl (Nat.le_of_ble_eq_true rfl) dX10_tune_62 rfl ?_
          refine g_aload_n X 1 dX10_tune_65 rfl ?_
          refine g_iload_n X 2 dX10_tune_66 rfl ?_
          refine g_if_ne (tgt := 74) X dX10_tune_67 (by decide) (fun c_67 => ?_) (fun c_67 => absurd c_67 (by decide))
          refine g_aload_n X 1 dX10_tune_74 rfl ?_
          refine g_getf (v := .int (dR (dR s, dN0 s, ntU (dU s), dK s, dP s, dX s, dY s, dS s, dA s, dQ s))) X fs_X10_7 0 rfl rfl dX10_tune_75 ?_
          refine g_putf (ws' := [wMd E a ((dR (dR s, dN0 s, ntU (dU s), dK s, dP s, dX s, dY s, dS s, dA s, dQ s)), dN0 (dR s, dN0 s, ntU (dU s), dK s, dP s, dX s, dY s, dS s, dA s, dQ s), dU (dR s, dN0 s, ntU (dU s), dK s, dP s, dX s, dY s, dS s, dA s, dQ s), dK (dR s, dN0 s, ntU (dU s), dK s, dP s, dX s, dY s, dS s, dA s, dQ s), dP (dR s, dN0 s, ntU (dU s), dK s, dP s, dX s, dY s, dS s, dA s, dQ s), dX (dR s, dN0 s, ntU (dU s), dK s, dP s, dX s, dY s, dS s, dA s, dQ s), dY (dR s, dN0 s, ntU (dU s), dK s, dP s, dX s, dY s, dS s, dA s, dQ s), dS (dR s, dN0 s, ntU (dU s), dK s, dP s, dX s, dY s, dS s, dA s, dQ s), dA (dR s, dN0 s, ntU (dU s), dK s, dP s, dX s, dY s, dS s, dA s, dQ s), dQ (dR s, dN0 s, ntU (dU s), dK s, dP s, dX s, dY s, dS s, dA s, dQ s)), wAn E (a 2) 2 mm, wAn E (a 3) 2 ss, wAr E (a 4) 16 kd, wAr E (a 5) 16 xo, wAr E (a 6) 16 yo, wAr E (a 7) 16 fr, wAr E (a 8) 16 tt, wAr E (a 9) 16 nm, wAr E (a 10) 816 (lyF (snp (dR s, dN0 s, mm, ss, kd, xo, yo, fr, tt, nm)) (ntF ah (dU s)) (ntQ (dU s)))].flatten) X ps_X10_7 0 rfl rfl rfl (Nat.le_of_ble_eq_true rfl) rfl dX10_tune_78 ?_
          refine g_aload_n X 1 dX10_tune_81 rfl ?_
          refine g_iload_n X 2 dX10_tune_82 rfl ?_
          refine g_iconst (v := (nI 1)) X dX10_tune_83 rfl ?_
          refine g_icmp_ne (tgt := 91) X dX10_tune_84 (by decide) (fun c_84 => absurd c_84 (by decide)) (fun c_84 => ?_)
          refine g_iload_n X 3 dX10_tune_87 rfl ?_
          refine g_goto (tgt := 95) X dX10_tune_88 (by decide) ?_
          refine g_putf (ws' := [wMd E a ((dR (dR s, dN0 s, ntU (dU s), dK s, dP s, dX s, dY s, dS s, dA s, dQ s)), k, dU (dR s, dN0 s, ntU (dU s), dK s, dP s, dX s, dY s, dS s, dA s, dQ s), dK (dR s, dN0 s, ntU (dU s), dK s, dP s, dX s, dY s, dS s, dA s, dQ s), dP (dR s, dN0 s, ntU (dU s), dK s, dP s, dX s, dY s, dS s, dA s, dQ s), dX (dR s, dN0 s, ntU (dU s), dK s, dP s, dX s, dY s, dS s, dA s, dQ s), dY (dR s, dN0 s, ntU (dU s), dK s, dP s, dX s, dY s, dS s, dA s, dQ s), dS (dR s, dN0 s, ntU (dU s), dK s, dP s, dX s, dY s, dS s, dA s, dQ s), dA (dR s, dN0 s, ntU (dU s), dK s, dP s, dX s, dY s, dS s, dA s, dQ s), dQ (dR s, dN0 s, ntU (dU s), dK s, dP s, dX s, dY s, dS s, dA s, dQ s)), wAn E (a 2) 2 mm, wAn E (a 3) 2 ss, wAr E (a 4) 16 kd, wAr E (a 5) 16 xo, wAr E (a 6) 16 yo, wAr E (a 7) 16 fr, wAr E (a 8) 16 tt, wAr E (a 9) 16 nm, wAr E (a 10) 816 (lyF (snp (dR s, dN0 s, mm, ss, kd, xo, yo, fr, tt, nm)) (ntF ah (dU s)) (ntQ (dU s)))].flatten) X ps_X10_13 0 rfl rfl rfl (Nat.le_of_ble_eq_true rfl) rfl dX10_tune_95 ?_
          refine g_iload_n X 0 dX10_tune_98 rfl ?_
          exact g_iretv (r := (nI (dN0 s))) X hx rfl (by simp [rTnV, rTnB, rTnA, rTnW, nI_eq, c_6, c_32, c_55, f_c_55, nI_clamp (show k < 2 ^ 31 by omega)]) (by simp [rTnS, rTnB, rTnA, rTnW, ntS, ntA, nI_eq, c_6, c_32, c_55, f_c_55, nI_clamp (show k < 2 ^ 31 by omega)]) dX10_tune_99
        · have f_c_55 : dN0 s = k := n_eq (by omega) (by omega) c_55
          refine g_bipush (v := (-2)) X dX10_tune_58 rfl ?_
          exact g_iretv (r := (-2)) X hx rfl (by simp [rTnV, rTnB, rTnA, rTnW, nI_eq, c_6, c_32, c_55, f_c_55, nI_clamp (show k < 2 ^ 31 by omega)]) (by simp [rTnS, rTnB, rTnA, rTnW, ntS, ntA, nI_eq, c_6, c_32, c_55, f_c_55, nI_clamp (show k < 2 ^ 31 by omega)]) dX10_tune_60
      · refine g_iconst (v := (-1)) X dX10_tune_35 rfl ?_
        exact g_iretv (r := (-1)) X hx rfl (by simp [rTnV, rTnB, rTnA, rTnW, nI_eq, c_6, c_32]) (by simp [rTnS, rTnB, rTnA, rTnW, ntS, ntA, nI_eq, c_6, c_32]) dX10_tune_36
set_option maxHeartbeats 4000000 in
set_option maxRecDepth 100000 in
theorem c_X10_undo (E : GE) (a : Nat → Nat) (s : MD0) (mm : Nat → Nat) (ss : Nat → Nat) (kd : Nat → Int32) (xo : Nat → Int32) (yo : Nat → Int32) (fr : Nat → Int32) (tt : Nat → Int32) (nm : Nat → Int32) (ah : Nat → Int32) (T : SN) (hU : dU s ≤ 8) (hF : 0 < dU s → okSn ah (102 * (dU s - 1)) T) : CT E m_X10_undo [.ref (a 0)] ([wMd E a s, wAn E (a 2) 2 mm, wAn E (a 3) 2 ss, wAr E (a 4) 16 kd, wAr E (a 5) 16 xo, wAr E (a 6) 16 yo, wAr E (a 7) 16 fr, wAr E (a 8) 16 tt, wAr E (a 9) 16 nm, wAr E (a 10) 816 ah].flatten) (some (.int (if dU s = 0 then -2 else nI (dU s - 1)))) ([wMd E a (if dU s = 0 then s else (T.1, T.2.1, dU s - 1, dK s, dP s, dX s, dY s, dS s, dA s, dQ s)), wAn E (a 2) 2 (if dU s = 0 then mm else tkF T.2.2.1 mm 2), wAn E (a 3) 2 (if dU s = 0 then ss else tkF T.2.2.2.1 ss 2), wAr E (a 4) 16 (if dU s = 0 then kd else tkF T.2.2.2.2.1 kd 16), wAr E (a 5) 16 (if dU s = 0 then xo else tkF T.2.2.2.2.2.1 xo 16), wAr E (a 6) 16 (if dU s = 0 then yo else tkF T.2.2.2.2.2.2.1 yo 16), wAr E (a 7) 16 (if dU s = 0 then fr else tkF T.2.2.2.2.2.2.2.1 fr 16), wAr E (a 8) 16 (if dU s = 0 then tt else tkF T.2.2.2.2.2.2.2.2.1 tt 16), wAr E (a 9) 16 (if dU s = 0 then nm else tkF T.2.2.2.2.2.2.2.2.2 nm 16), wAr E (a 10) 816 ah].flatten) := by
  refine CT.intro (by decide +kernel) (Nat.le_of_ble_eq_true rfl) (fun Γ X hx => ?_)
  refine GG.lv [0] (lv' := [(0, .ref (a 0))]) rfl ?_
  refine g_aload_n X 0 dX10_undo_0 rfl ?_
  refine g_getf (v := .int (nI (dU s))) X fs_X10_107 0 rfl rfl dX10_undo_1 ?_
  refine g_if_ne (tgt := 10) X dX10_undo_4 (by decide) (fun c_4 => ?_) (fun c_4 => ?_)
  · have f_c_4 : ¬ dU s = 0 := n_ne (by omega) (by omega) c_4
    refine g_aload_n X 0 dX10_undo_10 rfl ?_
    refine g_dup X dX10_undo_11 rfl ?_
    refine g_getf (v := .int (nI (dU s))) X fs_X10_107 0 rfl rfl dX10_undo_12 ?_
    refine g_iconst (v := (nI 1)) X dX10_undo_15 rfl ?_
    refine g_isubN X (by omega) dX10_undo_16 ?_
    refine g_putf (ws' := [wMd E a (dR s, dN0 s, (dU s) - 1, dK s, dP s, dX s, dY s, dS s, dA s, dQ s), wAn E (a 2) 2 mm, wAn E (a 3) 2 ss, wAr E (a 4) 16 kd, wAr E (a 5) 16 xo, wAr E (a 6) 16 yo, wAr E (a 7) 16 fr, wAr E (a 8) 16 tt, wAr E (a 9) 16 nm, wAr E (a 10) 816 ah].flatten) X ps_X10_107 0 rfl rfl rfl (Nat.le_of_ble_eq_true rfl) rfl dX10_undo_17 ?_
    refine g_aload_n X 0 dX10_undo_20 rfl ?_
    refine g_aload_n X 0 dX10_undo_21 rfl ?_
    refine g_getf (v := .ref (a 10)) X fs_X10_41 0 rfl rfl dX10_undo_22 ?_
    refine g_bipush (v := (nI 102)) X dX10_undo_25 rfl ?_
    refine g_aload_n X 0 dX10_undo_27 rfl ?_
    refine g_getf (v := .int (nI ((dU s) - 1))) X fs_X10_107 0 rfl rfl dX10_undo_28 ?_
    refine g_imulN X dX10_undo_31 ?_
    refine g_callV (st2 := []) (S' := [wMd E a (T.1, T.2.1, dU (dR s, dN0 s, (dU s) - 1, dK s, dP s, dX s, dY s, dS s, dA s, dQ s), dK (dR s, dN0 s, (dU s) - 1, dK s, dP s, dX s, dY s, dS s, dA s, dQ s), dP (dR s, dN0 s, (dU s) - 1, dK s, dP s, dX s, dY s, dS s, dA s, dQ s), dX (dR s, dN0 s, (dU s) - 1, dK s, dP s, dX s, dY s, dS s, dA s, dQ s), dY (dR s, dN0 s, (dU s) - 1, dK s, dP s, dX s, dY s, dS s, dA s, dQ s), dS (dR s, dN0 s, (dU s) - 1, dK s, dP s, dX s, dY s, dS s, dA s, dQ s), dA (dR s, dN0 s, (dU s) - 1, dK s, dP s, dX s, dY s, dS s, dA s, dQ s), dQ (dR s, dN0 s, (dU s) - 1, dK s, dP s, dX s, dY s, dS s, dA s, dQ s)), wAn E (a 2) 2 (tkF T.2.2.1 mm 2), wAn E (a 3) 2 (tkF T.2.2.2.1 ss 2), wAr E (a 4) 16 (tkF T.2.2.2.2.1 kd 16), wAr E (a 5) 16 (tkF T.2.2.2.2.2.1 xo 16), wAr E (a 6) 16 (tkF T.2.2.2.2.2.2.1 yo 16), wAr E (a 7) 16 (tkF T.2.2.2.2.2.2.2.1 fr 16), wAr E (a 8) 16 (tkF T.2.2.2.2.2.2.2.2.1 tt 16), wAr E (a 9) 16 (tkF T.2.2.2.2.2.2.2.2.2 nm 16), wAr E (a 10) 816 ah]) (q0 := 0) X (c_X10_takes E a (dR s, dN0 s, (dU s) - 1, dK s, dP s, dX s, dY s, dS s, dA s, dQ s) mm ss kd xo yo fr tt nm (a 10) 816 ah (102 * ((dU s) - 1)) T (by first | assumption | omega) (by first | assumption | omega) (hF (by omega))) cs_X10_125 rfl [0, 1, 2, 3, 4, 5, 6, 7, 8, 9] [] 10 rfl rfl (by decide) [] rfl rfl rfl rfl (by simp only [List.map_cons, List.map_nil, fsAn, fsAr, fsMd]) rfl rfl rfl rfl (Nat.le_of_ble_eq_true rfl) dX10_undo_32 rfl ?_
    refine g_aload_n X 0 dX10_undo_35 rfl ?_
    refine g_getf (v := .int (nI (dU (T.1, T.2.1, dU (dR s, dN0 s, (dU s) - 1, dK s, dP s, dX s, dY s, dS s, dA s, dQ s), dK (dR s, dN0 s, (dU s) - 1, dK s, dP s, dX s, dY s, dS s, dA s, dQ s), dP (dR s, dN0 s, (dU s) - 1, dK s, dP s, dX s, dY s, dS s, dA s, dQ s), dX (dR s, dN0 s, (dU s) - 1, dK s, dP s, dX s, dY s, dS s, dA s, dQ s), dY (dR s, dN0 s, (dU s) - 1, dK s, dP s, dX s, dY s, dS s, dA s, dQ s), dS (dR s, dN0 s, (dU s) - 1, dK s, dP s, dX s, dY s, dS s, dA s, dQ s), dA (dR s, dN0 s, (dU s) - 1, dK s, dP s, dX s, dY s, dS s, dA s, dQ s), dQ (dR s, dN0 s, (dU s) - 1, dK s, dP s, dX s, dY s, dS s, dA s, dQ s))))) X fs_X10_107 0 rfl rfl dX10_undo_36 ?_
    exact g_iretv (r := (nI (dU (T.1, T.2.1, dU (dR s, dN0 s, (dU s) - 1, dK s, dP s, dX s, dY s, dS s, dA s, dQ s), dK (dR s, dN0 s, (dU s) - 1, dK s, dP s, dX s, dY s, dS s, dA s, dQ s), dP (dR s, dN0 s, (dU s) - 1, dK s, dP s, dX s, dY s, dS s, dA s, dQ s), dX (dR s, dN0 s, (dU s) - 1, dK s, dP s, dX s, dY s, dS s, dA s, dQ s), dY (dR s, dN0 s, (dU s) - 1, dK s, dP s, dX s, dY s, dS s, dA s, dQ s), dS (dR s, dN0 s, (dU s) - 1, dK s, dP s, dX s, dY s, dS s, dA s, dQ s), dA (dR s, dN0 s, (dU s) - 1, dK s, dP s, dX s, dY s, dS s, dA s, dQ s), dQ (dR s, dN0 s, (dU s) - 1, dK s, dP s, dX s, dY s, dS s, dA s, dQ s))))) X hx rfl (by simp only [c_4, f_c_4, decide_true, decide_false, not_true_eq_false, not_false_eq_true, Bool.true_and, Bool.false_and, Bool.and_true, Bool.and_false, Bool.true_or, Bool.false_or, Bool.or_true, Bool.or_false, and_true, true_and, and_false, false_and, or_true, true_or, or_false, false_or, if_true, if_false, Bool.false_eq_true, decide_eq_true_eq]) (by simp only [c_4, f_c_4, decide_true, decide_false, not_true_eq_false, not_false_eq_true, Bool.true_and, Bool.false_and, Bool.and_true, Bool.and_false, Bool.true_or, Bool.false_or, Bool.or_true, Bool.or_false, and_true, true_and, and_false, false_and, or_true, true_or, or_false, false_or, if_true, if_false, Bool.false_eq_true, decide_eq_true_eq]) dX10_undo_39
  · have f_c_4 : dU s = 0 := n_eq (by omega) (by omega) c_4
    refine g_bipush (v := (-2)) X dX10_undo_7 rfl ?_
    exact g_iretv (r := (-2)) X hx rfl (by simp only [c_4, f_c_4, decide_true, decide_false, not_true_eq_false, not_false_eq_true, Bool.true_and, Bool.false_and, Bool.and_true, Bool.and_false, Bool.true_or, Bool.false_or, Bool.or_true, Bool.or_false, and_true, true_and, and_false, false_and, or_true, true_or, or_false, false_or, if_true, if_false, Bool.false_eq_true, decide_eq_true_eq]) (by simp only [c_4, f_c_4, decide_true, decide_false, not_true_eq_false, not_false_eq_true, Bool.true_and, Bool.false_and, Bool.and_true, Bool.and_false, Bool.true_or, Bool.false_or, Bool.or_true, Bool.or_false, and_true, true_and, and_false, false_and, or_true, true_or, or_false, false_or, if_true, if_false, Bool.false_eq_true, decide_eq_true_eq]) dX10_undo_9
set_option maxHeartbeats 4000000 in
set_option maxRecDepth 100000 in
theorem c_X10_keep (E : GE) (a : Nat → Nat) (s : MD0) (mm : Nat → Nat) (ss : Nat → Nat) (kd : Nat → Int32) (xo : Nat → Int32) (yo : Nat → Int32) (fr : Nat → Int32) (tt : Nat → Int32) (nm : Nat → Int32) (sv : Nat → Int32) (hK : dK s ≤ 2) : CT E m_X10_keep [.ref (a 0)] ([wMd E a s, wAn E (a 2) 2 mm, wAn E (a 3) 2 ss, wAr E (a 4) 16 kd, wAr E (a 5) 16 xo, wAr E (a 6) 16 yo, wAr E (a 7) 16 fr, wAr E (a 8) 16 tt, wAr E (a 9) 16 nm, wAr E (a 12) 204 sv].flatten) (some (.int (if dK s = 2 then -3 else nI (dK s + 1)))) ([wMd E a (if dK s = 2 then s else (dR s, dN0 s, dU s, dK s + 1, dP s, dX s, dY s, dS s, dA s, dQ s)), wAn E (a 2) 2 mm, wAn E (a 3) 2 ss, wAr E (a 4) 16 kd, wAr E (a 5) 16 xo, wAr E (a 6) 16 yo, wAr E (a 7) 16 fr, wAr E (a 8) 16 tt, wAr E (a 9) 16 nm, wAr E (a 12) 204 (if dK s = 2 then sv else lyF (snp (dR s, dN0 s, mm, ss, kd, xo, yo, fr, tt, nm)) sv (102 * dK s))].flatten) := by
  refine CT.intro (by decide +kernel) (Nat.le_of_ble_eq_true rfl) (fun Γ X hx => ?_)
  refine GG.lv [0] (lv' := [(0, .ref (a 0))]) rfl ?_
  refine g_aload_n X 0 dX10_keep_0 rfl ?_
  refine g_getf (v := .int (nI (dK s))) X fs_X10_128 0 rfl rfl dX10_keep_1 ?_
  refine g_iconst (v := (nI 2)) X dX10_keep_4 rfl ?_
  refine g_icmp_ne (tgt := 11) X dX10_keep_5 (by decide) (fun c_5 => ?_) (fun c_5 => ?_)
  · have f_c_5 : ¬ dK s = 2 := n_ne (by omega) (by omega) c_5
    refine g_aload_n X 0 dX10_keep_11 rfl ?_
    refine g_aload_n X 0 dX10_keep_12 rfl ?_
    refine g_getf (v := .ref (a 12)) X fs_X10_44 0 rfl rfl dX10_keep_13 ?_
    refine g_bipush (v := (nI 102)) X dX10_keep_16 rfl ?_
    refine g_aload_n X 0 dX10_keep_18 rfl ?_
    refine g_getf (v := .int (nI (dK s))) X fs_X10_128 0 rfl rfl dX10_keep_19 ?_
    refine g_imulN X dX10_keep_22 ?_
    refine g_callV (st2 := []) (S' := [wMd E a s, wAn E (a 2) 2 mm, wAn E (a 3) 2 ss, wAr E (a 4) 16 kd, wAr E (a 5) 16 xo, wAr E (a 6) 16 yo, wAr E (a 7) 16 fr, wAr E (a 8) 16 tt, wAr E (a 9) 16 nm, wAr E (a 12) 204 (lyF (snp (dR s, dN0 s, mm, ss, kd, xo, yo, fr, tt, nm)) sv (102 * (dK s)))]) (q0 := 0) X (c_X10_lays E a s mm ss kd xo yo fr tt nm (a 12) 204 sv (102 * (dK s)) (by first | assumption | omega) (by first | assumption | omega)) cs_X10_110 rfl [0, 1, 2, 3, 4, 5, 6, 7, 8, 9] [] 10 rfl rfl (by decide) [] rfl rfl rfl rfl (by simp only [List.map_cons, List.map_nil, fsAn, fsAr, fsMd]) rfl rfl rfl rfl (Nat.le_of_ble_eq_true rfl) dX10_keep_23 rfl ?_
    refine g_aload_n X 0 dX10_keep_26 rfl ?_
    refine g_dup X dX10_keep_27 rfl ?_
    refine g_getf (v := .int (nI (dK s))) X fs_X10_128 0 rfl rfl dX10_keep_28 ?_
    refine g_iconst (v := (nI 1)) X dX10_keep_31 rfl ?_
    refine g_iaddN X dX10_keep_32 ?_
    refine g_putf (ws' := [wMd E a (dR s, dN0 s, dU s, (dK s) + 1, dP s, dX s, dY s, dS s, dA s, dQ s), wAn E (a 2) 2 mm, wAn E (a 3) 2 ss, wAr E (a 4) 16 kd, wAr E (a 5) 16 xo, wAr E (a 6) 16 yo, wAr E (a 7) 16 fr, wAr E (a 8) 16 tt, wAr E (a 9) 16 nm, wAr E (a 12) 204 (lyF (snp (dR s, dN0 s, mm, ss, kd, xo, yo, fr, tt, nm)) sv (102 * (dK s)))].flatten) X ps_X10_128 0 rfl rfl rfl (Nat.le_of_ble_eq_true rfl) rfl dX10_keep_33 ?_
    refine g_aload_n X 0 dX10_keep_36 rfl ?_
    refine g_getf (v := .int (nI ((dK s) + 1))) X fs_X10_128 0 rfl rfl dX10_keep_37 ?_
    exact g_iretv (r := (nI ((dK s) + 1))) X hx rfl (by simp only [c_5, f_c_5, decide_true, decide_false, not_true_eq_false, not_false_eq_true, Bool.true_and, Bool.false_and, Bool.and_true, Bool.and_false, Bool.true_or, Bool.false_or, Bool.or_true, Bool.or_false, and_true, true_and, and_false, false_and, or_true, true_or, or_false, false_or, if_true, if_false, Bool.false_eq_true, decide_eq_true_eq]) (by simp only [c_5, f_c_5, decide_true, decide_false, not_true_eq_false, not_false_eq_true, Bool.true_and, Bool.false_and, Bool.and_true, Bool.and_false, Bool.true_or, Bool.false_or, Bool.or_true, Bool.or_false, and_true, true_and, and_false, false_and, or_true, true_or, or_false, false_or, if_true, if_false, Bool.false_eq_true, decide_eq_true_eq]) dX10_keep_40
  · have f_c_5 : dK s = 2 := n_eq (by omega) (by omega) c_5
    refine g_bipush (v := (-3)) X dX10_keep_8 rfl ?_
    exact g_iretv (r := (-3)) X hx rfl (by simp only [c_5, f_c_5, decide_true, decide_false, not_true_eq_false, not_false_eq_true, Bool.true_and, Bool.false_and, Bool.and_true, Bool.and_false, Bool.true_or, Bool.false_or, Bool.or_true, Bool.or_false, and_true, true_and, and_false, false_and, or_true, true_or, or_false, false_or, if_true, if_false, Bool.false_eq_true, decide_eq_true_eq]) (by simp only [c_5, f_c_5, decide_true, decide_false, not_true_eq_false, not_false_eq_true, Bool.true_and, Bool.false_and, Bool.and_true, Bool.and_false, Bool.true_or, Bool.false_or, Bool.or_true, Bool.or_false, and_true, true_and, and_false, false_and, or_true, true_or, or_false, false_or, if_true, if_false, Bool.false_eq_true, decide_eq_true_eq]) dX10_keep_10
set_option maxHeartbeats 4000000 in
set_option maxRecDepth 100000 in
theorem c_X10_back (E : GE) (a : Nat → Nat) (s : MD0) (mm : Nat → Nat) (ss : Nat → Nat) (kd : Nat → Int32) (xo : Nat → Int32) (yo : Nat → Int32) (fr : Nat → Int32) (tt : Nat → Int32) (nm : Nat → Int32) (sv : Nat → Int32) (T : SN) (hK : dK s ≤ 2) (hF : 0 < dK s → okSn sv (102 * (dK s - 1)) T) : CT E m_X10_back [.ref (a 0)] ([wMd E a s, wAn E (a 2) 2 mm, wAn E (a 3) 2 ss, wAr E (a 4) 16 kd, wAr E (a 5) 16 xo, wAr E (a 6) 16 yo, wAr E (a 7) 16 fr, wAr E (a 8) 16 tt, wAr E (a 9) 16 nm, wAr E (a 12) 204 sv].flatten) (some (.int (if dK s = 0 then -2 else nI (dK s - 1)))) ([wMd E a (if dK s = 0 then s else (T.1, T.2.1, 0, dK s - 1, dP s, dX s, dY s, dS s, dA s, dQ s)), wAn E (a 2) 2 (if dK s = 0 then mm else tkF T.2.2.1 mm 2), wAn E (a 3) 2 (if dK s = 0 then ss else tkF T.2.2.2.1 ss 2), wAr E (a 4) 16 (if dK s = 0 then kd else tkF T.2.2.2.2.1 kd 16), wAr E (a 5) 16 (if dK s = 0 then xo else tkF T.2.2.2.2.2.1 xo 16), wAr E (a 6) 16 (if dK s = 0 then yo else tkF T.2.2.2.2.2.2.1 yo 16), wAr E (a 7) 16 (if dK s = 0 then fr else tkF T.2.2.2.2.2.2.2.1 fr 16), wAr E (a 8) 16 (if dK s = 0 then tt else tkF T.2.2.2.2.2.2.2.2.1 tt 16), wAr E (a 9) 16 (if dK s = 0 then nm else tkF T.2.2.2.2.2.2.2.2.2 nm 16), wAr E (a 12) 204 sv].flatten) := by
  refine CT.intro (by decide +kernel) (Nat.le_of_ble_eq_true rfl) (fun Γ X hx => ?_)
  refine GG.lv [0] (lv' := [(0, .ref (a 0))]) rfl ?_
  refine g_aload_n X 0 dX10_back_0 rfl ?_
  refine g_getf (v := .int (nI (dK s))) X fs_X10_128 0 rfl rfl dX10_back_1 ?_
  refine g_if_ne (tgt := 10) X dX10_back_4 (by decide) (fun c_4 => ?_) (fun c_4 => ?_)
  · have f_c_4 : ¬ dK s = 0 := n_ne (by omega) (by omega) c_4
    refine g_aload_n X 0 dX10_back_10 rfl ?_
    refine g_dup X dX10_back_11 rfl ?_
    refine g_getf (v := .int (nI (dK s))) X fs_X10_128 0 rfl rfl dX10_back_12 ?_
    refine g_iconst (v := (nI 1)) X dX10_back_15 rfl ?_
    refine g_isubN X (by omega) dX10_back_16 ?_
    refine g_putf (ws' := [wMd E a (dR s, dN0 s, dU s, (dK s) - 1, dP s, dX s, dY s, dS s, dA s, dQ s), wAn E (a 2) 2 mm, wAn E (a 3) 2 ss, wAr E (a 4) 16 kd, wAr E (a 5) 16 xo, wAr E (a 6) 16 yo, wAr E (a 7) 16 fr, wAr E (a 8) 16 tt, wAr E (a 9) 16 nm, wAr E (a 12) 204 sv].flatten) X ps_X10_128 0 rfl rfl rfl (Nat.le_of_ble_eq_true rfl) rfl dX10_back_17 ?_
    refine g_aload_n X 0 dX10_back_20 rfl ?_
    refine g_aload_n X 0 dX10_back_21 rfl ?_
    refine g_getf (v := .ref (a 12)) X fs_X10_44 0 rfl rfl dX10_back_22 ?_
    refine g_bipush (v := (nI 102)) X dX10_back_25 rfl ?_
    refine g_aload_n X 0 dX10_back_27 rfl ?_
    refine g_getf (v := .int (nI ((dK s) - 1))) X fs_X10_128 0 rfl rfl dX10_back_28 ?_
    refine g_imulN X dX10_back_31 ?_
    refine g_callV (st2 := []) (S' := [wMd E a (T.1, T.2.1, dU (dR s, dN0 s, dU s, (dK s) - 1, dP s, dX s, dY s, dS s, dA s, dQ s), dK (dR s, dN0 s, dU s, (dK s) - 1, dP s, dX s, dY s, dS s, dA s, dQ s), dP (dR s, dN0 s, dU s, (dK s) - 1, dP s, dX s, dY s, dS s, dA s, dQ s), dX (dR s, dN0 s, dU s, (dK s) - 1, dP s, dX s, dY s, dS s, dA s, dQ s), dY (dR s, dN0 s, dU s, (dK s) - 1, dP s, dX s, dY s, dS s, dA s, dQ s), dS (dR s, dN0 s, dU s, (dK s) - 1, dP s, dX s, dY s, dS s, dA s, dQ s), dA (dR s, dN0 s, dU s, (dK s) - 1, dP s, dX s, dY s, dS s, dA s, dQ s), dQ (dR s, dN0 s, dU s, (dK s) - 1, dP s, dX s, dY s, dS s, dA s, dQ s)), wAn E (a 2) 2 (tkF T.2.2.1 mm 2), wAn E (a 3) 2 (tkF T.2.2.2.1 ss 2), wAr E (a 4) 16 (tkF T.2.2.2.2.1 kd 16), wAr E (a 5) 16 (tkF T.2.2.2.2.2.1 xo 16), wAr E (a 6) 16 (tkF T.2.2.2.2.2.2.1 yo 16), wAr E (a 7) 16 (tkF T.2.2.2.2.2.2.2.1 fr 16), wAr E (a 8) 16 (tkF T.2.2.2.2.2.2.2.2.1 tt 16), wAr E (a 9) 16 (tkF T.2.2.2.2.2.2.2.2.2 nm 16), wAr E (a 12) 204 sv]) (q0 := 0) X (c_X10_takes E a (dR s, dN0 s, dU s, (dK s) - 1, dP s, dX s, dY s, dS s, dA s, dQ s) mm ss kd xo yo fr tt nm (a 12) 204 sv (102 * ((dK s) - 1)) T (by first | assumption | omega) (by first | assumption | omega) (hF (by omega))) cs_X10_125 rfl [0, 1, 2, 3, 4, 5, 6, 7, 8, 9] [] 10 rfl rfl (by decide) [] rfl rfl rfl rfl (by simp only [List.map_cons, List.map_nil, fsAn, fsAr, fsMd]) rfl rfl rfl rfl (Nat.le_of_ble_eq_true rfl) dX10_back_32 rfl ?_
    refine g_aload_n X 0 dX10_back_35 rfl ?_
    refine g_iconst (v := (nI 0)) X dX10_back_36 rfl ?_
    refine g_putf (ws' := [wMd E a (dR (T.1, T.2.1, dU (dR s, dN0 s, dU s, (dK s) - 1, dP s, dX s, dY s, dS s, dA s, dQ s), dK (dR s, dN0 s, dU s, (dK s) - 1, dP s, dX s, dY s, dS s, dA s, dQ s), dP (dR s, dN0 s, dU s, (dK s) - 1, dP s, dX s, dY s, dS s, dA s, dQ s), dX (dR s, dN0 s, dU s, (dK s) - 1, dP s, dX s, dY s, dS s, dA s, dQ s), dY (dR s, dN0 s, dU s, (dK s) - 1, dP s, dX s, dY s, dS s, dA s, dQ s), dS (dR s, dN0 s, dU s, (dK s) - 1, dP s, dX s, dY s, dS s, dA s, dQ s), dA (dR s, dN0 s, dU s, (dK s) - 1, dP s, dX s, dY s, dS s, dA s, dQ s), dQ (dR s, dN0 s, dU s, (dK s) - 1, dP s, dX s, dY s, dS s, dA s, dQ s)), dN0 (T.1, T.2.1, dU (dR s, dN0 s, dU s, (dK s) - 1, dP s, dX s, dY s, dS s, dA s, dQ s), dK (dR s, dN0 s, dU s, (dK s) - 1, dP s, dX s, dY s, dS s, dA s, dQ s), dP (dR s, dN0 s, dU s, (dK s) - 1, dP s, dX s, dY s, dS s, dA s, dQ s), dX (dR s, dN0 s, dU s, (dK s) - 1, dP s, dX s, dY s, dS s, dA s, dQ s), dY (dR s, dN0 s, dU s, (dK s) - 1, dP s, dX s, dY s, dS s, dA s, dQ s), dS (dR s, dN0 s, dU s, (dK s) - 1, dP s, dX s, dY s, dS s, dA s, dQ s), dA (dR s, dN0 s, dU s, (dK s) - 1, dP s, dX s, dY s, dS s, dA s, dQ s), dQ (dR s, dN0 s, dU s, (dK s) - 1, dP s, dX s, dY s, dS s, dA s, dQ s)), 0, dK (T.1, T.2.1, dU (dR s, dN0 s, dU s, (dK s) - 1, dP s, dX s, dY s, dS s, dA s, dQ s), dK (dR s, dN0 s, dU s, (dK s) - 1, dP s, dX s, dY s, dS s, dA s, dQ s), dP (dR s, dN0 s, dU s, (dK s) - 1, dP s, dX s, dY s, dS s, dA s, dQ s), dX (dR s, dN0 s, dU s, (dK s) - 1, dP s, dX s, dY s, dS s, dA s, dQ s), dY (dR s, dN0 s, dU s, (dK s) - 1, dP s, dX s, dY s, dS s, dA s, dQ s), dS (dR s, dN0 s, dU s, (dK s) - 1, dP s, dX s, dY s, dS s, dA s, dQ s), dA (dR s, dN0 s, dU s, (dK s) - 1, dP s, dX s, dY s, dS s, dA s, dQ s), dQ (dR s, dN0 s, dU s, (dK s) - 1, dP s, dX s, dY s, dS s, dA s, dQ s)), dP (T.1, T.2.1, dU (dR s, dN0 s, dU s, (dK s) - 1, dP s, dX s, dY s, dS s, dA s, dQ s), dK (dR s, dN0 s, dU s, (dK s) - 1, dP s, dX s, dY s, dS s, dA s, dQ s), dP (dR s, dN0 s, dU s, (dK s) - 1, dP s, dX s, dY s, dS s, dA s, dQ s), dX (dR s, dN0 s, dU s, (dK s) - 1, dP s, dX s, dY s, dS s, dA s, dQ s), dY (dR s, dN0 s, dU s, (dK s) - 1, dP s, dX s, dY s, dS s, dA s, dQ s), dS (dR s, dN0 s, dU s, (dK s) - 1, dP s, dX s, dY s, dS s, dA s, dQ s), dA (dR s, dN0 s, dU s, (dK s) - 1, dP s, dX s, dY s, dS s, dA s, dQ s), dQ (dR s, dN0 s, dU s, (dK s) - 1, dP s, dX s, dY s, dS s, dA s, dQ s)), dX (T.1, T.2.1, dU (dR s, dN0 s, dU s, (dK s) - 1, dP s, dX s, dY s, dS s, dA s, dQ s), dK (dR s, dN0 s, dU s, (dK s) - 1, dP s, dX s, dY s, dS s, dA s, dQ s), dP (dR s, dN0 s, dU s, (dK s) - 1, dP s, dX s, dY s, dS s, dA s, dQ s), dX (dR s, dN0 s, dU s, (dK s) - 1, dP s, dX s, dY s, dS s, dA s, dQ s), dY (dR s, dN0 s, dU s, (dK s) - 1, dP s, dX s, dY s, dS s, dA s, dQ s), dS (dR s, dN0 s, dU s, (dK s) - 1, dP s, dX s, dY s, dS s, dA s, dQ s), dA (dR s, dN0 s, dU s, (dK s) - 1, dP s, dX s, dY s, dS s, dA s, dQ s), dQ (dR s, dN0 s, dU s, (dK s) - 1, dP s, dX s, dY s, dS s, dA s, dQ s)), dY (T.1, T.2.1, dU (dR s, dN0 s, dU s, (dK s) - 1, dP s, dX s, dY s, dS s, dA s, dQ s), dK (dR s, dN0 s, dU s, (dK s) - 1, dP s, dX s, dY s, dS s, dA s, dQ s), dP (dR s, dN0 s, dU s, (dK s) - 1, dP s, dX s, dY s, dS s, dA s, dQ s), dX (dR s, dN0 s, dU s, (dK s) - 1, dP s, dX s, dY s, dS s, dA s, dQ s), dY (dR s, dN0 s, dU s, (dK s) - 1, dP s, dX s, dY s, dS s, dA s, dQ s), dS (dR s, dN0 s, dU s, (dK s) - 1, dP s, dX s, dY s, dS s, dA s, dQ s), dA (dR s, dN0 s, dU s, (dK s) - 1, dP s, dX s, dY s, dS s, dA s, dQ s), dQ (dR s, dN0 s, dU s, (dK s) - 1, dP s, dX s, dY s, dS s, dA s, dQ s)), dS (T.1, T.2.1, dU (dR s, dN0 s, dU s, (dK s) - 1, dP s, dX s, dY s, dS s, dA s, dQ s), dK (dR s, dN0 s, dU s, (dK s) - 1, dP s, dX s, dY s, dS s, dA s, dQ s), dP (dR s, dN0 s, dU s, (dK s) - 1, dP s, dX s, dY s, dS s, dA s, dQ s), dX (dR s, dN0 s, dU s, (dK s) - 1, dP s, dX s, dY s, dS s, dA s, dQ s), dY (dR s, dN0 s, dU s, (dK s) - 1, dP s, dX s, dY s, dS s, dA s, dQ s), dS (dR s, dN0 s, dU s, (dK s) - 1, dP s, dX s, dY s, dS s, dA s, dQ s), dA (dR s, dN0 s, dU s, (dK s) - 1, dP s, dX s, dY s, dS s, dA s, dQ s), dQ (dR s, dN0 s, dU s, (dK s) - 1, dP s, dX s, dY s, dS s, dA s, dQ s)), dA (T.1, T.2.1, dU (dR s, dN0 s, dU s, (dK s) - 1, dP s, dX s, dY s, dS s, dA s, dQ s), dK (dR s, dN0 s, dU s, (dK s) - 1, dP s, dX s, dY s, dS s, dA s, dQ s), dP (dR s, dN0 s, dU s, (dK s) - 1, dP s, dX s, dY s, dS s, dA s, dQ s), dX (dR s, dN0 s, dU s, (dK s) - 1, dP s, dX s, dY s, dS s, dA s, dQ s), dY (dR s, dN0 s, dU s, (dK s) - 1, dP s, dX s, dY s, dS s, dA s, dQ s), dS (dR s, dN0 s, dU s, (dK s) - 1, dP s, dX s, dY s, dS s, dA s, dQ s), dA (dR s, dN0 s, dU s, (dK s) - 1, dP s, dX s, dY s, dS s, dA s, dQ s), dQ (dR s, dN0 s, dU s, (dK s) - 1, dP s, dX s, dY s, dS s, dA s, dQ s)), dQ (T.1, T.2.1, dU (dR s, dN0 s, dU s, (dK s) - 1, dP s, dX s, dY s, dS s, dA s, dQ s), dK (dR s, dN0 s, dU s, (dK s) - 1, dP s, dX s, dY s, dS s, dA s, dQ s), dP (dR s, dN0 s, dU s, (dK s) - 1, dP s, dX s, dY s, dS s, dA s, dQ s), dX (dR s, dN0 s, dU s, (dK s) - 1, dP s, dX s, dY s, dS s, dA s, dQ s), dY (dR s, dN0 s, dU s, (dK s) - 1, dP s, dX s, dY s, dS s, dA s, dQ s), dS (dR s, dN0 s, dU s, (dK s) - 1, dP s, dX s, dY s, dS s, dA s, dQ s), dA (dR s, dN0 s, dU s, (dK s) - 1, dP s, dX s, dY s, dS s, dA s, dQ s), dQ (dR s, dN0 s, dU s, (dK s) - 1, dP s, dX s, dY s, dS s, dA s, dQ s))), wAn E (a 2) 2 (tkF T.2.2.1 mm 2), wAn E (a 3) 2 (tkF T.2.2.2.1 ss 2), wAr E (a 4) 16 (tkF T.2.2.2.2.1 kd 16), wAr E (a 5) 16 (tkF T.2.2.2.2.2.1 xo 16), wAr E (a 6) 16 (tkF T.2.2.2.2.2.2.1 yo 16), wAr E (a 7) 16 (tkF T.2.2.2.2.2.2.2.1 fr 16), wAr E (a 8) 16 (tkF T.2.2.2.2.2.2.2.2.1 tt 16), wAr E (a 9) 16 (tkF T.2.2.2.2.2.2.2.2.2 nm 16), wAr E (a 12) 204 sv].flatten) X ps_X10_107 0 rfl rfl rfl (Nat.le_of_ble_eq_true rfl) rfl dX10_back_37 ?_
    refine g_aload_n X 0 dX10_back_40 rfl ?_
    refine g_getf (v := .int (nI (dK (T.1, T.2.1, dU (dR s, dN0 s, dU s, (dK s) - 1, dP s, dX s, dY s, dS s, dA s, dQ s), dK (dR s, dN0 s, dU s, (dK s) - 1, dP s, dX s, dY s, dS s, dA s, dQ s), dP (dR s, dN0 s, dU s, (dK s) - 1, dP s, dX s, dY s, dS s, dA s, dQ s), dX (dR s, dN0 s, dU s, (dK s) - 1, dP s, dX s, dY s, dS s, dA s, dQ s), dY (dR s, dN0 s, dU s, (dK s) - 1, dP s, dX s, dY s, dS s, dA s, dQ s), dS (dR s, dN0 s, dU s, (dK s) - 1, dP s, dX s, dY s, dS s, dA s, dQ s), dA (dR s, dN0 s, dU s, (dK s) - 1, dP s, dX s, dY s, dS s, dA s, dQ s), dQ (dR s, dN0 s, dU s, (dK s) - 1, dP s, dX s, dY s, dS s, dA s, dQ s))))) X fs_X10_128 0 rfl rfl dX10_back_41 ?_
    exact g_iretv (r := (nI (dK (T.1, T.2.1, dU (dR s, dN0 s, dU s, (dK s) - 1, dP s, dX s, dY s, dS s, dA s, dQ s), dK (dR s, dN0 s, dU s, (dK s) - 1, dP s, dX s, dY s, dS s, dA s, dQ s), dP (dR s, dN0 s, dU s, (dK s) - 1, dP s, dX s, dY s, dS s, dA s, dQ s), dX (dR s, dN0 s, dU s, (dK s) - 1, dP s, dX s, dY s, dS s, dA s, dQ s), dY (dR s, dN0 s, dU s, (dK s) - 1, dP s, dX s, dY s, dS s, dA s, dQ s), dS (dR s, dN0 s, dU s, (dK s) - 1, dP s, dX s, dY s, dS s, dA s, dQ s), dA (dR s, dN0 s, dU s, (dK s) - 1, dP s, dX s, dY s, dS s, dA s, dQ s), dQ (dR s, dN0 s, dU s, (dK s) - 1, dP s, dX s, dY s, dS s, dA s, dQ s))))) X hx rfl (by simp only [c_4, f_c_4, decide_true, decide_false, not_true_eq_false, not_false_eq_true, Bool.true_and, Bool.false_and, Bool.and_true, Bool.and_false, Bool.true_or, Bool.false_or, Bool.or_true, Bool.or_false, and_true, true_and, and_false, false_and, or_true, true_or, or_false, false_or, if_true, if_false, Bool.false_eq_true, decide_eq_true_eq]) (by simp only [c_4, f_c_4, decide_true, decide_false, not_true_eq_false, not_false_eq_true, Bool.true_and, Bool.false_and, Bool.and_true, Bool.and_false, Bool.true_or, Bool.false_or, Bool.or_true, Bool.or_false, and_true, true_and, and_false, false_and, or_true, true_or, or_false, false_or, if_true, if_false, Bool.false_eq_true, decide_eq_true_eq]) dX10_back_44
  · have f_c_4 : dK s = 0 := n_eq (by omega) (by omega) c_4
    refine g_bipush (v := (-2)) X dX10_back_7 rfl ?_
    exact g_iretv (r := (-2)) X hx rfl (by simp only [c_4, f_c_4, decide_true, decide_false, not_true_eq_false, not_false_eq_true, Bool.true_and, Bool.false_and, Bool.and_true, Bool.and_false, Bool.true_or, Bool.false_or, Bool.or_true, Bool.or_false, and_true, true_and, and_false, false_and, or_true, true_or, or_false, false_or, if_true, if_false, Bool.false_eq_true, decide_eq_true_eq]) (by simp only [c_4, f_c_4, decide_true, decide_false, not_true_eq_false, not_false_eq_true, Bool.true_and, Bool.false_and, Bool.and_true, Bool.and_false, Bool.true_or, Bool.false_or, Bool.or_true, Bool.or_false, and_true, true_and, and_false, false_and, or_true, true_or, or_false, false_or, if_true, if_false, Bool.false_eq_true, decide_eq_true_eq]) dX10_back_9
