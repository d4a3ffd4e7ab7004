set_option maxHeartbeats 4000000 in
set_option maxRecDepth 100000 in
theorem c_X10_shelve (E : GE) (a : Nat → Nat) (s : MD0) (mm : Nat → Nat) (ss : Nat → Nat) (sh : Nat → Int32) (z : Int32) (p : Int32) (x : Int32) (hmm : ∀ g, g < 2 → mm g ≤ 8) (hss : ∀ g, g < 2 → ss g ≤ 8) : CT E m_X10_shelve [.ref (a 0), .int z, .int p, .int x] ([wMd E a s, wAn E (a 2) 2 mm, wAn E (a 3) 2 ss, wAr E (a 23) 12 sh].flatten) (some (.int (rShV mm ss z p x))) ([wMd E a s, wAn E (a 2) 2 mm, wAn E (a 3) 2 ss, wAr E (a 23) 12 (rShF mm ss sh z p x)].flatten) := by
  refine CT.intro (by decide +kernel) (Nat.le_of_ble_eq_true rfl) (fun Γ X hx => ?_)
  refine GG.lv [0, 1, 2, 3] (lv' := [(0, .ref (a 0)), (1, .int z), (2, .int p), (3, .int x)]) rfl ?_
  have hm0 := hmm 0 (by decide)
  have hm1 := hmm 1 (by decide)
  have hs0 := hss 0 (by decide)
  have hs1 := hss 1 (by decide)
  refine g_iload_n X 3 dX10_shelve_0 rfl ?_
  refine g_iconst (v := (nI 0)) X dX10_shelve_1 rfl ?_
  refine g_aload_n X 0 dX10_shelve_2 rfl ?_
  refine g_getf (v := .ref (a 2)) X fs_X10_16 0 rfl rfl dX10_shelve_3 ?_
  refine g_iconst (v := (nI 0)) X dX10_shelve_6 rfl ?_
  refine g_anld (f := mm) X 1 rfl 0 (ix_nI (by omega) (by decide)) dX10_shelve_7 ?_
  refine g_iconst (v := (nI 1)) X dX10_shelve_8 rfl ?_
  refine g_isub X dX10_shelve_9 ?_
  refine g_callSP (st2 := [.int (b2i (inR x (nI 0) ((nI (mm 0)) - (nI 1))))]) (ws' := [wMd E a s, wAn E (a 2) 2 mm, wAn E (a 3) 2 ss, wAr E (a 23) 12 sh].flatten) (wr := [wMd E a s, wAn E (a 2) 2 mm, wAn E (a 3) 2 ss, wAr E (a 23) 12 sh].flatten) X (c_X10_in E x (nI 0) ((nI (mm 0)) - (nI 1))) cs_X10_84 rfl (List.Perm.refl _) rfl (List.Perm.refl _) rfl rfl (Nat.le_of_ble_eq_true rfl) dX10_shelve_10 rfl ?_
  refine g_bif_ne (tgt := 36) X dX10_shelve_13 (by decide) (fun c_13 => ?_) (fun c_13 => ?_)
  · refine g_iconst (v := (nI 1)) X dX10_shelve_36 rfl ?_
    refine g_goto (tgt := 41) X dX10_shelve_37 (by decide) ?_
    refine g_istore (lv' := [(4, .int (nI 1)), (0, .ref (a 0)), (1, .int z), (2, .int p), (3, .int x)]) X dX10_shelve_41 (by decide) rfl ?_
    refine g_iload_n X 2 dX10_shelve_43 rfl ?_
    refine g_iconst (v := (nI 0)) X dX10_shelve_44 rfl ?_
    refine g_iconst (v := (nI 2)) X dX10_shelve_45 rfl ?_
    refine g_callSP (st2 := [.int (b2i (inR z (nI 0) (nI 2)))]) (ws' := [wMd E a s, wAn E (a 2) 2 mm, wAn E (a 3) 2 ss, wAr E (a 23) 12 sh].flatten) (wr := [wMd E a s, wAn E (a 2) 2 mm, wAn E (a 3) 2 ss, wAr E (a 23) 12 sh].flatten) X (c_X10_in E z (nI 0) (nI 2)) cs_X10_84 rfl (List.Perm.refl _) rfl (List.Perm.refl _) rfl rfl (Nat.le_of_ble_eq_true rfl) dX10_shelve_46 rfl ?_
    refine g_bif_eq (tgt := 66) X dX10_shelve_49 (by decide) (fun c_49 => ?_) (fun c_49 => ?_)
    · refine g_iconst (v := (-1)) X dX10_shelve_66 rfl ?_
      exact g_iretv (r := (-1)) X hx rfl (by simp [rShV, rShB, rShA, nI_leI, nI_ltI, c_13, c_49]) (by simp [rShF, rShB, rShA, c_13, c_49]) dX10_shelve_67
    · refine g_iload_n X 3 dX10_shelve_52 rfl ?_
      refine g_iconst (v := (nI 0)) X dX10_shelve_53 rfl ?_
      refine g_iconst (v := (nI 3)) X dX10_shelve_54 rfl ?_
      refine g_callSP (st2 := [.int (b2i (inR p (nI 0) (nI 3)))]) (ws' := [wMd E a s, wAn E (a 2) 2 mm, wAn E (a 3) 2 ss, wAr E (a 23) 12 sh].flatten) (wr := [wMd E a s, wAn E (a 2) 2 mm, wAn E (a 3) 2 ss, wAr E (a 23) 12 sh].flatten) X (c_X10_in E p (nI 0) (nI 3)) cs_X10_84 rfl (List.Perm.refl _) rfl (List.Perm.refl _) rfl rfl (Nat.le_of_ble_eq_true rfl) dX10_shelve_55 rfl ?_
      refine g_bif_eq (tgt := 66) X dX10_shelve_58 (by decide) (fun c_58 => ?_) (fun c_58 => ?_)
      · refine g_iconst (v := (-1)) X dX10_shelve_66 rfl ?_
        exact g_iretv (r := (-1)) X hx rfl (by simp [rShV, rShB, rShA, nI_leI, nI_ltI, c_13, c_49, c_58]) (by simp [rShF, rShB, rShA, c_13, c_49, c_58]) dX10_shelve_67
      · obtain ⟨s1, hq1, rfl⟩ := inR_nI c_49 (by decide)
        obtain ⟨p1, hp1, rfl⟩ := inR_nI c_58 (by decide)
        refine g_iload X 0 dX10_shelve_61 rfl ?_
        refine g_if_ne (tgt := 68) X dX10_shelve_63 (by decide) (fun c_63 => ?_) (fun c_63 => absurd c_63 (by decide))
        refine g_iload_n X 2 dX10_shelve_68 rfl ?_
        refine g_iconst (v := (nI 2)) X dX10_shelve_69 rfl ?_
        refine g_icmp_ge (tgt := 84) X dX10_shelve_70 (by decide) (fun c_70 => ?_) (fun c_70 => ?_)
        · have f_c_70 : 2 ≤ s1 := n_le (by omega) (by omega) c_70
          have fn_c_70 := Nat.not_lt.mpr f_c_70
          refine g_aload_n X 1 dX10_shelve_84 rfl ?_
          refine g_getf (v := .ref (a 23)) X fs_X10_65 0 rfl rfl dX10_shelve_85 ?_
          refine g_iconst (v := (nI 4)) X dX10_shelve_88 rfl ?_
          refine g_iload_n X 2 dX10_shelve_89 rfl ?_
          refine g_imulN X dX10_shelve_90 ?_
          refine g_iload_n X 3 dX10_shelve_91 rfl ?_
          refine g_iaddN X dX10_shelve_92 ?_
          refine g_iload_n X 4 dX10_shelve_93 rfl ?_
          refine g_iast (ws' := [wMd E a s, wAn E (a 2) 2 mm, wAn E (a 3) 2 ss, wAr E (a 23) 12 (upd sh ((4 * s1) + p1) x)].flatten) X 3 rfl ((4 * s1) + p1) (ix_nI (by omega) (by decide)) rfl dX10_shelve_94 ?_
          refine g_iconst (v := (nI 1)) X dX10_shelve_95 rfl ?_
          exact g_iretv (r := (nI 1)) X hx rfl (by simp [rShV, rShB, rShA, nI_leI, nI_ltI, c_13, c_49, c_58, c_70, f_c_70, fn_c_70]) (by simp [rShF, rShB, rShA, c_13, c_49, c_58, c_70, f_c_70, fn_c_70, nI_clamp (show s1 < 2 ^ 31 by omega), nI_clamp (show p1 < 2 ^ 31 by omega)]) dX10_shelve_96
        · have f_c_70 : s1 < 2 := n_nle (by omega) (by omega) c_70
          have fn_c_70 := Nat.not_le.mpr f_c_70
          refine g_iload_n X 4 dX10_shelve_73 rfl ?_
          refine g_bipush (v := (nI 8)) X dX10_shelve_74 rfl ?_
          refine g_idiv X dX10_shelve_76 (by decide) ?_
          refine g_iload_n X 2 dX10_shelve_77 rfl ?_
          refine g_icmp_eq (tgt := 84) X dX10_shelve_78 (by decide) (fun c_78 => ?_) (fun c_78 => ?_)
          · refine g_aload_n X 1 dX10_shelve_84 rfl ?_
            refine g_getf (v := .ref (a 23)) X fs_X10_65 0 rfl rfl dX10_shelve_85 ?_
            refine g_iconst (v := (nI 4)) X dX10_shelve_88 rfl ?_
            refine g_iload_n X 2 dX10_shelve_89 rfl ?_
            refine g_imulN X dX10_shelve_90 ?_
            refine g_iload_n X 3 dX10_shelve_91 rfl ?_
            refine g_iaddN X dX10_shelve_92 ?_
            refine g_iload_n X 4 dX10_shelve_93 rfl ?_
            refine g_iast (ws' := [wMd E a s, wAn E (a 2) 2 mm, wAn E (a 3) 2 ss, wAr E (a 23) 12 (upd sh ((4 * s1) + p1) x)].flatten) X 3 rfl ((4 * s1) + p1) (ix_nI (by omega) (by decide)) rfl dX10_shelve_94 ?_
            refine g_iconst (v := (nI 1)) X dX10_shelve_95 rfl ?_
            exact g_iretv (r := (nI 1)) X hx rfl (by simp [rShV, rShB, rShA, nI_leI, nI_ltI, c_13, c_49, c_58, c_70, f_c_70, fn_c_70, c_78]) (by simp [rShF, rShB, rShA, c_13, c_49, c_58, c_70, f_c_70, fn_c_70, c_78, nI_clamp (show s1 < 2 ^ 31 by omega), nI_clamp (show p1 < 2 ^ 31 by omega)]) dX10_shelve_96
          · refine g_bipush (v := (-2)) X dX10_shelve_81 rfl ?_
            exact g_iretv (r := (-2)) X hx rfl (by simp [rShV, rShB, rShA, nI_leI, nI_ltI, c_13, c_49, c_58, c_70, f_c_70, fn_c_70, c_78]) (by simp [rShF, rShB, rShA, c_13, c_49, c_58, c_70, f_c_70, fn_c_70, c_78, nI_clamp (show s1 < 2 ^ 31 by omega), nI_clamp (show p1 < 2 ^ 31 by omega)]) dX10_shelve_83
  · refine g_iload_n X 3 dX10_shelve_16 rfl ?_
    refine g_bipush (v := (nI 8)) X dX10_shelve_17 rfl ?_
    refine g_bipush (v := (nI 8)) X dX10_shelve_19 rfl ?_
    refine g_aload_n X 0 dX10_shelve_21 rfl ?_
    refine g_getf (v := .ref (a 3)) X fs_X10_20 0 rfl rfl dX10_shelve_22 ?_
    refine g_iconst (v := (nI 0)) X dX10_shelve_25 rfl ?_
    refine g_anld (f := ss) X 2 rfl 0 (ix_nI (by omega) (by decide)) dX10_shelve_26 ?_
    refine g_iaddN X dX10_shelve_27 ?_
    refine g_iconst (v := (nI 1)) X dX10_shelve_28 rfl ?_
    refine g_isub X dX10_shelve_29 ?_
    refine g_callSP (st2 := [.int (b2i (inR x (nI 8) ((nI (8 + (ss 0))) - (nI 1))))]) (ws' := [wMd E a s, wAn E (a 2) 2 mm, wAn E (a 3) 2 ss, wAr E (a 23) 12 sh].flatten) (wr := [wMd E a s, wAn E (a 2) 2 mm, wAn E (a 3) 2 ss, wAr E (a 23) 12 sh].flatten) X (c_X10_in E x (nI 8) ((nI (8 + (ss 0))) - (nI 1))) cs_X10_84 rfl (List.Perm.refl _) rfl (List.Perm.refl _) rfl rfl (Nat.le_of_ble_eq_true rfl) dX10_shelve_30 rfl ?_
    refine g_bif_eq (tgt := 40) X dX10_shelve_33 (by decide) (fun c_33 => ?_) (fun c_33 => ?_)
    · refine g_iconst (v := (nI 0)) X dX10_shelve_40 rfl ?_
      refine g_istore (lv' := [(4, .int (nI 0)), (0, .ref (a 0)), (1, .int z), (2, .int p), (3, .int x)]) X dX10_shelve_41 (by decide) rfl ?_
      refine g_iload_n X 2 dX10_shelve_43 rfl ?_
      refine g_iconst (v := (nI 0)) X dX10_shelve_44 rfl ?_
      refine g_iconst (v := (nI 2)) X dX10_shelve_45 rfl ?_
      refine g_callSP (st2 := [.int (b2i (inR z (nI 0) (nI 2)))]) (ws' := [wMd E a s, wAn E (a 2) 2 mm, wAn E (a 3) 2 ss, wAr E (a 23) 12 sh].flatten) (wr := [wMd E a s, wAn E (a 2) 2 mm, wAn E (a 3) 2 ss, wAr E (a 23) 12 sh].flatten) X (c_X10_in E z (nI 0) (nI 2)) cs_X10_84 rfl (List.Perm.refl _) rfl (List.Perm.refl _) rfl rfl (Nat.le_of_ble_eq_true rfl) dX10_shelve_46 rfl ?_
      refine g_bif_eq (tgt := 66) X dX10_shelve_49 (by decide) (fun c_49 => ?_) (fun c_49 => ?_)
      · refine g_iconst (v := (-1)) X dX10_shelve_66 rfl ?_
        exact g_iretv (r := (-1)) X hx rfl (by simp [rShV, rShB, rShA, nI_leI, nI_ltI, c_13, c_33, c_49]) (by simp [rShF, rShB, rShA, c_13, c_33, c_49]) dX10_shelve_67
      · refine g_iload_n X 3 dX10_shelve_52 rfl ?_
        refine g_iconst (v := (nI 0)) X dX10_shelve_53 rfl ?_
        refine g_iconst (v := (nI 3)) X dX10_shelve_54 rfl ?_
        refine g_callSP (st2 := [.int (b2i (inR p (nI 0) (nI 3)))]) (ws' := [wMd E a s, wAn E (a 2) 2 mm, wAn E (a 3) 2 ss, wAr E (a 23) 12 sh].flatten) (wr := [wMd E a s, wAn E (a 2) 2 mm, wAn E (a 3) 2 ss, wAr E (a 23) 12 sh].flatten) X (c_X10_in E p (nI 0) (nI 3)) cs_X10_84 rfl (List.Perm.refl _) rfl (List.Perm.refl _) rfl rfl (Nat.le_of_ble_eq_true rfl) dX10_shelve_55 rfl ?_
        refine g_bif_eq (tgt := 66) X dX10_shelve_58 (by decide) (fun c_58 => ?_) (fun c_58 => ?_)
        · refine g_iconst (v := (-1)) X dX10_shelve_66 rfl ?_
          exact g_iretv (r := (-1)) X hx rfl (by simp [rShV, rShB, rShA, nI_leI, nI_ltI, c_13, c_33, c_49, c_58]) (by simp [rShF, rShB, rShA, c_13, c_33, c_49, c_58]) dX10_shelve_67
        · obtain ⟨s1, hq1, rfl⟩ := inR_nI c_49 (by decide)
          obtain ⟨p1, hp1, rfl⟩ := inR_nI c_58 (by decide)
          refine g_iload X 0 dX10_shelve_61 rfl ?_
          refine g_if_ne (tgt := 68) X dX10_shelve_63 (by decide) (fun c_63 => absurd c_63 (by decide)) (fun c_63 => ?_)
          refine g_iconst (v := (-1)) X dX10_shelve_66 rfl ?_
          exact g_iretv (r := (-1)) X hx rfl (by simp [rShV, rShB, rShA, nI_leI, nI_ltI, c_13, c_33, c_49, c_58]) (by simp [rShF, rShB, rShA, c_13, c_33, c_49, c_58, nI_clamp (show s1 < 2 ^ 31 by omega), nI_clamp (show p1 < 2 ^ 31 by omega)]) dX10_shelve_67
    · refine g_iconst (v := (nI 1)) X dX10_shelve_36 rfl ?_
      refine g_goto (tgt := 41) X dX10_shelve_37 (by decide) ?_
      refine g_istore (lv' := [(4, .int (nI 1)), (0, .ref (a 0)), (1, .int z), (2, .int p), (3, .int x)]) X dX10_shelve_41 (by decide) rfl ?_
      refine g_iload_n X 2 dX10_shelve_43 rfl ?_
      refine g_iconst (v := (nI 0)) X dX10_shelve_44 rfl ?_
      refine g_iconst (v := (nI 2)) X dX10_shelve_45 rfl ?_
      refine g_callSP (st2 := [.int (b2i (inR z (nI 0) (nI 2)))]) (ws' := [wMd E a s, wAn E (a 2) 2 mm, wAn E (a 3) 2 ss, wAr E (a 23) 12 sh].flatten) (wr := [wMd E a s, wAn E (a 2) 2 mm, wAn E (a 3) 2 ss, wAr E (a 23) 12 sh].flatten) X (c_X10_in E z (nI 0) (nI 2)) cs_X10_84 rfl (List.Perm.refl _) rfl (List.Perm.refl _) rfl rfl (Nat.le_of_ble_eq_true rfl) dX10_shelve_46 rfl ?_
      refine g_bif_eq (tgt := 66) X dX10_shelve_49 (by decide) (fun c_49 => ?_) (fun c_49 => ?_)
      · refine g_iconst (v := (-1)) X dX10_shelve_66 rfl ?_
        exact g_iretv (r := (-1)) X hx rfl (by simp [rShV, rShB, rShA, nI_leI, nI_ltI, c_13, c_33, c_49]) (by simp [rShF, rShB, rShA, c_13, c_33, c_49]) dX10_shelve_67
      · refine g_iload_n X 3 dX10_shelve_52 rfl ?_
        refine g_iconst (v := (nI 0)) X dX10_shelve_53 rfl ?_
        refine g_iconst (v := (nI 3)) X dX10_shelve_54 rfl ?_
        refine g_callSP (st2 := [.int (b2i (inR p (nI 0) (nI 3)))]) (ws' := [wMd E a s, wAn E (a 2) 2 mm, wAn E (a 3) 2 ss, wAr E (a 23) 12 sh].flatten) (wr := [wMd E a s, wAn E (a 2) 2 mm, wAn E (a 3) 2 ss, wAr E (a 23) 12 sh].flatten) X (c_X10_in E p (nI 0) (nI 3)) cs_X10_84 rfl (List.Perm.refl _) rfl (List.Perm.refl _) rfl rfl (Nat.le_of_ble_eq_true rfl) dX10_shelve_55 rfl ?_
        refine g_bif_eq (tgt := 66) X dX10_shelve_58 (by decide) (fun c_58 => ?_) (fun c_58 => ?_)
        · refine g_iconst (v := (-1)) X dX10_shelve_66 rfl ?_
          exact g_iretv (r := (-1)) X hx rfl (by simp [rShV, rShB, rShA, nI_leI, nI_ltI, c_13, c_33, c_49, c_58]) (by simp [rShF, rShB, rShA, c_13, c_33, c_49, c_58]) dX10_shelve_67
        · obtain ⟨s1, hq1, rfl⟩ := inR_nI c_49 (by decide)
          obtain ⟨p1, hp1, rfl⟩ := inR_nI c_58 (by decide)
          refine g_iload X 0 dX10_shelve_61 rfl ?_
          refine g_if_ne (tgt := 68) X dX10_shelve_63 (by decide) (fun c_63 => ?_) (fun c_63 => absurd c_63 (by decide))
          refine g_iload_n X 2 dX10_shelve_68 rfl ?_
          refine g_iconst (v := (nI 2)) X dX10_shelve_69 rfl ?_
          refine g_icmp_ge (tgt := 84) X dX10_shelve_70 (by decide) (fun c_70 => ?_) (fun c_70 => ?_)
          · have f_c_70 : 2 ≤ s1 := n_le (by omega) (by omega) c_70
            have fn_c_70 := Nat.not_lt.mpr f_c_70
            refine g_aload_n X 1 dX10_shelve_84 rfl ?_
            refine g_getf (v := .ref (a 23)) X fs_X10_65 0 rfl rfl dX10_shelve_85 ?_
            refine g_iconst (v := (nI 4)) X dX10_shelve_88 rfl ?_
            refine g_iload_n X 2 dX10_shelve_89 rfl ?_
            refine g_imulN X dX10_shelve_90 ?_
            refine g_iload_n X 3 dX10_shelve_91 rfl ?_
            refine g_iaddN X dX10_shelve_92 ?_
            refine g_iload_n X 4 dX10_shelve_93 rfl ?_
            refine g_iast (ws' := [wMd E a s, wAn E (a 2) 2 mm, wAn E (a 3) 2 ss, wAr E (a 23) 12 (upd sh ((4 * s1) + p1) x)].flatten) X 3 rfl ((4 * s1) + p1) (ix_nI (by omega) (by decide)) rfl dX10_shelve_94 ?_
            refine g_iconst (v := (nI 1)) X dX10_shelve_95 rfl ?_
            exact g_iretv (r := (nI 1)) X hx rfl (by simp [rShV, rShB, rShA, nI_leI, nI_ltI, c_13, c_33, c_49, c_58, c_70, f_c_70, fn_c_70]) (by simp [rShF, rShB, rShA, c_13, c_33, c_49, c_58, c_70, f_c_70, fn_c_70, nI_clamp (show s1 < 2 ^ 31 by omega), nI_clamp (show p1 < 2 ^ 31 by omega)]) dX10_shelve_96
          · have f_c_70 : s1 < 2 := n_nle (by omega) (by omega) c_70
            have fn_c_70 := Nat.not_le.mpr f_c_70
            refine g_iload_n X 4 dX10_shelve_73 rfl ?_
            refine g_bipush (v := (nI 8)) X dX10_shelve_74 rfl ?_
            refine g_idiv X dX10_shelve_76 (by decide) ?_
            refine g_iload_n X 2 dX10_shelve_77 rfl ?_
            refine g_icmp_eq (tgt := 84) X dX10_shelve_78 (by decide) (fun c_78 => ?_) (fun c_78 => ?_)
            · refine g_aload_n X 1 dX10_shelve_84 rfl ?_
              refine g_getf (v := .ref (a 23)) X fs_X10_65 0 rfl rfl dX10_shelve_85 ?_
              refine g_iconst (v := (nI 4)) X dX10_shelve_88 rfl ?_
              refine g_iload_n X 2 dX10_shelve_89 rfl ?_
              refine g_imulN X dX10_shelve_90 ?_
              refine g_iload_n X 3 dX10_shelve_91 rfl ?_
              refine g_iaddN X dX10_shelve_92 ?_
              refine g_iload_n X 4 dX10_shelve_93 rfl ?_
              refine g_iast (ws' := [wMd E a s, wAn E (a 2) 2 mm, wAn E (a 3) 2 ss, wAr E (a 23) 12 (upd sh ((4 * s1) + p1) x)].flatten) X 3 rfl ((4 * s1) + p1) (ix_nI (by omega) (by decide)) rfl dX10_shelve_94 ?_
              refine g_iconst (v := (nI 1)) X dX10_shelve_95 rfl ?_
              exact g_iretv (r := (nI 1)) X hx rfl (by simp [rShV, rShB, rShA, nI_leI, nI_ltI, c_13, c_33, c_49, c_58, c_70, f_c_70, fn_c_70, c_78]) (by simp [rShF, rShB, rShA, c_13, c_33, c_49, c_58, c_70, f_c_70, fn_c_70, c_78, nI_clamp (show s1 < 2 ^ 31 by omega), nI_clamp (show p1 < 2 ^ 31 by omega)]) dX10_shelve_96
            · refine g_bipush (v := (-2)) X dX10_shelve_81 rfl ?_
              exact g_iretv (r := (-2)) X hx rfl (by simp [rShV, rShB, rShA, nI_leI, nI_ltI, c_13, c_33, c_49, c_58, c_70, f_c_70, fn_c_70, c_78]) (by simp [rShF, rShB, rShA, c_13, c_33, c_49, c_58, c_70, f_c_70, fn_c_70, c_78, nI_clamp (show s1 < 2 ^ 31 by omega), nI_clamp (show p1 < 2 ^ 31 by omega)]) dX10_shelve_83
set_option maxHeartbeats 4000000 in
set_option maxRecDepth 100000 in
theorem c_X10_setFirst (E : GE) (a : Nat → Nat) (s : MD0) (mm : Nat → Nat) (kd : Nat → Int32) (xo : Nat → Int32) (yo : Nat → Int32) (be : Nat → Int32) (hmm : ∀ g, g < 2 → mm g ≤ 8) : CT E m_X10_setFirst [.ref (a 0)] ([wMd E a s, wAn E (a 2) 2 mm, wAr E (a 4) 16 kd, wAr E (a 5) 16 xo, wAr E (a 6) 16 yo, wAr E (a 15) 64 be].flatten) none ([wMd E a s, wAn E (a 2) 2 mm, wAr E (a 4) 16 kd, wAr E (a 5) 16 xo, wAr E (a 6) 16 yo, wAr E (a 15) 64 (tkF (rFstK (dR s) mm kd xo yo) be 64)].flatten) := by
  refine CT.intro (by decide +kernel) (Nat.le_of_ble_eq_true rfl) (fun Γ X hx => ?_)
  refine GG.lv [0] (lv' := [(0, .ref (a 0))]) rfl ?_
  have hm0 := hmm 0 (by decide)
  have hm1 := hmm 1 (by decide)
  refine g_iconst (v := (nI 0)) X dX10_setFirst_0 rfl ?_
  refine g_istore_n (lv' := [(1, .int (nI 0)), (0, .ref (a 0))]) X dX10_setFirst_1 (by decide) rfl ?_
  have L_2 : ∀ (n_2 : Nat) (i : Nat) (hi : i ≤ 8) (hm_2 : 8 - i < n_2) (x_1 : Int32) (ex_1 : x_1 = (nI i)) (u_0 : Nat → Int32) (eu_0 : u_0 = tkF (rFstK (dR s) mm kd xo yo) be (8 * i)), GG E m_X10_setFirst Γ 0 0 ([wMd E a s, wAn E (a 2) 2 mm, wAr E (a 4) 16 kd, wAr E (a 5) 16 xo, wAr E (a 6) 16 yo, wAr E (a 15) 64 u_0].flatten) [(0, .ref (a 0)), (1, .int x_1)] 2 [] := by
    intro n_2
    induction n_2 with
    | zero => intro i hi hm_2; exact absurd hm_2 (Nat.not_lt_zero _)
    | succ n_2 ih_2 =>
      intro i hi hm_2 x_1 ex_1 u_0 eu_0
      subst ex_1
      subst eu_0
      refine g_iload_n X 1 dX10_setFirst_2 rfl ?_
      refine g_bipush (v := (nI 8)) X dX10_setFirst_3 rfl ?_
      refine g_icmp_ge (tgt := 168) X dX10_setFirst_5 (by decide) (fun c_5 => ?_) (fun c_5 => ?_)
      · have f_c_5 : 8 ≤ i := n_le (by omega) (by omega) c_5
        have fn_c_5 := Nat.not_lt.mpr f_c_5
        exact g_vret X hx rfl rfl (by rw [show 8 * i = 64 by omega]) dX10_setFirst_168
      · have f_c_5 : i < 8 := n_nle (by omega) (by omega) c_5
        have fn_c_5 := Nat.not_le.mpr f_c_5
        refine g_iconst (v := (nI 0)) X dX10_setFirst_8 rfl ?_
        refine g_istore_n (lv' := [(2, .int (nI 0)), (0, .ref (a 0)), (1, .int (nI i))]) X dX10_setFirst_9 (by decide) rfl ?_
        have L_10 : ∀ (n_10 : Nat) (j : Nat) (hj : j ≤ 8) (hm_10 : 8 - j < n_10) (x_2 : Int32) (ex_2 : x_2 = (nI j)) (u_0 : Nat → Int32) (eu_0 : u_0 = tkF (rFstK (dR s) mm kd xo yo) be (8 * i + j)), GG E m_X10_setFirst Γ 0 0 ([wMd E a s, wAn E (a 2) 2 mm, wAr E (a 4) 16 kd, wAr E (a 5) 16 xo, wAr E (a 6) 16 yo, wAr E (a 15) 64 u_0].flatten) [(0, .ref (a 0)), (1, .int (nI i)), (2, .int x_2)] 10 [] := by
          intro n_10
          induction n_10 with
          | zero => intro j hj hm_10; exact absurd hm_10 (Nat.not_lt_zero _)
          | succ n_10 ih_10 =>
            intro j hj hm_10 x_2 ex_2 u_0 eu_0
            subst ex_2
            subst eu_0
            refine g_iload_n X 2 dX10_setFirst_10 rfl ?_
            refine g_bipush (v := (nI 8)) X dX10_setFirst_11 rfl ?_
            refine g_icmp_ge (tgt := 162) X dX10_setFirst_13 (by decide) (fun c_13 => ?_) (fun c_13 => ?_)
            · have f_c_13 : 8 ≤ j := n_le (by omega) (by omega) c_13
              have fn_c_13 := Nat.not_lt.mpr f_c_13
              refine g_iincN (lv' := [(1, .int (nI (i + 1))), (0, .ref (a 0)), (2, .int (nI j))]) X 1 dX10_setFirst_162 rfl (by decide) rfl ?_
              refine g_goto (tgt := 2) X dX10_setFirst_165 (by decide) ?_
              refine GG.lv [1, 0] rfl ?_
              exact ih_2 (i + 1) (by omega) (by omega) (nI (i + 1)) (by rfl) (tkF (rFstK (dR s) mm kd xo yo) be (8 * i + j)) (by rw [show 8 * i + j = 8 * (i + 1) by omega])
            · have f_c_13 : j < 8 := n_nle (by omega) (by omega) c_13
              have fn_c_13 := Nat.not_le.mpr f_c_13
              refine g_bipush (v := (nI 8)) X dX10_setFirst_16 rfl ?_
              refine g_iload_n X 1 dX10_setFirst_18 rfl ?_
              refine g_imulN X dX10_setFirst_19 ?_
              refine g_iload_n X 2 dX10_setFirst_20 rfl ?_
              refine g_iaddN X dX10_setFirst_21 ?_
              refine g_istore_n (lv' := [(3, .int (nI ((8 * i) + j))), (0, .ref (a 0)), (1, .int (nI i)), (2, .int (nI j))]) X dX10_setFirst_22 (by decide) rfl ?_
              refine g_aload_n X 1 dX10_setFirst_23 rfl ?_
              refine g_getf (v := .ref (a 15)) X fs_X10_50 0 rfl rfl dX10_setFirst_24 ?_
              refine g_iload_n X 0 dX10_setFirst_27 rfl ?_
              refine g_bipush (v := (-4)) X dX10_setFirst_28 rfl ?_
              refine g_iast (ws' := [wMd E a s, wAn E (a 2) 2 mm, wAr E (a 4) 16 kd, wAr E (a 5) 16 xo, wAr E (a 6) 16 yo, wAr E (a 15) 64 (upd (tkF (rFstK (dR s) mm kd xo yo) be (8 * i + j)) ((8 * i) + j) (-4))].flatten) X 5 rfl ((8 * i) + j) (ix_nI (by omega) (by decide)) rfl dX10_setFirst_30 ?_
              refine g_iload_n X 2 dX10_setFirst_31 rfl ?_
              refine g_aload_n X 1 dX10_setFirst_32 rfl ?_
              refine g_getf (v := .ref (a 2)) X fs_X10_16 0 rfl rfl dX10_setFirst_33 ?_
              refine g_iconst (v := (nI 0)) X dX10_setFirst_36 rfl ?_
              refine g_anld (f := mm) X 1 rfl 0 (ix_nI (by omega) (by decide)) dX10_setFirst_37 ?_
              refine g_icmp_ge (tgt := 156) X dX10_setFirst_38 (by decide) (fun c_38 => ?_) (fun c_38 => ?_)
              · have f_c_38 : mm 0 ≤ i := n_le (by omega) (by omega) c_38
                have fn_c_38 := Nat.not_lt.mpr f_c_38
                refine g_iincN (lv' := [(2, .int (nI (j + 1))), (3, .int (nI ((8 * i) + j))), (0, .ref (a 0)), (1, .int (nI i))]) X 3 dX10_setFirst_156 rfl (by decide) rfl ?_
                refine g_goto (tgt := 10) X dX10_setFirst_159 (by decide) ?_
                refine GG.lv [2, 3, 0] rfl ?_
                exact ih_10 (j + 1) (by omega) (by omega) (nI (j + 1)) (by rfl) (upd (tkF (rFstK (dR s) mm kd xo yo) be (8 * i + j)) ((8 * i) + j) (-4)) (by exact tkF_s _ _ _ (by rw [rFstK_at _ _ _ _ _ (show j < 8 by omega)]; unfold rFst; exact (if_neg (by omega)).symm))
              · have f_c_38 : i < mm 0 := n_nle (by omega) (by omega) c_38
                have fn_c_38 := Nat.not_le.mpr f_c_38
                refine g_iload_n X 3 dX10_setFirst_41 rfl ?_
                refine g_aload_n X 1 dX10_setFirst_42 rfl ?_
                refine g_getf (v := .ref (a 2)) X fs_X10_16 0 rfl rfl dX10_setFirst_43 ?_
                refine g_iconst (v := (nI 1)) X dX10_setFirst_46 rfl ?_
                refine g_anld (f := mm) X 1 rfl 1 (ix_nI (by omega) (by decide)) dX10_setFirst_47 ?_
                refine g_icmp_ge (tgt := 156) X dX10_setFirst_48 (by decide) (fun c_48 => ?_) (fun c_48 => ?_)
                · have f_c_48 : mm 1 ≤ j := n_le (by omega) (by omega) c_48
                  have fn_c_48 := Nat.not_lt.mpr f_c_48
                  refine g_iincN (lv' := [(2, .int (nI (j + 1))), (3, .int (nI ((8 * i) + j))), (0, .ref (a 0)), (1, .int (nI i))]) X 3 dX10_setFirst_156 rfl (by decide) rfl ?_
                  refine g_goto (tgt := 10) X dX10_setFirst_159 (by decide) ?_
                  refine GG.lv [2, 3, 0] rfl ?_
                  exact ih_10 (j + 1) (by omega) (by omega) (nI (j + 1)) (by rfl) (upd (tkF (rFstK (dR s) mm kd xo yo) be (8 * i + j)) ((8 * i) + j) (-4)) (by exact tkF_s _ _ _ (by rw [rFstK_at _ _ _ _ _ (show j < 8 by omega)]; unfold rFst; exact (if_neg (by omega)).symm))
                · have f_c_48 : j < mm 1 := n_nle (by omega) (by omega) c_48
                  have fn_c_48 := Nat.not_le.mpr f_c_48
                  refine g_aload_n X 1 dX10_setFirst_51 rfl ?_
                  refine g_iload_n X 2 dX10_setFirst_52 rfl ?_
                  refine g_bipush (v := (nI 8)) X dX10_setFirst_53 rfl ?_
                  refine g_iload_n X 3 dX10_setFirst_55 rfl ?_
                  refine g_iaddN X dX10_setFirst_56 ?_
                  refine g_callVr (st2 := [.int (rDist xo yo i (8 + j))]) (q0 := 0) X (c_X10_distance E a s xo yo i (8 + j) (by first | assumption | omega) (by first | assumption | omega)) cs_X10_134 rfl [0, 3, 4] [1, 2, 5] 6 rfl (by decide) rfl rfl rfl rfl rfl (Nat.le_of_ble_eq_true rfl) dX10_setFirst_57 rfl ?_
                  refine g_istore (lv' := [(4, .int (rDist xo yo i (8 + j))), (3, .int (nI ((8 * i) + j))), (0, .ref (a 0)), (1, .int (nI i)), (2, .int (nI j))]) X dX10_setFirst_60 (by decide) rfl ?_
                  refine g_aload_n X 2 dX10_setFirst_62 rfl ?_
                  refine g_iload_n X 3 dX10_setFirst_63 rfl ?_
                  refine g_callVr (st2 := [.int (rNear (dR s) (kd i))]) (q0 := 0) X (c_X10_nearOf E a s kd i (by first | assumption | omega)) cs_X10_96 rfl [0, 2] [1, 3, 4, 5] 6 rfl (by decide) rfl rfl rfl rfl rfl (Nat.le_of_ble_eq_true rfl) dX10_setFirst_64 rfl ?_
                  refine g_istore (lv' := [(5, .int (rNear (dR s) (kd i))), (4, .int (rDist xo yo i (8 + j))), (3, .int (nI ((8 * i) + j))), (0, .ref (a 0)), (1, .int (nI i)), (2, .int (nI j))]) X dX10_setFirst_67 (by decide) rfl ?_
                  refine g_aload_n X 3 dX10_setFirst_69 rfl ?_
                  refine g_bipush (v := (nI 8)) X dX10_setFirst_70 rfl ?_
                  refine g_iload_n X 5 dX10_setFirst_72 rfl ?_
                  refine g_iaddN X dX10_setFirst_73 ?_
                  refine g_callVr (st2 := [.int (rNear (dR s) (kd (8 + j)))]) (q0 := 0) X (c_X10_nearOf E a s kd (8 + j) (by first | assumption | omega)) cs_X10_96 rfl [0, 2] [1, 3, 4, 5] 6 rfl (by decide) rfl rfl rfl rfl rfl (Nat.le_of_ble_eq_true rfl) dX10_setFirst_74 rfl ?_
                  refine g_istore (lv' := [(6, .int (rNear (dR s) (kd (8 + j)))), (5, .int (rNear (dR s) (kd i))), (4, .int (rDist xo yo i (8 + j))), (3, .int (nI ((8 * i) + j))), (0, .ref (a 0)), (1, .int (nI i)), (2, .int (nI j))]) X dX10_setFirst_77 (by decide) rfl ?_
                  refine g_aload_n X 4 dX10_setFirst_79 rfl ?_
                  refine g_getf (v := .int (dR s)) X fs_X10_7 0 rfl rfl dX10_setFirst_80 ?_
                  refine g_aload_n X 4 dX10_setFirst_83 rfl ?_
                  refine g_getf (v := .int (dR s)) X fs_X10_7 0 rfl rfl dX10_setFirst_84 ?_
                  refine g_imul X dX10_setFirst_87 ?_
                  refine g_iconst (v := (nI 1)) X dX10_setFirst_88 rfl ?_
                  refine g_iadd X dX10_setFirst_89 ?_
                  refine g_iload X 2 dX10_setFirst_90 rfl ?_
                  refine g_isub X dX10_setFirst_92 ?_
                  refine g_istore (lv' := [(7, .int ((((dR s) * (dR s)) + (nI 1)) - (rDist xo yo i (8 + j)))), (6, .int (rNear (dR s) (kd (8 + j)))), (5, .int (rNear (dR s) (kd i))), (4, .int (rDist xo yo i (8 + j))), (3, .int (nI ((8 * i) + j))), (0, .ref (a 0)), (1, .int (nI i)), (2, .int (nI j))]) X dX10_setFirst_93 (by decide) rfl ?_
                  refine g_iload X 3 dX10_setFirst_95 rfl ?_
                  refine g_iload X 2 dX10_setFirst_97 rfl ?_
                  refine g_iload X 1 dX10_setFirst_99 rfl ?_
                  refine g_icmp_ge (tgt := 109) X dX10_setFirst_101 (by decide) (fun c_101 => ?_) (fun c_101 => ?_)
                  · refine g_iload X 1 dX10_setFirst_109 rfl ?_
                    refine g_callSP (st2 := [.int ((rNear (dR s) (kd (8 + j))) * (rNear (dR s) (kd (8 + j)))), .int (rDist xo yo i (8 + j))]) (ws' := [wMd E a s, wAn E (a 2) 2 mm, wAr E (a 4) 16 kd, wAr E (a 5) 16 xo, wAr E (a 6) 16 yo, wAr E (a 15) 64 (upd (tkF (rFstK (dR s) mm kd xo yo) be (8 * i + j)) ((8 * i) + j) (-4))].flatten) (wr := [wMd E a s, wAn E (a 2) 2 mm, wAr E (a 4) 16 kd, wAr E (a 5) 16 xo, wAr E (a 6) 16 yo, wAr E (a 15) 64 (upd (tkF (rFstK (dR s) mm kd xo yo) be (8 * i + j)) ((8 * i) + j) (-4))].flatten) X (c_X10_square E (rNear (dR s) (kd (8 + j)))) cs_X10_131 rfl (List.Perm.refl _) rfl (List.Perm.refl _) rfl rfl (Nat.le_of_ble_eq_true rfl) dX10_setFirst_111 rfl ?_
                    refine g_icmp_gt (tgt := 121) X dX10_setFirst_114 (by decide) (fun c_114 => ?_) (fun c_114 => ?_)
                    · refine g_iconst (v := (nI 0)) X dX10_setFirst_121 rfl ?_
                      refine g_istore (lv' := [(8, .int (nI 0)), (7, .int ((((dR s) * (dR s)) + (nI 1)) - (rDist xo yo i (8 + j)))), (6, .int (rNear (dR s) (kd (8 + j)))), (5, .int (rNear (dR s) (kd i))), (4, .int (rDist xo yo i (8 + j))), (3, .int (nI ((8 * i) + j))), (0, .ref (a 0)), (1, .int (nI i)), (2, .int (nI j))]) X dX10_setFirst_122 (by decide) rfl ?_
                      refine g_aload_n X 6 dX10_setFirst_124 rfl ?_
                      refine g_getf (v := .ref (a 15)) X fs_X10_50 0 rfl rfl dX10_setFirst_125 ?_
                      refine g_iload_n X 5 dX10_setFirst_128 rfl ?_
                      refine g_iload X 0 dX10_setFirst_129 rfl ?_
                      refine g_if_ne (tgt := 139) X dX10_setFirst_131 (by decide) (fun c_131 => absurd c_131 (by decide)) (fun c_131 => ?_)
                      refine g_bipush (v := (-4)) X dX10_setFirst_134 rfl ?_
                      refine g_goto (tgt := 155) X dX10_setFirst_136 (by decide) ?_
                      refine g_iast (ws' := [wMd E a s, wAn E (a 2) 2 mm, wAr E (a 4) 16 kd, wAr E (a 5) 16 xo, wAr E (a 6) 16 yo, wAr E (a 15) 64 (upd (upd (tkF (rFstK (dR s) mm kd xo yo) be (8 * i + j)) ((8 * i) + j) (-4)) ((8 * i) + j) (-4))].flatten) X 5 rfl ((8 * i) + j) (ix_nI (by omega) (by decide)) rfl dX10_setFirst_155 ?_
                      refine g_iincN (lv' := [(2, .int (nI (j + 1))), (8, .int (nI 0)), (7, .int ((((dR s) * (dR s)) + (nI 1)) - (rDist xo yo i (8 + j)))), (6, .int (rNear (dR s) (kd (8 + j)))), (5, .int (rNear (dR s) (kd i))), (4, .int (rDist xo yo i (8 + j))), (3, .int (nI ((8 * i) + j))), (0, .ref (a 0)), (1, .int (nI i))]) X 8 dX10_setFirst_156 rfl (by decide) rfl ?_
                      refine g_goto (tgt := 10) X dX10_setFirst_159 (by decide) ?_
                      refine GG.lv [7, 8, 0] rfl ?_
                      exact ih_10 (j + 1) (by omega) (by omega) (nI (j + 1)) (by rfl) (upd (upd (tkF (rFstK (dR s) mm kd xo yo) be (8 * i + j)) ((8 * i) + j) (-4)) ((8 * i) + j) (-4)) (by rw [upd_upd]; exact tkF_s _ _ _ (by rw [rFstK_at _ _ _ _ _ (show j < 8 by omega)]; simp [rFst, rMin, c_5, f_c_5, fn_c_5, c_13, f_c_13, fn_c_13, c_38, f_c_38, fn_c_38, c_48, f_c_48, fn_c_48, c_101, c_114]; try rfl))
                    · refine g_iconst (v := (nI 1)) X dX10_setFirst_117 rfl ?_
                      refine g_goto (tgt := 122) X dX10_setFirst_118 (by decide) ?_
                      refine g_istore (lv' := [(8, .int (nI 1)), (7, .int ((((dR s) * (dR s)) + (nI 1)) - (rDist xo yo i (8 + j)))), (6, .int (rNear (dR s) (kd (8 + j)))), (5, .int (rNear (dR s) (kd i))), (4, .int (rDist xo yo i (8 + j))), (3, .int (nI ((8 * i) + j))), (0, .ref (a 0)), (1, .int (nI i)), (2, .int (nI j))]) X dX10_setFirst_122 (by decide) rfl ?_
                      refine g_aload_n X 6 dX10_setFirst_124 rfl ?_
                      refine g_getf (v := .ref (a 15)) X fs_X10_50 0 rfl rfl dX10_setFirst_125 ?_
                      refine g_iload_n X 5 dX10_setFirst_128 rfl ?_
                      refine g_iload X 0 dX10_setFirst_129 rfl ?_
                      refine g_if_ne (tgt := 139) X dX10_setFirst_131 (by decide) (fun c_131 => ?_) (fun c_131 => absurd c_131 (by decide))
                      refine g_sipush (v := (nI 512)) X dX10_setFirst_139 rfl ?_
                      refine g_iload X 1 dX10_setFirst_142 rfl ?_
                      refine g_iconst (v := (nI 1)) X dX10_setFirst_144 rfl ?_
                      refine g_icmp_le (tgt := 153) X dX10_setFirst_145 (by decide) (fun c_145 => ?_) (fun c_145 => ?_)
                      · refine g_iconst (v := (nI 1)) X dX10_setFirst_153 rfl ?_
                        refine g_imulN X dX10_setFirst_154 ?_
                        refine g_iast (ws' := [wMd E a s, wAn E (a 2) 2 mm, wAr E (a 4) 16 kd, wAr E (a 5) 16 xo, wAr E (a 6) 16 yo, wAr E (a 15) 64 (upd (upd (tkF (rFstK (dR s) mm kd xo yo) be (8 * i + j)) ((8 * i) + j) (-4)) ((8 * i) + j) (nI 512))].flatten) X 5 rfl ((8 * i) + j) (ix_nI (by omega) (by decide)) rfl dX10_setFirst_155 ?_
                        refine g_iincN (lv' := [(2, .int (nI (j + 1))), (8, .int (nI 1)), (7, .int ((((dR s) * (dR s)) + (nI 1)) - (rDist xo yo i (8 + j)))), (6, .int (rNear (dR s) (kd (8 + j)))), (5, .int (rNear (dR s) (kd i))), (4, .int (rDist xo yo i (8 + j))), (3, .int (nI ((8 * i) + j))), (0, .ref (a 0)), (1, .int (nI i))]) X 8 dX10_setFirst_156 rfl (by decide) rfl ?_
                        refine g_goto (tgt := 10) X dX10_setFirst_159 (by decide) ?_
                        refine GG.lv [7, 8, 0] rfl ?_
                        exact ih_10 (j + 1) (by omega) (by omega) (nI (j + 1)) (by rfl) (upd (upd (tkF (rFstK (dR s) mm kd xo yo) be (8 * i + j)) ((8 * i) + j) (-4)) ((8 * i) + j) (nI 512)) (by rw [upd_upd]; exact tkF_s _ _ _ (by rw [rFstK_at _ _ _ _ _ (show j < 8 by omega)]; simp [rFst, rMin, c_5, f_c_5, fn_c_5, c_13, f_c_13, fn_c_13, c_38, f_c_38, fn_c_38, c_48, f_c_48, fn_c_48, c_101, c_114, c_145]; try rfl))
                      · refine g_iload X 1 dX10_setFirst_148 rfl ?_
                        refine g_goto (tgt := 154) X dX10_setFirst_150 (by decide) ?_
                        refine g_imul X dX10_setFirst_154 ?_
                        refine g_iast (ws' := [wMd E a s, wAn E (a 2) 2 mm, wAr E (a 4) 16 kd, wAr E (a 5) 16 xo, wAr E (a 6) 16 yo, wAr E (a 15) 64 (upd (upd (tkF (rFstK (dR s) mm kd xo yo) be (8 * i + j)) ((8 * i) + j) (-4)) ((8 * i) + j) ((nI 512) * ((((dR s) * (dR s)) + (nI 1)) - (rDist xo yo i (8 + j)))))].flatten) X 5 rfl ((8 * i) + j) (ix_nI (by omega) (by decide)) rfl dX10_setFirst_155 ?_
                        refine g_iincN (lv' := [(2, .int (nI (j + 1))), (8, .int (nI 1)), (7, .int ((((dR s) * (dR s)) + (nI 1)) - (rDist xo yo i (8 + j)))), (6, .int (rNear (dR s) (kd (8 + j)))), (5, .int (rNear (dR s) (kd i))), (4, .int (rDist xo yo i (8 + j))), (3, .int (nI ((8 * i) + j))), (0, .ref (a 0)), (1, .int (nI i))]) X 8 dX10_setFirst_156 rfl (by decide) rfl ?_
                        refine g_goto (tgt := 10) X dX10_setFirst_159 (by decide) ?_
                        refine GG.lv [7, 8, 0] rfl ?_
                        exact ih_10 (j + 1) (by omega) (by omega) (nI (j + 1)) (by rfl) (upd (upd (tkF (rFstK (dR s) mm kd xo yo) be (8 * i + j)) ((8 * i) + j) (-4)) ((8 * i) + j) ((nI 512) * ((((dR s) * (dR s)) + (nI 1)) - (rDist xo yo i (8 + j))))) (by rw [upd_upd]; exact tkF_s _ _ _ (by rw [rFstK_at _ _ _ _ _ (show j < 8 by omega)]; simp [rFst, rMin, c_5, f_c_5, fn_c_5, c_13, f_c_13, fn_c_13, c_38, f_c_38, fn_c_38, c_48, f_c_48, fn_c_48, c_101, c_114, c_145]; try rfl))
                  · refine g_iload X 2 dX10_setFirst_104 rfl ?_
                    refine g_goto (tgt := 111) X dX10_setFirst_106 (by decide) ?_
                    refine g_callSP (st2 := [.int ((rNear (dR s) (kd i)) * (rNear (dR s) (kd i))), .int (rDist xo yo i (8 + j))]) (ws' := [wMd E a s, wAn E (a 2) 2 mm, wAr E (a 4) 16 kd, wAr E (a 5) 16 xo, wAr E (a 6) 16 yo, wAr E (a 15) 64 (upd (tkF (rFstK (dR s) mm kd xo yo) be (8 * i + j)) ((8 * i) + j) (-4))].flatten) (wr := [wMd E a s, wAn E (a 2) 2 mm, wAr E (a 4) 16 kd, wAr E (a 5) 16 xo, wAr E (a 6) 16 yo, wAr E (a 15) 64 (upd (tkF (rFstK (dR s) mm kd xo yo) be (8 * i + j)) ((8 * i) + j) (-4))].flatten) X (c_X10_square E (rNear (dR s) (kd i))) cs_X10_131 rfl (List.Perm.refl _) rfl (List.Perm.refl _) rfl rfl (Nat.le_of_ble_eq_true rfl) dX10_setFirst_111 rfl ?_
                    refine g_icmp_gt (tgt := 121) X dX10_setFirst_114 (by decide) (fun c_114 => ?_) (fun c_114 => ?_)
                    · refine g_iconst (v := (nI 0)) X dX10_setFirst_121 rfl ?_
                      refine g_istore (lv' := [(8, .int (nI 0)), (7, .int ((((dR s) * (dR s)) + (nI 1)) - (rDist xo yo i (8 + j)))), (6, .int (rNear (dR s) (kd (8 + j)))), (5, .int (rNear (dR s) (kd i))), (4, .int (rDist xo yo i (8 + j))), (3, .int (nI ((8 * i) + j))), (0, .ref (a 0)), (1, .int (nI i)), (2, .int (nI j))]) X dX10_setFirst_122 (by decide) rfl ?_
                      refine g_aload_n X 6 dX10_setFirst_124 rfl ?_
                      refine g_getf (v := .ref (a 15)) X fs_X10_50 0 rfl rfl dX10_setFirst_125 ?_
                      refine g_iload_n X 5 dX10_setFirst_128 rfl ?_
                      refine g_iload X 0 dX10_setFirst_129 rfl ?_
                      refine g_if_ne (tgt := 139) X dX10_setFirst_131 (by decide) (fun c_131 => absurd c_131 (by decide)) (fun c_131 => ?_)
                      refine g_bipush (v := (-4)) X dX10_setFirst_134 rfl ?_
                      refine g_goto (tgt := 155) X dX10_setFirst_136 (by decide) ?_
                      refine g_iast (ws' := [wMd E a s, wAn E (a 2) 2 mm, wAr E (a 4) 16 kd, wAr E (a 5) 16 xo, wAr E (a 6) 16 yo, wAr E (a 15) 64 (upd (upd (tkF (rFstK (dR s) mm kd xo yo) be (8 * i + j)) ((8 * i) + j) (-4)) ((8 * i) + j) (-4))].flatten) X 5 rfl ((8 * i) + j) (ix_nI (by omega) (by decide)) rfl dX10_setFirst_155 ?_
                      refine g_iincN (lv' := [(2, .int (nI (j + 1))), (8, .int (nI 0)), (7, .int ((((dR s) * (dR s)) + (nI 1)) - (rDist xo yo i (8 + j)))), (6, .int (rNear (dR s) (kd (8 + j)))), (5, .int (rNear (dR s) (kd i))), (4, .int (rDist xo yo i (8 + j))), (3, .int (nI ((8 * i) + j))), (0, .ref (a 0)), (1, .int (nI i))]) X 8 dX10_setFirst_156 rfl (by decide) rfl ?_
                      refine g_goto (tgt := 10) X dX10_setFirst_159 (by decide) ?_
                      refine GG.lv [7, 8, 0] rfl ?_
                      exact ih_10 (j + 1) (by omega) (by omega) (nI (j + 1)) (by rfl) (upd (upd (tkF (rFstK (dR s) mm kd xo yo) be (8 * i + j)) ((8 * i) + j) (-4)) ((8 * i) + j) (-4)) (by rw [upd_upd]; exact tkF_s _ _ _ (by rw [rFstK_at _ _ _ _ _ (show j < 8 by omega)]; simp [rFst, rMin, c_5, f_c_5, fn_c_5, c_13, f_c_13, fn_c_13, c_38, f_c_38, fn_c_38, c_48, f_c_48, fn_c_48, c_101, c_114]; try rfl))
                    · refine g_iconst (v := (nI 1)) X dX10_setFirst_117 rfl ?_
                      refine g_goto (tgt := 122) X dX10_setFirst_118 (by decide) ?_
                      refine g_istore (lv' := [(8, .int (nI 1)), (7, .int ((((dR s) * (dR s)) + (nI 1)) - (rDist xo yo i (8 + j)))), (6, .int (rNear (dR s) (kd (8 + j)))), (5, .int (rNear (dR s) (kd i))), (4, .int (rDist xo yo i (8 + j))), (3, .int (nI ((8 * i) + j))), (0, .ref (a 0)), (1, .int (nI i)), (2, .int (nI j))]) X dX10_setFirst_122 (by decide) rfl ?_
                      refine g_aload_n X 6 dX10_setFirst_124 rfl ?_
                      refine g_getf (v := .ref (a 15)) X fs_X10_50 0 rfl rfl dX10_setFirst_125 ?_
                      refine g_iload_n X 5 dX10_setFirst_128 rfl ?_
                      refine g_iload X 0 dX10_setFirst_129 rfl ?_
                      refine g_if_ne (tgt := 139) X dX10_setFirst_131 (by decide) (fun c_131 => ?_) (fun c_131 => absurd c_131 (by decide))
                      refine g_sipush (v := (nI 512)) X dX10_setFirst_139 rfl ?_
                      refine g_iload X 1 dX10_setFirst_142 rfl ?_
                      refine g_iconst (v := (nI 1)) X dX10_setFirst_144 rfl ?_
                      refine g_icmp_le (tgt := 153) X dX10_setFirst_145 (by decide) (fun c_145 => ?_) (fun c_145 => ?_)
                      · refine g_iconst (v := (nI 1)) X dX10_setFirst_153 rfl ?_
                        refine g_imulN X dX10_setFirst_154 ?_
                        refine g_iast (ws' := [wMd E a s, wAn E (a 2) 2 mm, wAr E (a 4) 16 kd, wAr E (a 5) 16 xo, wAr E (a 6) 16 yo, wAr E (a 15) 64 (upd (upd (tkF (rFstK (dR s) mm kd xo yo) be (8 * i + j)) ((8 * i) + j) (-4)) ((8 * i) + j) (nI 512))].flatten) X 5 rfl ((8 * i) + j) (ix_nI (by omega) (by decide)) rfl dX10_setFirst_155 ?_
                        refine g_iincN (lv' := [(2, .int (nI (j + 1))), (8, .int (nI 1)), (7, .int ((((dR s) * (dR s)) + (nI 1)) - (rDist xo yo i (8 + j)))), (6, .int (rNear (dR s) (kd (8 + j)))), (5, .int (rNear (dR s) (kd i))), (4, .int (rDist xo yo i (8 + j))), (3, .int (nI ((8 * i) + j))), (0, .ref (a 0)), (1, .int (nI i))]) X 8 dX10_setFirst_156 rfl (by decide) rfl ?_
                        refine g_goto (tgt := 10) X dX10_setFirst_159 (by decide) ?_
                        refine GG.lv [7, 8, 0] rfl ?_
                        exact ih_10 (j + 1) (by omega) (by omega) (nI (j + 1)) (by rfl) (upd (upd (tkF (rFstK (dR s) mm kd xo yo) be (8 * i + j)) ((8 * i) + j) (-4)) ((8 * i) + j) (nI 512)) (by rw [upd_upd]; exact tkF_s _ _ _ (by rw [rFstK_at _ _ _ _ _ (show j < 8 by omega)]; simp [rFst, rMin, c_5, f_c_5, fn_c_5, c_13, f_c_13, fn_c_13, c_38, f_c_38, fn_c_38, c_48, f_c_48, fn_c_48, c_101, c_114, c_145]; try rfl))
                      · refine g_iload X 1 dX10_setFirst_148 rfl ?_
                        refine g_goto (tgt := 154) X dX10_setFirst_150 (by decide) ?_
                        refine g_imul X dX10_setFirst_154 ?_
                        refine g_iast (ws' := [wMd E a s, wAn E (a 2) 2 mm, wAr E (a 4) 16 kd, wAr E (a 5) 16 xo, wAr E (a 6) 16 yo, wAr E (a 15) 64 (upd (upd (tkF (rFstK (dR s) mm kd xo yo) be (8 * i + j)) ((8 * i) + j) (-4)) ((8 * i) + j) ((nI 512) * ((((dR s) * (dR s)) + (nI 1)) - (rDist xo yo i (8 + j)))))].flatten) X 5 rfl ((8 * i) + j) (ix_nI (by omega) (by decide)) rfl dX10_setFirst_155 ?_
                        refine g_iincN (lv' := [(2, .int (nI (j + 1))), (8, .int (nI 1)), (7, .int ((((dR s) * (dR s)) + (nI 1)) - (rDist xo yo i (8 + j)))), (6, .int (rNear (dR s) (kd (8 + j)))), (5, .int (rNear (dR s) (kd i))), (4, .int (rDist xo yo i (8 + j))), (3, .int (nI ((8 * i) + j))), (0, .ref (a 0)), (1, .int (nI i))]) X 8 dX10_setFirst_156 rfl (by decide) rfl ?_
                        refine g_goto (tgt := 10) X dX10_setFirst_159 (by decide) ?_
                        refine GG.lv [7, 8, 0] rfl ?_
                        exact ih_10 (j + 1) (by omega) (by omega) (nI (j + 1)) (by rfl) (upd (upd (tkF (rFstK (dR s) mm kd xo yo) be (8 * i + j)) ((8 * i) + j) (-4)) ((8 * i) + j) ((nI 512) * ((((dR s) * (dR s)) + (nI 1)) - (rDist xo yo i (8 + j))))) (by rw [upd_upd]; exact tkF_s _ _ _ (by rw [rFstK_at _ _ _ _ _ (show j < 8 by omega)]; simp [rFst, rMin, c_5, f_c_5, fn_c_5, c_13, f_c_13, fn_c_13, c_38, f_c_38, fn_c_38, c_48, f_c_48, fn_c_48, c_101, c_114, c_145]; try rfl))
        refine GG.lv [1, 2, 0] rfl ?_
        exact L_10 (9) 0 (by omega) (by omega) (nI 0) (by rfl) (tkF (rFstK (dR s) mm kd xo yo) be (8 * i)) (by rfl)
  refine GG.lv [1, 0] rfl ?_
  exact L_2 (9) 0 (by omega) (by omega) (nI 0) (by rfl) be (by exact (tkF_0 _ _).symm)
set_option maxHeartbeats 4000000 in
set_option maxRecDepth 100000 in
theorem c_X10_believed (E : GE) (a : Nat → Nat) (s : MD0) (be : Nat → Int32) (x : Int32) (y : Int32) (hbx : n8 x) (hby : n8 y) : CT E m_X10_believed [.ref (a 0), .int x, .int y] ([wMd E a s, wAr E (a 15) 64 be].flatten) (some (.int (rBel be x y))) ([wMd E a s, wAr E (a 15) 64 be].flatten) := by
  refine CT.intro (by decide +kernel) (Nat.le_of_ble_eq_true rfl) (fun Γ X hx => ?_)
  refine GG.lv [0, 1, 2] (lv' := [(0, .ref (a 0)), (1, .int x), (2, .int y)]) rfl ?_
  obtain ⟨p, hp, rfl⟩ := hbx
  obtain ⟨q, hq, rfl⟩ := hby
  refine g_aload_n X 0 dX10_believed_0 rfl ?_
  refine g_getf (v := .ref (a 15)) X fs_X10_50 0 rfl rfl dX10_believed_1 ?_
  refine g_bipush (v := (nI 8)) X dX10_believed_4 rfl ?_
  refine g_iload_n X 1 dX10_believed_6 rfl ?_
  refine g_imulN X dX10_believed_7 ?_
  refine g_iload_n X 2 dX10_believed_8 rfl ?_
  refine g_iaddN X dX10_believed_9 ?_
  refine g_iald X 1 rfl ((8 * p) + q) (ix_nI (by omega) (by decide)) dX10_believed_10 ?_
  refine g_istore_n (lv' := [(3, .int (be ((8 * p) + q))), (0, .ref (a 0)), (1, .int (nI p)), (2, .int (nI q))]) X dX10_believed_11 (by decide) rfl ?_
  refine g_iload_n X 0 dX10_believed_12 rfl ?_
  refine g_bipush (v := (-4)) X dX10_believed_13 rfl ?_
  refine g_icmp_ne (tgt := 22) X dX10_believed_15 (by decide) (fun c_15 => ?_) (fun c_15 => ?_)
  · refine g_iload_n X 0 dX10_believed_22 rfl ?_
    exact g_iretv (r := (be ((8 * p) + q))) X hx rfl (by simp [rBel, nI_clamp (show p < 2 ^ 31 by omega), nI_clamp (show q < 2 ^ 31 by omega), c_15]) (by rfl) dX10_believed_23
  · refine g_iconst (v := (nI 0)) X dX10_believed_18 rfl ?_
    refine g_goto (tgt := 23) X dX10_believed_19 (by decide) ?_
    exact g_iretv (r := (nI 0)) X hx rfl (by simp [rBel, nI_clamp (show p < 2 ^ 31 by omega), nI_clamp (show q < 2 ^ 31 by omega), c_15]) (by rfl) dX10_believed_23
set_option maxHeartbeats 4000000 in
set_option maxRecDepth 100000 in
theorem c_X10_sumOf_0 (E : GE) (a : Nat → Nat) (s : MD0) (ss : Nat → Nat) (fr : Nat → Int32) (tt : Nat → Int32) (be : Nat → Int32) (i : Nat) (j : Nat) (hss : ∀ g, g < 2 → ss g ≤ 8) (hE : okE ss fr tt) : CT E m_X10_sumOf [.ref (a 0), .int (nI 0), .int (nI i), .int (nI j)] ([wMd E a s, wAn E (a 3) 2 ss, wAr E (a 7) 16 fr, wAr E (a 8) 16 tt, wAr E (a 15) 64 be].flatten) (some (.int (rSum0 ss fr tt be i j))) ([wMd E a s, wAn E (a 3) 2 ss, wAr E (a 7) 16 fr, wAr E (a 8) 16 tt, wAr E (a 15) 64 be].flatten) := by
  refine CT.intro (by decide +kernel) (Nat.le_of_ble_eq_true rfl) (fun Γ X hx => ?_)
  refine GG.lv [0, 1, 2, 3] (lv' := [(0, .ref (a 0)), (1, .int (nI 0)), (2, .int (nI i)), (3, .int (nI j))]) rfl ?_
  have hs0 := hss 0 (by decide)
  have hs1 := hss 1 (by decide)
  refine g_iconst (v := (nI 0)) X dX10_sumOf_0 rfl ?_
  refine g_istore (lv' := [(4, .int (nI 0)), (0, .ref (a 0)), (1, .int (nI 0)), (2, .int (nI i)), (3, .int (nI j))]) X dX10_sumOf_1 (by decide) rfl ?_
  refine g_iload_n X 2 dX10_sumOf_3 rfl ?_
  refine g_if_ne (tgt := 11) X dX10_sumOf_4 (by decide) (fun c_4 => absurd c_4 (by decide)) (fun c_4 => ?_)
  refine g_iload_n X 3 dX10_sumOf_7 rfl ?_
  refine g_goto (tgt := 12) X dX10_sumOf_8 (by decide) ?_
  refine g_istore (lv' := [(5, .int (nI i)), (4, .int (nI 0)), (0, .ref (a 0)), (1, .int (nI 0)), (2, .int (nI i)), (3, .int (nI j))]) X dX10_sumOf_12 (by decide) rfl ?_
  refine g_iload_n X 3 dX10_sumOf_14 rfl ?_
  refine g_if_ne (tgt := 22) X dX10_sumOf_15 (by decide) (fun c_15 => absurd c_15 (by decide)) (fun c_15 => ?_)
  refine g_iload_n X 5 dX10_sumOf_18 rfl ?_
  refine g_goto (tgt := 23) X dX10_sumOf_19 (by decide) ?_
  refine g_istore (lv' := [(6, .int (nI j)), (5, .int (nI i)), (4, .int (nI 0)), (0, .ref (a 0)), (1, .int (nI 0)), (2, .int (nI i)), (3, .int (nI j))]) X dX10_sumOf_23 (by decide) rfl ?_
  refine g_iconst (v := (nI 0)) X dX10_sumOf_25 rfl ?_
  refine g_istore (lv' := [(7, .int (nI 0)), (6, .int (nI j)), (5, .int (nI i)), (4, .int (nI 0)), (0, .ref (a 0)), (1, .int (nI 0)), (2, .int (nI i)), (3, .int (nI j))]) X dX10_sumOf_26 (by decide) rfl ?_
  have L_28 : ∀ (n_28 : Nat) (q : Nat) (hq : q ≤ ss 0) (hm_28 : ss 0 - q < n_28) (x_4 : Int32) (ex_4 : x_4 = (sumI (rF0 ss fr tt be (nI i) (nI j)) q)) (x_7 : Int32) (ex_7 : x_7 = (nI q)), GG E m_X10_sumOf Γ 0 0 ([wMd E a s, wAn E (a 3) 2 ss, wAr E (a 7) 16 fr, wAr E (a 8) 16 tt, wAr E (a 15) 64 be].flatten) [(0, .ref (a 0)), (1, .int (nI 0)), (2, .int (nI i)), (3, .int (nI j)), (4, .int x_4), (5, .int (nI i)), (6, .int (nI j)), (7, .int x_7)] 28 [] := by
    intro n_28
    induction n_28 with
    | zero => intro q hq hm_28; exact absurd hm_28 (Nat.not_lt_zero _)
    | succ n_28 ih_28 =>
      intro q hq hm_28 x_4 ex_4 x_7 ex_7
      subst ex_4
      subst ex_7
      refine g_iload X 7 dX10_sumOf_28 rfl ?_
      refine g_aload_n X 0 dX10_sumOf_30 rfl ?_
      refine g_getf (v := .ref (a 3)) X fs_X10_20 0 rfl rfl dX10_sumOf_31 ?_
      refine g_iload_n X 1 dX10_sumOf_34 rfl ?_
      refine g_anld (f := ss) X 1 rfl 0 (ix_nI (by omega) (by decide)) dX10_sumOf_35 ?_
      refine g_icmp_ge (tgt := 160) X dX10_sumOf_36 (by decide) (fun c_36 => ?_) (fun c_36 => ?_)
      · have f_c_36 : ss 0 ≤ q := n_le (by omega) (by omega) c_36
        have fn_c_36 := Nat.not_lt.mpr f_c_36
        refine g_iload X 4 dX10_sumOf_160 rfl ?_
        exact g_iretv (r := (sumI (rF0 ss fr tt be (nI i) (nI j)) q)) X hx rfl (by unfold rSum0; rw [show ss 0 = q by omega]) (by rfl) dX10_sumOf_162
      · have f_c_36 : q < ss 0 := n_nle (by omega) (by omega) c_36
        have fn_c_36 := Nat.not_le.mpr f_c_36
        refine g_aload_n X 0 dX10_sumOf_39 rfl ?_
        refine g_iload_n X 1 dX10_sumOf_40 rfl ?_
        refine g_iload X 7 dX10_sumOf_41 rfl ?_
        refine g_iload X 5 dX10_sumOf_43 rfl ?_
        refine g_callVr (st2 := [.int (rOther fr tt 0 q (nI i))]) (q0 := 0) X (c_X10_otherEnd E a s fr tt 0 q (nI i) (by first | assumption | omega) (by first | assumption | omega)) cs_X10_137 rfl [0, 2, 3] [1, 4] 5 rfl (by decide) rfl rfl rfl rfl rfl (Nat.le_of_ble_eq_true rfl) dX10_sumOf_45 rfl ?_
        refine g_istore (lv' := [(8, .int (rOther fr tt 0 q (nI i))), (0, .ref (a 0)), (1, .int (nI 0)), (2, .int (nI i)), (3, .int (nI j)), (4, .int (sumI (rF0 ss fr tt be (nI i) (nI j)) q)), (5, .int (nI i)), (6, .int (nI j)), (7, .int (nI q))]) X dX10_sumOf_48 (by decide) rfl ?_
        refine g_iconst (v := (nI 0)) X dX10_sumOf_50 rfl ?_
        refine g_istore (lv' := [(9, .int (nI 0)), (8, .int (rOther fr tt 0 q (nI i))), (0, .ref (a 0)), (1, .int (nI 0)), (2, .int (nI i)), (3, .int (nI j)), (4, .int (sumI (rF0 ss fr tt be (nI i) (nI j)) q)), (5, .int (nI i)), (6, .int (nI j)), (7, .int (nI q))]) X dX10_sumOf_51 (by decide) rfl ?_
        refine g_iconst (v := (nI 0)) X dX10_sumOf_53 rfl ?_
        refine g_istore (lv' := [(10, .int (nI 0)), (9, .int (nI 0)), (8, .int (rOther fr tt 0 q (nI i))), (0, .ref (a 0)), (1, .int (nI 0)), (2, .int (nI i)), (3, .int (nI j)), (4, .int (sumI (rF0 ss fr tt be (nI i) (nI j)) q)), (5, .int (nI i)), (6, .int (nI j)), (7, .int (nI q))]) X dX10_sumOf_54 (by decide) rfl ?_
        have L_56 : ∀ (n_56 : Nat) (t1 : Nat) (ht1 : t1 ≤ ss 1) (hk : rOther fr tt 0 q (nI i) = -4 → t1 = 0) (hm_56 : ss 1 - t1 < n_56) (x_9 : Int32) (ex_9 : x_9 = (maxI (rG0 fr tt be q (nI i) (nI j)) t1)) (x_10 : Int32) (ex_10 : x_10 = (nI t1)), GG E m_X10_sumOf Γ 0 0 ([wMd E a s, wAn E (a 3) 2 ss, wAr E (a 7) 16 fr, wAr E (a 8) 16 tt, wAr E (a 15) 64 be].flatten) [(0, .ref (a 0)), (1, .int (nI 0)), (2, .int (nI i)), (3, .int (nI j)), (4, .int (sumI (rF0 ss fr tt be (nI i) (nI j)) q)), (5, .int (nI i)), (6, .int (nI j)), (7, .int (nI q)), (8, .int (rOther fr tt 0 q (nI i))), (9, .int x_9), (10, .int x_10)] 56 [] := by
          intro n_56
          induction n_56 with
          | zero => intro t1 ht1 hk hm_56; exact absurd hm_56 (Nat.not_lt_zero _)
          | succ n_56 ih_56 =>
            intro t1 ht1 hk hm_56 x_9 ex_9 x_10 ex_10
            subst ex_9
            subst ex_10
            refine g_iload X 10 dX10_sumOf_56 rfl ?_
            refine g_aload_n X 0 dX10_sumOf_58 rfl ?_
            refine g_getf (v := .ref (a 3)) X fs_X10_20 0 rfl rfl dX10_sumOf_59 ?_
            refine g_iconst (v := (nI 1)) X dX10_sumOf_62 rfl ?_
            refine g_iload_n X 1 dX10_sumOf_63 rfl ?_
            refine g_isubN X (by omega) dX10_sumOf_64 ?_
            refine g_anld (f := ss) X 1 rfl 1 (ix_nI (by omega) (by decide)) dX10_sumOf_65 ?_
            refine g_icmp_ge (tgt := 147) X dX10_sumOf_66 (by decide) (fun c_66 => ?_) (fun c_66 => ?_)
            · have f_c_66 : ss 1 ≤ t1 := n_le (by omega) (by omega) c_66
              have fn_c_66 := Nat.not_lt.mpr f_c_66
              refine g_iload X 4 dX10_sumOf_147 rfl ?_
              refine g_iload X 9 dX10_sumOf_149 rfl ?_
              refine g_iadd X dX10_sumOf_151 ?_
              refine g_istore (lv' := [(4, .int ((sumI (rF0 ss fr tt be (nI i) (nI j)) q) + (maxI (rG0 fr tt be q (nI i) (nI j)) t1))), (0, .ref (a 0)), (1, .int (nI 0)), (2, .int (nI i)), (3, .int (nI j)), (5, .int (nI i)), (6, .int (nI j)), (7, .int (nI q)), (8, .int (rOther fr tt 0 q (nI i))), (9, .int (maxI (rG0 fr tt be q (nI i) (nI j)) t1)), (10, .int (nI t1))]) X dX10_sumOf_152 (by decide) rfl ?_
              refine g_iincN (lv' := [(7, .int (nI (q + 1))), (4, .int ((sumI (rF0 ss fr tt be (nI i) (nI j)) q) + (maxI (rG0 fr tt be q (nI i) (nI j)) t1))), (0, .ref (a 0)), (1, .int (nI 0)), (2, .int (nI i)), (3, .int (nI j)), (5, .int (nI i)), (6, .int (nI j)), (8, .int (rOther fr tt 0 q (nI i))), (9, .int (maxI (rG0 fr tt be q (nI i) (nI j)) t1)), (10, .int (nI t1))]) X 7 dX10_sumOf_154 rfl (by decide) rfl ?_
              refine g_goto (tgt := 28) X dX10_sumOf_157 (by decide) ?_
              refine GG.lv [2, 3, 4, 5, 1, 6, 7, 0] rfl ?_
              exact ih_28 (q + 1) (by omega) (by omega) ((sumI (rF0 ss fr tt be (nI i) (nI j)) q) + (maxI (rG0 fr tt be q (nI i) (nI j)) t1)) (by show _ = sumI _ q + rF0 _ _ _ _ _ _ q; unfold rF0; rw [← rgv_end hk (by omega)]) (nI (q + 1)) (by rfl)
            · have f_c_66 : t1 < ss 1 := n_nle (by omega) (by omega) c_66
              have fn_c_66 := Nat.not_le.mpr f_c_66
              refine g_iload X 8 dX10_sumOf_69 rfl ?_
              refine g_bipush (v := (-4)) X dX10_sumOf_71 rfl ?_
              refine g_icmp_eq (tgt := 147) X dX10_sumOf_73 (by decide) (fun c_73 => ?_) (fun c_73 => ?_)
              · refine g_iload X 4 dX10_sumOf_147 rfl ?_
                refine g_iload X 9 dX10_sumOf_149 rfl ?_
                refine g_iadd X dX10_sumOf_151 ?_
                refine g_istore (lv' := [(4, .int ((sumI (rF0 ss fr tt be (nI i) (nI j)) q) + (maxI (rG0 fr tt be q (nI i) (nI j)) t1))), (0, .ref (a 0)), (1, .int (nI 0)), (2, .int (nI i)), (3, .int (nI j)), (5, .int (nI i)), (6, .int (nI j)), (7, .int (nI q)), (8, .int (rOther fr tt 0 q (nI i))), (9, .int (maxI (rG0 fr tt be q (nI i) (nI j)) t1)), (10, .int (nI t1))]) X dX10_sumOf_152 (by decide) rfl ?_
                refine g_iincN (lv' := [(7, .int (nI (q + 1))), (4, .int ((sumI (rF0 ss fr tt be (nI i) (nI j)) q) + (maxI (rG0 fr tt be q (nI i) (nI j)) t1))), (0, .ref (a 0)), (1, .int (nI 0)), (2, .int (nI i)), (3, .int (nI j)), (5, .int (nI i)), (6, .int (nI j)), (8, .int (rOther fr tt 0 q (nI i))), (9, .int (maxI (rG0 fr tt be q (nI i) (nI j)) t1)), (10, .int (nI t1))]) X 7 dX10_sumOf_154 rfl (by decide) rfl ?_
                refine g_goto (tgt := 28) X dX10_sumOf_157 (by decide) ?_
                refine GG.lv [2, 3, 4, 5, 1, 6, 7, 0] rfl ?_
                exact ih_28 (q + 1) (by omega) (by omega) ((sumI (rF0 ss fr tt be (nI i) (nI j)) q) + (maxI (rG0 fr tt be q (nI i) (nI j)) t1)) (by show _ = sumI _ q + rF0 _ _ _ _ _ _ q; unfold rF0; rw [← rgv_none hk c_73]) (nI (q + 1)) (by rfl)
              · refine g_aload_n X 0 dX10_sumOf_76 rfl ?_
                refine g_iconst (v := (nI 1)) X dX10_sumOf_77 rfl ?_
                refine g_iload_n X 1 dX10_sumOf_78 rfl ?_
                refine g_isubN X (by omega) dX10_sumOf_79 ?_
                refine g_iload X 10 dX10_sumOf_80 rfl ?_
                refine g_iload X 6 dX10_sumOf_82 rfl ?_
                refine g_callVr (st2 := [.int (rOther fr tt 1 t1 (nI j))]) (q0 := 0) X (c_X10_otherEnd E a s fr tt 1 t1 (nI j) (by first | assumption | omega) (by first | assumption | omega)) cs_X10_137 rfl [0, 2, 3] [1, 4] 5 rfl (by decide) rfl rfl rfl rfl rfl (Nat.le_of_ble_eq_true rfl) dX10_sumOf_84 rfl ?_
                refine g_istore (lv' := [(11, .int (rOther fr tt 1 t1 (nI j))), (0, .ref (a 0)), (1, .int (nI 0)), (2, .int (nI i)), (3, .int (nI j)), (4, .int (sumI (rF0 ss fr tt be (nI i) (nI j)) q)), (5, .int (nI i)), (6, .int (nI j)), (7, .int (nI q)), (8, .int (rOther fr tt 0 q (nI i))), (9, .int (maxI (rG0 fr tt be q (nI i) (nI j)) t1)), (10, .int (nI t1))]) X dX10_sumOf_87 (by decide) rfl ?_
                refine g_iload X 0 dX10_sumOf_89 rfl ?_
                refine g_bipush (v := (-4)) X dX10_sumOf_91 rfl ?_
                refine g_icmp_ne (tgt := 100) X dX10_sumOf_93 (by decide) (fun c_93 => ?_) (fun c_93 => ?_)
                · refine g_iload_n X 2 dX10_sumOf_100 rfl ?_
                  refine g_if_ne (tgt := 115) X dX10_sumOf_101 (by decide) (fun c_101 => absurd c_101 (by decide)) (fun c_101 => ?_)
                  refine g_aload_n X 1 dX10_sumOf_104 rfl ?_
                  refine g_iload X 9 dX10_sumOf_105 rfl ?_
                  refine g_iload X 0 dX10_sumOf_107 rfl ?_
                  refine g_callVr (st2 := [.int (rBel be (rOther fr tt 0 q (nI i)) (rOther fr tt 1 t1 (nI j)))]) (q0 := 0) X (c_X10_believed E a s be (rOther fr tt 0 q (nI i)) (rOther fr tt 1 t1 (nI j)) (rOther_ok hE (by decide) (by omega) (by assumption)) (rOther_ok hE (by decide) (by omega) (by assumption))) cs_X10_140 rfl [0, 4] [1, 2, 3] 5 rfl (by decide) rfl rfl rfl rfl rfl (Nat.le_of_ble_eq_true rfl) dX10_sumOf_109 rfl ?_
                  refine g_goto (tgt := 123) X dX10_sumOf_112 (by decide) ?_
                  refine g_istore (lv' := [(12, .int (rBel be (rOther fr tt 0 q (nI i)) (rOther fr tt 1 t1 (nI j)))), (11, .int (rOther fr tt 1 t1 (nI j))), (0, .ref (a 0)), (1, .int (nI 0)), (2, .int (nI i)), (3, .int (nI j)), (4, .int (sumI (rF0 ss fr tt be (nI i) (nI j)) q)), (5, .int (nI i)), (6, .int (nI j)), (7, .int (nI q)), (8, .int (rOther fr tt 0 q (nI i))), (9, .int (maxI (rG0 fr tt be q (nI i) (nI j)) t1)), (10, .int (nI t1))]) X dX10_sumOf_123 (by decide) rfl ?_
                  refine g_iload X 0 dX10_sumOf_125 rfl ?_
                  refine g_iload X 11 dX10_sumOf_127 rfl ?_
                  refine g_icmp_le (tgt := 137) X dX10_sumOf_129 (by decide) (fun c_129 => ?_) (fun c_129 => ?_)
                  · refine g_iload X 11 dX10_sumOf_137 rfl ?_
                    refine g_istore (lv' := [(9, .int (maxI (rG0 fr tt be q (nI i) (nI j)) t1)), (12, .int (rBel be (rOther fr tt 0 q (nI i)) (rOther fr tt 1 t1 (nI j)))), (11, .int (rOther fr tt 1 t1 (nI j))), (0, .ref (a 0)), (1, .int (nI 0)), (2, .int (nI i)), (3, .int (nI j)), (4, .int (sumI (rF0 ss fr tt be (nI i) (nI j)) q)), (5, .int (nI i)), (6, .int (nI j)), (7, .int (nI q)), (8, .int (rOther fr tt 0 q (nI i))), (10, .int (nI t1))]) X dX10_sumOf_139 (by decide) rfl ?_
                    refine g_iincN (lv' := [(10, .int (nI (t1 + 1))), (9, .int (maxI (rG0 fr tt be q (nI i) (nI j)) t1)), (12, .int (rBel be (rOther fr tt 0 q (nI i)) (rOther fr tt 1 t1 (nI j)))), (11, .int (rOther fr tt 1 t1 (nI j))), (0, .ref (a 0)), (1, .int (nI 0)), (2, .int (nI i)), (3, .int (nI j)), (4, .int (sumI (rF0 ss fr tt be (nI i) (nI j)) q)), (5, .int (nI i)), (6, .int (nI j)), (7, .int (nI q)), (8, .int (rOther fr tt 0 q (nI i)))]) X 12 dX10_sumOf_141 rfl (by decide) rfl ?_
                    refine g_goto (tgt := 56) X dX10_sumOf_144 (by decide) ?_
                    refine GG.lv [4, 5, 6, 7, 8, 9, 10, 11, 12, 1, 0] rfl ?_
                    exact ih_56 (t1 + 1) (by omega) (fun e => absurd e c_73) (by omega) (maxI (rG0 fr tt be q (nI i) (nI j)) t1) (by exact maxI_f (by unfold rG0 rGv; exact if_neg c_93) c_129) (nI (t1 + 1)) (by rfl)
                  · refine g_iload X 0 dX10_sumOf_132 rfl ?_
                    refine g_goto (tgt := 139) X dX10_sumOf_134 (by decide) ?_
                    refine g_istore (lv' := [(9, .int (rBel be (rOther fr tt 0 q (nI i)) (rOther fr tt 1 t1 (nI j)))), (12, .int (rBel be (rOther fr tt 0 q (nI i)) (rOther fr tt 1 t1 (nI j)))), (11, .int (rOther fr tt 1 t1 (nI j))), (0, .ref (a 0)), (1, .int (nI 0)), (2, .int (nI i)), (3, .int (nI j)), (4, .int (sumI (rF0 ss fr tt be (nI i) (nI j)) q)), (5, .int (nI i)), (6, .int (nI j)), (7, .int (nI q)), (8, .int (rOther fr tt 0 q (nI i))), (10, .int (nI t1))]) X dX10_sumOf_139 (by decide) rfl ?_
                    refine g_iincN (lv' := [(10, .int (nI (t1 + 1))), (9, .int (rBel be (rOther fr tt 0 q (nI i)) (rOther fr tt 1 t1 (nI j)))), (12, .int (rBel be (rOther fr tt 0 q (nI i)) (rOther fr tt 1 t1 (nI j)))), (11, .int (rOther fr tt 1 t1 (nI j))), (0, .ref (a 0)), (1, .int (nI 0)), (2, .int (nI i)), (3, .int (nI j)), (4, .int (sumI (rF0 ss fr tt be (nI i) (nI j)) q)), (5, .int (nI i)), (6, .int (nI j)), (7, .int (nI q)), (8, .int (rOther fr tt 0 q (nI i)))]) X 12 dX10_sumOf_141 rfl (by decide) rfl ?_
                    refine g_goto (tgt := 56) X dX10_sumOf_144 (by decide) ?_
                    refine GG.lv [4, 5, 6, 7, 8, 9, 10, 11, 12, 1, 0] rfl ?_
                    exact ih_56 (t1 + 1) (by omega) (fun e => absurd e c_73) (by omega) (rBel be (rOther fr tt 0 q (nI i)) (rOther fr tt 1 t1 (nI j))) (by exact maxI_t (by unfold rG0 rGv; exact if_neg c_93) c_129) (nI (t1 + 1)) (by rfl)
                · refine g_iconst (v := (nI 0)) X dX10_sumOf_96 rfl ?_
                  refine g_goto (tgt := 123) X dX10_sumOf_97 (by decide) ?_
                  refine g_istore (lv' := [(12, .int (nI 0)), (11, .int (rOther fr tt 1 t1 (nI j))), (0, .ref (a 0)), (1, .int (nI 0)), (2, .int (nI i)), (3, .int (nI j)), (4, .int (sumI (rF0 ss fr tt be (nI i) (nI j)) q)), (5, .int (nI i)), (6, .int (nI j)), (7, .int (nI q)), (8, .int (rOther fr tt 0 q (nI i))), (9, .int (maxI (rG0 fr tt be q (nI i) (nI j)) t1)), (10, .int (nI t1))]) X dX10_sumOf_123 (by decide) rfl ?_
                  refine g_iload X 0 dX10_sumOf_125 rfl ?_
                  refine g_iload X 11 dX10_sumOf_127 rfl ?_
                  refine g_icmp_le (tgt := 137) X dX10_sumOf_129 (by decide) (fun c_129 => ?_) (fun c_129 => ?_)
                  · refine g_iload X 11 dX10_sumOf_137 rfl ?_
                    refine g_istore (lv' := [(9, .int (maxI (rG0 fr tt be q (nI i) (nI j)) t1)), (12, .int (nI 0)), (11, .int (rOther fr tt 1 t1 (nI j))), (0, .ref (a 0)), (1, .int (nI 0)), (2, .int (nI i)), (3, .int (nI j)), (4, .int (sumI (rF0 ss fr tt be (nI i) (nI j)) q)), (5, .int (nI i)), (6, .int (nI j)), (7, .int (nI q)), (8, .int (rOther fr tt 0 q (nI i))), (10, .int (nI t1))]) X dX10_sumOf_139 (by decide) rfl ?_
                    refine g_iincN (lv' := [(10, .int (nI (t1 + 1))), (9, .int (maxI (rG0 fr tt be q (nI i) (nI j)) t1)), (12, .int (nI 0)), (11, .int (rOther fr tt 1 t1 (nI j))), (0, .ref (a 0)), (1, .int (nI 0)), (2, .int (nI i)), (3, .int (nI j)), (4, .int (sumI (rF0 ss fr tt be (nI i) (nI j)) q)), (5, .int (nI i)), (6, .int (nI j)), (7, .int (nI q)), (8, .int (rOther fr tt 0 q (nI i)))]) X 12 dX10_sumOf_141 rfl (by decide) rfl ?_
                    refine g_goto (tgt := 56) X dX10_sumOf_144 (by decide) ?_
                    refine GG.lv [4, 5, 6, 7, 8, 9, 10, 11, 12, 1, 0] rfl ?_
                    exact ih_56 (t1 + 1) (by omega) (fun e => absurd e c_73) (by omega) (maxI (rG0 fr tt be q (nI i) (nI j)) t1) (by exact maxI_f (by unfold rG0 rGv; exact if_pos c_93) c_129) (nI (t1 + 1)) (by rfl)
                  · refine g_iload X 0 dX10_sumOf_132 rfl ?_
                    refine g_goto (tgt := 139) X dX10_sumOf_134 (by decide) ?_
                    refine g_istore (lv' := [(9, .int (nI 0)), (12, .int (nI 0)), (11, .int (rOther fr tt 1 t1 (nI j))), (0, .ref (a 0)), (1, .int (nI 0)), (2, .int (nI i)), (3, .int (nI j)), (4, .int (sumI (rF0 ss fr tt be (nI i) (nI j)) q)), (5, .int (nI i)), (6, .int (nI j)), (7, .int (nI q)), (8, .int (rOther fr tt 0 q (nI i))), (10, .int (nI t1))]) X dX10_sumOf_139 (by decide) rfl ?_
                    refine g_iincN (lv' := [(10, .int (nI (t1 + 1))), (9, .int (nI 0)), (12, .int (nI 0)), (11, .int (rOther fr tt 1 t1 (nI j))), (0, .ref (a 0)), (1, .int (nI 0)), (2, .int (nI i)), (3, .int (nI j)), (4, .int (sumI (rF0 ss fr tt be (nI i) (nI j)) q)), (5, .int (nI i)), (6, .int (nI j)), (7, .int (nI q)), (8, .int (rOther fr tt 0 q (nI i)))]) X 12 dX10_sumOf_141 rfl (by decide) rfl ?_
                    refine g_goto (tgt := 56) X dX10_sumOf_144 (by decide) ?_
                    refine GG.lv [4, 5, 6, 7, 8, 9, 10, 11, 12, 1, 0] rfl ?_
                    exact ih_56 (t1 + 1) (by omega) (fun e => absurd e c_73) (by omega) (nI 0) (by exact maxI_t (by unfold rG0 rGv; exact if_pos c_93) c_129) (nI (t1 + 1)) (by rfl)
        refine GG.lv [3, 4, 5, 6, 7, 8, 9, 10, 2, 1, 0] rfl ?_
        exact L_56 (ss 1 + 1) 0 (by omega) (fun _ => rfl) (by omega) (nI 0) (by rfl) (nI 0) (by rfl)
  refine GG.lv [4, 5, 6, 7, 3, 2, 1, 0] rfl ?_
  exact L_28 (ss 0 + 1) 0 (by omega) (by omega) (nI 0) (by rfl) (nI 0) (by rfl)
set_option maxHeartbeats 4000000 in
set_option maxRecDepth 100000 in
theorem c_X10_sumOf_1 (E : GE) (a : Nat → Nat) (s : MD0) (ss : Nat → Nat) (fr : Nat → Int32) (tt : Nat → Int32) (be : Nat → Int32) (i : Nat) (j : Nat) (hss : ∀ g, g < 2 → ss g ≤ 8) (hE : okE ss fr tt) : CT E m_X10_sumOf [.ref (a 0), .int (nI 1), .int (nI i), .int (nI j)] ([wMd E a s, wAn E (a 3) 2 ss, wAr E (a 7) 16 fr, wAr E (a 8) 16 tt, wAr E (a 15) 64 be].flatten) (some (.int (rSum1 ss fr tt be i j))) ([wMd E a s, wAn E (a 3) 2 ss, wAr E (a 7) 16 fr, wAr E (a 8) 16 tt, wAr E (a 15) 64 be].flatten) := by
  refine CT.intro (by decide +kernel) (Nat.le_of_ble_eq_true rfl) (fun Γ X hx => ?_)
  refine GG.lv [0, 1, 2, 3] (lv' := [(0, .ref (a 0)), (1, .int (nI 1)), (2, .int (nI i)), (3, .int (nI j))]) rfl ?_
  have hs0 := hss 0 (by decide)
  have hs1 := hss 1 (by decide)
  refine g_iconst (v := (nI 0)) X dX10_sumOf_0 rfl ?_
  refine g_istore (lv' := [(4, .int (nI 0)), (0, .ref (a 0)), (1, .int (nI 1)), (2, .int (nI i)), (3, .int (nI j))]) X dX10_sumOf_1 (by decide) rfl ?_
  refine g_iload_n X 2 dX10_sumOf_3 rfl ?_
  refine g_if_ne (tgt := 11) X dX10_sumOf_4 (by decide) (fun c_4 => ?_) (fun c_4 => absurd c_4 (by decide))
  refine g_iload_n X 4 dX10_sumOf_11 rfl ?_
  refine g_istore (lv' := [(5, .int (nI j)), (4, .int (nI 0)), (0, .ref (a 0)), (1, .int (nI 1)), (2, .int (nI i)), (3, .int (nI j))]) X dX10_sumOf_12 (by decide) rfl ?_
  refine g_iload_n X 3 dX10_sumOf_14 rfl ?_
  refine g_if_ne (tgt := 22) X dX10_sumOf_15 (by decide) (fun c_15 => ?_) (fun c_15 => absurd c_15 (by decide))
  refine g_iload_n X 4 dX10_sumOf_22 rfl ?_
  refine g_istore (lv' := [(6, .int (nI i)), (5, .int (nI j)), (4, .int (nI 0)), (0, .ref (a 0)), (1, .int (nI 1)), (2, .int (nI i)), (3, .int (nI j))]) X dX10_sumOf_23 (by decide) rfl ?_
  refine g_iconst (v := (nI 0)) X dX10_sumOf_25 rfl ?_
  refine g_istore (lv' := [(7, .int (nI 0)), (6, .int (nI i)), (5, .int (nI j)), (4, .int (nI 0)), (0, .ref (a 0)), (1, .int (nI 1)), (2, .int (nI i)), (3, .int (nI j))]) X dX10_sumOf_26 (by decide) rfl ?_
  have L_28 : ∀ (n_28 : Nat) (q : Nat) (hq : q ≤ ss 1) (hm_28 : ss 1 - q < n_28) (x_4 : Int32) (ex_4 : x_4 = (sumI (rF1 ss fr tt be (nI i) (nI j)) q)) (x_7 : Int32) (ex_7 : x_7 = (nI q)), GG E m_X10_sumOf Γ 0 0 ([wMd E a s, wAn E (a 3) 2 ss, wAr E (a 7) 16 fr, wAr E (a 8) 16 tt, wAr E (a 15) 64 be].flatten) [(0, .ref (a 0)), (1, .int (nI 1)), (2, .int (nI i)), (3, .int (nI j)), (4, .int x_4), (5, .int (nI j)), (6, .int (nI i)), (7, .int x_7)] 28 [] := by
    intro n_28
    induction n_28 with
    | zero => intro q hq hm_28; exact absurd hm_28 (Nat.not_lt_zero _)
    | succ n_28 ih_28 =>
      intro q hq hm_28 x_4 ex_4 x_7 ex_7
      subst ex_4
      subst ex_7
      refine g_iload X 7 dX10_sumOf_28 rfl ?_
      refine g_aload_n X 0 dX10_sumOf_30 rfl ?_
      refine g_getf (v := .ref (a 3)) X fs_X10_20 0 rfl rfl dX10_sumOf_31 ?_
      refine g_iload_n X 1 dX10_sumOf_34 rfl ?_
      refine g_anld (f := ss) X 1 rfl 1 (ix_nI (by omega) (by decide)) dX10_sumOf_35 ?_
      refine g_icmp_ge (tgt := 160) X dX10_sumOf_36 (by decide) (fun c_36 => ?_) (fun c_36 => ?_)
      · have f_c_36 : ss 1 ≤ q := n_le (by omega) (by omega) c_36
        have fn_c_36 := Nat.not_lt.mpr f_c_36
        refine g_iload X 4 dX10_sumOf_160 rfl ?_
        exact g_iretv (r := (sumI (rF1 ss fr tt be (nI i) (nI j)) q)) X hx rfl (by unfold rSum1; rw [show ss 1 = q by omega]) (by rfl) dX10_sumOf_162
      · have f_c_36 : q < ss 1 := n_nle (by omega) (by omega) c_36
        have fn_c_36 := Nat.not_le.mpr f_c_36
        refine g_aload_n X 0 dX10_sumOf_39 rfl ?_
        refine g_iload_n X 1 dX10_sumOf_40 rfl ?_
        refine g_iload X 7 dX10_sumOf_41 rfl ?_
        refine g_iload X 5 dX10_sumOf_43 rfl ?_
        refine g_callVr (st2 := [.int (rOther fr tt 1 q (nI j))]) (q0 := 0) X (c_X10_otherEnd E a s fr tt 1 q (nI j) (by first | assumption | omega) (by first | assumption | omega)) cs_X10_137 rfl [0, 2, 3] [1, 4] 5 rfl (by decide) rfl rfl rfl rfl rfl (Nat.le_of_ble_eq_true rfl) dX10_sumOf_45 rfl ?_
        refine g_istore (lv' := [(8, .int (rOther fr tt 1 q (nI j))), (0, .ref (a 0)), (1, .int (nI 1)), (2, .int (nI i)), (3, .int (nI j)), (4, .int (sumI (rF1 ss fr tt be (nI i) (nI j)) q)), (5, .int (nI j)), (6, .int (nI i)), (7, .int (nI q))]) X dX10_sumOf_48 (by decide) rfl ?_
        refine g_iconst (v := (nI 0)) X dX10_sumOf_50 rfl ?_
        refine g_istore (lv' := [(9, .int (nI 0)), (8, .int (rOther fr tt 1 q (nI j))), (0, .ref (a 0)), (1, .int (nI 1)), (2, .int (nI i)), (3, .int (nI j)), (4, .int (sumI (rF1 ss fr tt be (nI i) (nI j)) q)), (5, .int (nI j)), (6, .int (nI i)), (7, .int (nI q))]) X dX10_sumOf_51 (by decide) rfl ?_
        refine g_iconst (v := (nI 0)) X dX10_sumOf_53 rfl ?_
        refine g_istore (lv' := [(10, .int (nI 0)), (9, .int (nI 0)), (8, .int (rOther fr tt 1 q (nI j))), (0, .ref (a 0)), (1, .int (nI 1)), (2, .int (nI i)), (3, .int (nI j)), (4, .int (sumI (rF1 ss fr tt be (nI i) (nI j)) q)), (5, .int (nI j)), (6, .int (nI i)), (7, .int (nI q))]) X dX10_sumOf_54 (by decide) rfl ?_
        have L_56 : ∀ (n_56 : Nat) (t1 : Nat) (ht1 : t1 ≤ ss 0) (hk : rOther fr tt 1 q (nI j) = -4 → t1 = 0) (hm_56 : ss 0 - t1 < n_56) (x_9 : Int32) (ex_9 : x_9 = (maxI (rG1 fr tt be q (nI i) (nI j)) t1)) (x_10 : Int32) (ex_10 : x_10 = (nI t1)), GG E m_X10_sumOf Γ 0 0 ([wMd E a s, wAn E (a 3) 2 ss, wAr E (a 7) 16 fr, wAr E (a 8) 16 tt, wAr E (a 15) 64 be].flatten) [(0, .ref (a 0)), (1, .int (nI 1)), (2, .int (nI i)), (3, .int (nI j)), (4, .int (sumI (rF1 ss fr tt be (nI i) (nI j)) q)), (5, .int (nI j)), (6, .int (nI i)), (7, .int (nI q)), (8, .int (rOther fr tt 1 q (nI j))), (9, .int x_9), (10, .int x_10)] 56 [] := by
          intro n_56
          induction n_56 with
          | zero => intro t1 ht1 hk hm_56; exact absurd hm_56 (Nat.not_lt_zero _)
          | succ n_56 ih_56 =>
            intro t1 ht1 hk hm_56 x_9 ex_9 x_10 ex_10
            subst ex_9
            subst ex_10
            refine g_iload X 10 dX10_sumOf_56 rfl ?_
            refine g_aload_n X 0 dX10_sumOf_58 rfl ?_
            refine g_getf (v := .ref (a 3)) X fs_X10_20 0 rfl rfl dX10_sumOf_59 ?_
            refine g_iconst (v := (nI 1)) X dX10_sumOf_62 rfl ?_
            refine g_iload_n X 1 dX10_sumOf_63 rfl ?_
            refine g_isubN X (by omega) dX10_sumOf_64 ?_
            refine g_anld (f := ss) X 1 rfl 0 (ix_nI (by omega) (by decide)) dX10_sumOf_65 ?_
            refine g_icmp_ge (tgt := 147) X dX10_sumOf_66 (by decide) (fun c_66 => ?_) (fun c_66 => ?_)
            · have f_c_66 : ss 0 ≤ t1 := n_le (by omega) (by omega) c_66
              have fn_c_66 := Nat.not_lt.mpr f_c_66
              refine g_iload X 4 dX10_sumOf_147 rfl ?_
              refine g_iload X 9 dX10_sumOf_149 rfl ?_
              refine g_iadd X dX10_sumOf_151 ?_
              refine g_istore (lv' := [(4, .int ((sumI (rF1 ss fr tt be (nI i) (nI j)) q) + (maxI (rG1 fr tt be q (nI i) (nI j)) t1))), (0, .ref (a 0)), (1, .int (nI 1)), (2, .int (nI i)), (3, .int (nI j)), (5, .int (nI j)), (6, .int (nI i)), (7, .int (nI q)), (8, .int (rOther fr tt 1 q (nI j))), (9, .int (maxI (rG1 fr tt be q (nI i) (nI j)) t1)), (10, .int (nI t1))]) X dX10_sumOf_152 (by decide) rfl ?_
              refine g_iincN (lv' := [(7, .int (nI (q + 1))), (4, .int ((sumI (rF1 ss fr tt be (nI i) (nI j)) q) + (maxI (rG1 fr tt be q (nI i) (nI j)) t1))), (0, .ref (a 0)), (1, .int (nI 1)), (2, .int (nI i)), (3, .int (nI j)), (5, .int (nI j)), (6, .int (nI i)), (8, .int (rOther fr tt 1 q (nI j))), (9, .int (maxI (rG1 fr tt be q (nI i) (nI j)) t1)), (10, .int (nI t1))]) X 7 dX10_sumOf_154 rfl (by decide) rfl ?_
              refine g_goto (tgt := 28) X dX10_sumOf_157 (by decide) ?_
              refine GG.lv [2, 3, 4, 5, 1, 6, 7, 0] rfl ?_
              exact ih_28 (q + 1) (by omega) (by omega) ((sumI (rF1 ss fr tt be (nI i) (nI j)) q) + (maxI (rG1 fr tt be q (nI i) (nI j)) t1)) (by show _ = sumI _ q + rF1 _ _ _ _ _ _ q; unfold rF1; rw [← rgv_end hk (by omega)]) (nI (q + 1)) (by rfl)
            · have f_c_66 : t1 < ss 0 := n_nle (by omega) (by omega) c_66
              have fn_c_66 := Nat.not_le.mpr f_c_66
              refine g_iload X 8 dX10_sumOf_69 rfl ?_
              refine g_bipush (v := (-4)) X dX10_sumOf_71 rfl ?_
              refine g_icmp_eq (tgt := 147) X dX10_sumOf_73 (by decide) (fun c_73 => ?_) (fun c_73 => ?_)
              · refine g_iload X 4 dX10_sumOf_147 rfl ?_
                refine g_iload X 9 dX10_sumOf_149 rfl ?_
                refine g_iadd X dX10_sumOf_151 ?_
                refine g_istore (lv' := [(4, .int ((sumI (rF1 ss fr tt be (nI i) (nI j)) q) + (maxI (rG1 fr tt be q (nI i) (nI j)) t1))), (0, .ref (a 0)), (1, .int (nI 1)), (2, .int (nI i)), (3, .int (nI j)), (5, .int (nI j)), (6, .int (nI i)), (7, .int (nI q)), (8, .int (rOther fr tt 1 q (nI j))), (9, .int (maxI (rG1 fr tt be q (nI i) (nI j)) t1)), (10, .int (nI t1))]) X dX10_sumOf_152 (by decide) rfl ?_
                refine g_iincN (lv' := [(7, .int (nI (q + 1))), (4, .int ((sumI (rF1 ss fr tt be (nI i) (nI j)) q) + (maxI (rG1 fr tt be q (nI i) (nI j)) t1))), (0, .ref (a 0)), (1, .int (nI 1)), (2, .int (nI i)), (3, .int (nI j)), (5, .int (nI j)), (6, .int (nI i)), (8, .int (rOther fr tt 1 q (nI j))), (9, .int (maxI (rG1 fr tt be q (nI i) (nI j)) t1)), (10, .int (nI t1))]) X 7 dX10_sumOf_154 rfl (by decide) rfl ?_
                refine g_goto (tgt := 28) X dX10_sumOf_157 (by decide) ?_
                refine GG.lv [2, 3, 4, 5, 1, 6, 7, 0] rfl ?_
                exact ih_28 (q + 1) (by omega) (by omega) ((sumI (rF1 ss fr tt be (nI i) (nI j)) q) + (maxI (rG1 fr tt be q (nI i) (nI j)) t1)) (by show _ = sumI _ q + rF1 _ _ _ _ _ _ q; unfold rF1; rw [← rgv_none hk c_73]) (nI (q + 1)) (by rfl)
              · refine g_aload_n X 0 dX10_sumOf_76 rfl ?_
                refine g_iconst (v := (nI 1)) X dX10_sumOf_77 rfl ?_
                refine g_iload_n X 1 dX10_sumOf_78 rfl ?_
                refine g_isubN X (by omega) dX10_sumOf_79 ?_
                refine g_iload X 10 dX10_sumOf_80 rfl ?_
                refine g_iload X 6 dX10_sumOf_82 rfl ?_
                refine g_callVr (st2 := [.int (rOther fr tt 0 t1 (nI i))]) (q0 := 0) X (c_X10_otherEnd E a s fr tt 0 t1 (nI i) (by first | assumption | omega) (by first | assumption | omega)) cs_X10_137 rfl [0, 2, 3] [1, 4] 5 rfl (by decide) rfl rfl rfl rfl rfl (Nat.le_of_ble_eq_true rfl) dX10_sumOf_84 rfl ?_
                refine g_istore (lv' := [(11, .int (rOther fr tt 0 t1 (nI i))), (0, .ref (a 0)), (1, .int (nI 1)), (2, .int (nI i)), (3, .int (nI j)), (4, .int (sumI (rF1 ss fr tt be (nI i) (nI j)) q)), (5, .int (nI j)), (6, .int (nI i)), (7, .int (nI q)), (8, .int (rOther fr tt 1 q (nI j))), (9, .int (maxI (rG1 fr tt be q (nI i) (nI j)) t1)), (10, .int (nI t1))]) X dX10_sumOf_87 (by decide) rfl ?_
                refine g_iload X 0 dX10_sumOf_89 rfl ?_
                refine g_bipush (v := (-4)) X dX10_sumOf_91 rfl ?_
                refine g_icmp_ne (tgt := 100) X dX10_sumOf_93 (by decide) (fun c_93 => ?_) (fun c_93 => ?_)
                · refine g_iload_n X 2 dX10_sumOf_100 rfl ?_
                  refine g_if_ne (tgt := 115) X dX10_sumOf_101 (by decide) (fun c_101 => ?_) (fun c_101 => absurd c_101 (by decide))
                  refine g_aload_n X 1 dX10_sumOf_115 rfl ?_
                  refine g_iload X 0 dX10_sumOf_116 rfl ?_
                  refine g_iload X 9 dX10_sumOf_118 rfl ?_
                  refine g_callVr (st2 := [.int (rBel be (rOther fr tt 0 t1 (nI i)) (rOther fr tt 1 q (nI j)))]) (q0 := 0) X (c_X10_believed E a s be (rOther fr tt 0 t1 (nI i)) (rOther fr tt 1 q (nI j)) (rOther_ok hE (by decide) (by omega) (by assumption)) (rOther_ok hE (by decide) (by omega) (by assumption))) cs_X10_140 rfl [0, 4] [1, 2, 3] 5 rfl (by decide) rfl rfl rfl rfl rfl (Nat.le_of_ble_eq_true rfl) dX10_sumOf_120 rfl ?_
                  refine g_istore (lv' := [(12, .int (rBel be (rOther fr tt 0 t1 (nI i)) (rOther fr tt 1 q (nI j)))), (11, .int (rOther fr tt 0 t1 (nI i))), (0, .ref (a 0)), (1, .int (nI 1)), (2, .int (nI i)), (3, .int (nI j)), (4, .int (sumI (rF1 ss fr tt be (nI i) (nI j)) q)), (5, .int (nI j)), (6, .int (nI i)), (7, .int (nI q)), (8, .int (rOther fr tt 1 q (nI j))), (9, .int (maxI (rG1 fr tt be q (nI i) (nI j)) t1)), (10, .int (nI t1))]) X dX10_sumOf_123 (by decide) rfl ?_
                  refine g_iload X 0 dX10_sumOf_125 rfl ?_
                  refine g_iload X 11 dX10_sumOf_127 rfl ?_
                  refine g_icmp_le (tgt := 137) X dX10_sumOf_129 (by decide) (fun c_129 => ?_) (fun c_129 => ?_)
                  · refine g_iload X 11 dX10_sumOf_137 rfl ?_
                    refine g_istore (lv' := [(9, .int (maxI (rG1 fr tt be q (nI i) (nI j)) t1)), (12, .int (rBel be (rOther fr tt 0 t1 (nI i)) (rOther fr tt 1 q (nI j)))), (11, .int (rOther fr tt 0 t1 (nI i))), (0, .ref (a 0)), (1, .int (nI 1)), (2, .int (nI i)), (3, .int (nI j)), (4, .int (sumI (rF1 ss fr tt be (nI i) (nI j)) q)), (5, .int (nI j)), (6, .int (nI i)), (7, .int (nI q)), (8, .int (rOther fr tt 1 q (nI j))), (10, .int (nI t1))]) X dX10_sumOf_139 (by decide) rfl ?_
                    refine g_iincN (lv' := [(10, .int (nI (t1 + 1))), (9, .int (maxI (rG1 fr tt be q (nI i) (nI j)) t1)), (12, .int (rBel be (rOther fr tt 0 t1 (nI i)) (rOther fr tt 1 q (nI j)))), (11, .int (rOther fr tt 0 t1 (nI i))), (0, .ref (a 0)), (1, .int (nI 1)), (2, .int (nI i)), (3, .int (nI j)), (4, .int (sumI (rF1 ss fr tt be (nI i) (nI j)) q)), (5, .int (nI j)), (6, .int (nI i)), (7, .int (nI q)), (8, .int (rOther fr tt 1 q (nI j)))]) X 12 dX10_sumOf_141 rfl (by decide) rfl ?_
                    refine g_goto (tgt := 56) X dX10_sumOf_144 (by decide) ?_
                    refine GG.lv [4, 5, 6, 7, 8, 9, 10, 11, 12, 1, 0] rfl ?_
                    exact ih_56 (t1 + 1) (by omega) (fun e => absurd e c_73) (by omega) (maxI (rG1 fr tt be q (nI i) (nI j)) t1) (by exact maxI_f (by unfold rG1 rGv; exact if_neg c_93) c_129) (nI (t1 + 1)) (by rfl)
                  · refine g_iload X 0 dX10_sumOf_132 rfl ?_
                    refine g_goto (tgt := 139) X dX10_sumOf_134 (by decide) ?_
                    refine g_istore (lv' := [(9, .int (rBel be (rOther fr tt 0 t1 (nI i)) (rOther fr tt 1 q (nI j)))), (12, .int (rBel be (rOther fr tt 0 t1 (nI i)) (rOther fr tt 1 q (nI j)))), (11, .int (rOther fr tt 0 t1 (nI i))), (0, .ref (a 0)), (1, .int (nI 1)), (2, .int (nI i)), (3, .int (nI j)), (4, .int (sumI (rF1 ss fr tt be (nI i) (nI j)) q)), (5, .int (nI j)), (6, .int (nI i)), (7, .int (nI q)), (8, .int (rOther fr tt 1 q (nI j))), (10, .int (nI t1))]) X dX10_sumOf_139 (by decide) rfl ?_
                    refine g_iincN (lv' := [(10, .int (nI (t1 + 1))), (9, .int (rBel be (rOther fr tt 0 t1 (nI i)) (rOther fr tt 1 q (nI j)))), (12, .int (rBel be (rOther fr tt 0 t1 (nI i)) (rOther fr tt 1 q (nI j)))), (11, .int (rOther fr tt 0 t1 (nI i))), (0, .ref (a 0)), (1, .int (nI 1)), (2, .int (nI i)), (3, .int (nI j)), (4, .int (sumI (rF1 ss fr tt be (nI i) (nI j)) q)), (5, .int (nI j)), (6, .int (nI i)), (7, .int (nI q)), (8, .int (rOther fr tt 1 q (nI j)))]) X 12 dX10_sumOf_141 rfl (by decide) rfl ?_
                    refine g_goto (tgt := 56) X dX10_sumOf_144 (by decide) ?_
                    refine GG.lv [4, 5, 6, 7, 8, 9, 10, 11, 12, 1, 0] rfl ?_
                    exact ih_56 (t1 + 1) (by omega) (fun e => absurd e c_73) (by omega) (rBel be (rOther fr tt 0 t1 (nI i)) (rOther fr tt 1 q (nI j))) (by exact maxI_t (by unfold rG1 rGv; exact if_neg c_93) c_129) (nI (t1 + 1)) (by rfl)
                · refine g_iconst (v := (nI 0)) X dX10_sumOf_96 rfl ?_
                  refine g_goto (tgt := 123) X dX10_sumOf_97 (by decide) ?_
                  refine g_istore (lv' := [(12, .int (nI 0)), (11, .int (rOther fr tt 0 t1 (nI i))), (0, .ref (a 0)), (1, .int (nI 1)), (2, .int (nI i)), (3, .int (nI j)), (4, .int (sumI (rF1 ss fr tt be (nI i) (nI j)) q)), (5, .int (nI j)), (6, .int (nI i)), (7, .int (nI q)), (8, .int (rOther fr tt 1 q (nI j))), (9, .int (maxI (rG1 fr tt be q (nI i) (nI j)) t1)), (10, .int (nI t1))]) X dX10_sumOf_123 (by decide) rfl ?_
                  refine g_iload X 0 dX10_sumOf_125 rfl ?_
                  refine g_iload X 11 dX10_sumOf_127 rfl ?_
                  refine g_icmp_le (tgt := 137) X dX10_sumOf_129 (by decide) (fun c_129 => ?_) (fun c_129 => ?_)
                  · refine g_iload X 11 dX10_sumOf_137 rfl ?_
                    refine g_istore (lv' := [(9, .int (maxI (rG1 fr tt be q (nI i) (nI j)) t1)), (12, .int (nI 0)), (11, .int (rOther fr tt 0 t1 (nI i))), (0, .ref (a 0)), (1, .int (nI 1)), (2, .int (nI i)), (3, .int (nI j)), (4, .int (sumI (rF1 ss fr tt be (nI i) (nI j)) q)), (5, .int (nI j)), (6, .int (nI i)), (7, .int (nI q)), (8, .int (rOther fr tt 1 q (nI j))), (10, .int (nI t1))]) X dX10_sumOf_139 (by decide) rfl ?_
                    refine g_iincN (lv' := [(10, .int (nI (t1 + 1))), (9, .int (maxI (rG1 fr tt be q (nI i) (nI j)) t1)), (12, .int (nI 0)), (11, .int (rOther fr tt 0 t1 (nI i))), (0, .ref (a 0)), (1, .int (nI 1)), (2, .int (nI i)), (3, .int (nI j)), (4, .int (sumI (rF1 ss fr tt be (nI i) (nI j)) q)), (5, .int (nI j)), (6, .int (nI i)), (7, .int (nI q)), (8, .int (rOther fr tt 1 q (nI j)))]) X 12 dX10_sumOf_141 rfl (by decide) rfl ?_
                    refine g_goto (tgt := 56) X dX10_sumOf_144 (by decide) ?_
                    refine GG.lv [4, 5, 6, 7, 8, 9, 10, 11, 12, 1, 0] rfl ?_
                    exact ih_56 (t1 + 1) (by omega) (fun e => absurd e c_73) (by omega) (maxI (rG1 fr tt be q (nI i) (nI j)) t1) (by exact maxI_f (by unfold rG1 rGv; exact if_pos c_93) c_129) (nI (t1 + 1)) (by rfl)
                  · refine g_iload X 0 dX10_sumOf_132 rfl ?_
                    refine g_goto (tgt := 139) X dX10_sumOf_134 (by decide) ?_
                    refine g_istore (lv' := [(9, .int (nI 0)), (12, .int (nI 0)), (11, .int (rOther fr tt 0 t1 (nI i))), (0, .ref (a 0)), (1, .int (nI 1)), (2, .int (nI i)), (3, .int (nI j)), (4, .int (sumI (rF1 ss fr tt be (nI i) (nI j)) q)), (5, .int (nI j)), (6, .int (nI i)), (7, .int (nI q)), (8, .int (rOther fr tt 1 q (nI j))), (10, .int (nI t1))]) X dX10_sumOf_139 (by decide) rfl ?_
                    refine g_iincN (lv' := [(10, .int (nI (t1 + 1))), (9, .int (nI 0)), (12, .int (nI 0)), (11, .int (rOther fr tt 0 t1 (nI i))), (0, .ref (a 0)), (1, .int (nI 1)), (2, .int (nI i)), (3, .int (nI j)), (4, .int (sumI (rF1 ss fr tt be (nI i) (nI j)) q)), (5, .int (nI j)), (6, .int (nI i)), (7, .int (nI q)), (8, .int (rOther fr tt 1 q (nI j)))]) X 12 dX10_sumOf_141 rfl (by decide) rfl ?_
                    refine g_goto (tgt := 56) X dX10_sumOf_144 (by decide) ?_
                    refine GG.lv [4, 5, 6, 7, 8, 9, 10, 11, 12, 1, 0] rfl ?_
                    exact ih_56 (t1 + 1) (by omega) (fun e => absurd e c_73) (by omega) (nI 0) (by exact maxI_t (by unfold rG1 rGv; exact if_pos c_93) c_129) (nI (t1 + 1)) (by rfl)
        refine GG.lv [3, 4, 5, 6, 7, 8, 9, 10, 2, 1, 0] rfl ?_
        exact L_56 (ss 0 + 1) 0 (by omega) (fun _ => rfl) (by omega) (nI 0) (by rfl) (nI 0) (by rfl)
  refine GG.lv [4, 5, 6, 7, 3, 2, 1, 0] rfl ?_
  exact L_28 (ss 1 + 1) 0 (by omega) (by omega) (nI 0) (by rfl) (nI 0) (by rfl)
set_option maxHeartbeats 4000000 in
set_option maxRecDepth 100000 in
theorem c_X10_setBelief (E : GE) (a : Nat → Nat) (s : MD0) (mm : Nat → Nat) (ss : Nat → Nat) (kd : Nat → Int32) (xo : Nat → Int32) (yo : Nat → Int32) (fr : Nat → Int32) (tt : Nat → Int32) (be : Nat → Int32) (nx : Nat → Int32) (hmm : ∀ g, g < 2 → mm g ≤ 8) (hss : ∀ g, g < 2 → ss g ≤ 8) (hE : okE ss fr tt) (hN : dN0 s ≤ 3) : CT E m_X10_setBelief [.ref (a 0)] ([wMd E a s, wAn E (a 2) 2 mm, wAn E (a 3) 2 ss, wAr E (a 4) 16 kd, wAr E (a 5) 16 xo, wAr E (a 6) 16 yo, wAr E (a 7) 16 fr, wAr E (a 8) 16 tt, wAr E (a 15) 64 be, wAr E (a 16) 64 nx].flatten) none ([wMd E a s, wAn E (a 2) 2 mm, wAn E (a 3) 2 ss, wAr E (a 4) 16 kd, wAr E (a 5) 16 xo, wAr E (a 6) 16 yo, wAr E (a 7) 16 fr, wAr E (a 8) 16 tt, wAr E (a 15) 64 ((rBelAll (dR s) (dN0 s) mm ss kd xo yo fr tt (be, nx)).1), wAr E (a 16) 64 ((rBelAll (dR s) (dN0 s) mm ss kd xo yo fr tt (be, nx)).2)].flatten) := by
  refine CT.intro (by decide +kernel) (Nat.le_of_ble_eq_true rfl) (fun Γ X hx => ?_)
  refine GG.lv [0] (lv' := [(0, .ref (a 0))]) rfl ?_
  have hm0 := hmm 0 (by decide)
  have hm1 := hmm 1 (by decide)
  have hs0 := hss 0 (by decide)
  have hs1 := hss 1 (by decide)
  refine g_aload_n X 0 dX10_setBelief_0 rfl ?_
  refine g_callV (st2 := []) (S' := [wMd E a s, wAn E (a 2) 2 mm, wAn E (a 3) 2 ss, wAr E (a 4) 16 kd, wAr E (a 5) 16 xo, wAr E (a 6) 16 yo, wAr E (a 7) 16 fr, wAr E (a 8) 16 tt, wAr E (a 15) 64 (tkF (rFstK (dR s) mm kd xo yo) be 64), wAr E (a 16) 64 nx]) (q0 := 0) X (c_X10_setFirst E a s mm kd xo yo be (by first | assumption | omega)) cs_X10_143 rfl [0, 1, 3, 4, 5, 8] [2, 6, 7, 9] 10 rfl rfl (by decide) [wAn E (a 3) 2 ss, wAr E (a 7) 16 fr, wAr E (a 8) 16 tt, wAr E (a 16) 64 nx] rfl rfl rfl rfl (by simp only [List.map_cons, List.map_nil, fsAn, fsAr, fsMd]) rfl rfl rfl rfl (Nat.le_of_ble_eq_true rfl) dX10_setBelief_1 rfl ?_
  refine g_iconst (v := (nI 0)) X dX10_setBelief_4 rfl ?_
  refine g_istore_n (lv' := [(1, .int (nI 0)), (0, .ref (a 0))]) X dX10_setBelief_5 (by decide) rfl ?_
  have L_6 : ∀ (n_6 : Nat) (r : Nat) (hr : r ≤ dN0 s) (hm_6 : dN0 s - r < n_6) (x_1 : Int32) (ex_1 : x_1 = (nI r)) (u_0 : Nat → Int32) (eu_0 : u_0 = (rImpN ss fr tt r (tkF (rFstK (dR s) mm kd xo yo) be 64, nx)).1) (u_1 : Nat → Int32) (eu_1 : u_1 = (rImpN ss fr tt r (tkF (rFstK (dR s) mm kd xo yo) be 64, nx)).2), GG E m_X10_setBelief Γ 0 0 ([wMd E a s, wAn E (a 2) 2 mm, wAn E (a 3) 2 ss, wAr E (a 4) 16 kd, wAr E (a 5) 16 xo, wAr E (a 6) 16 yo, wAr E (a 7) 16 fr, wAr E (a 8) 16 tt, wAr E (a 15) 64 u_0, wAr E (a 16) 64 u_1].flatten) [(0, .ref (a 0)), (1, .int x_1)] 6 [] := by
    intro n_6
    induction n_6 with
    | zero => intro r hr hm_6; exact absurd hm_6 (Nat.not_lt_zero _)
    | succ n_6 ih_6 =>
      intro r hr hm_6 x_1 ex_1 u_0 eu_0 u_1 eu_1
      subst ex_1
      subst eu_0
      subst eu_1
      refine g_iload_n X 1 dX10_setBelief_6 rfl ?_
      refine g_aload_n X 0 dX10_setBelief_7 rfl ?_
      refine g_getf (v := .int (nI (dN0 s))) X fs_X10_13 0 rfl rfl dX10_setBelief_8 ?_
      refine g_icmp_ge (tgt := 121) X dX10_setBelief_11 (by decide) (fun c_11 => ?_) (fun c_11 => ?_)
      · have f_c_11 : dN0 s ≤ r := n_le (by omega) (by omega) c_11
        have fn_c_11 := Nat.not_lt.mpr f_c_11
        exact g_vret X hx rfl rfl (by rw [show r = dN0 s by omega]; rfl) dX10_setBelief_121
      · have f_c_11 : r < dN0 s := n_nle (by omega) (by omega) c_11
        have fn_c_11 := Nat.not_le.mpr f_c_11
        refine g_iconst (v := (nI 0)) X dX10_setBelief_14 rfl ?_
        refine g_istore_n (lv' := [(2, .int (nI 0)), (0, .ref (a 0)), (1, .int (nI r))]) X dX10_setBelief_15 (by decide) rfl ?_
        have L_16 : ∀ (n_16 : Nat) (k : Nat) (hk : k ≤ 64) (hm_16 : 64 - k < n_16) (x_2 : Int32) (ex_2 : x_2 = (nI k)) (u_0 : Nat → Int32) (eu_0 : u_0 = tkF (rImp ss fr tt (rImpN ss fr tt r (tkF (rFstK (dR s) mm kd xo yo) be 64, nx)).1) (rImpN ss fr tt r (tkF (rFstK (dR s) mm kd xo yo) be 64, nx)).2 k), GG E m_X10_setBelief Γ 0 0 ([wMd E a s, wAn E (a 2) 2 mm, wAn E (a 3) 2 ss, wAr E (a 4) 16 kd, wAr E (a 5) 16 xo, wAr E (a 6) 16 yo, wAr E (a 7) 16 fr, wAr E (a 8) 16 tt, wAr E (a 15) 64 ((rImpN ss fr tt r (tkF (rFstK (dR s) mm kd xo yo) be 64, nx)).1), wAr E (a 16) 64 u_0].flatten) [(0, .ref (a 0)), (1, .int (nI r)), (2, .int x_2)] 16 [] := by
          intro n_16
          induction n_16 with
          | zero => intro k hk hm_16; exact absurd hm_16 (Nat.not_lt_zero _)
          | succ n_16 ih_16 =>
            intro k hk hm_16 x_2 ex_2 u_0 eu_0
            subst ex_2
            subst eu_0
            refine g_iload_n X 2 dX10_setBelief_16 rfl ?_
            refine g_bipush (v := (nI 64)) X dX10_setBelief_17 rfl ?_
            refine g_icmp_ge (tgt := 89) X dX10_setBelief_19 (by decide) (fun c_19 => ?_) (fun c_19 => ?_)
            · have f_c_19 : 64 ≤ k := n_le (by omega) (by omega) c_19
              have fn_c_19 := Nat.not_lt.mpr f_c_19
              have ek : k = 64 := by omega
              subst ek
              refine g_iconst (v := (nI 0)) X dX10_setBelief_89 rfl ?_
              refine g_istore_n (lv' := [(2, .int (nI 0)), (0, .ref (a 0)), (1, .int (nI r))]) X dX10_setBelief_90 (by decide) rfl ?_
              have L_91 : ∀ (n_91 : Nat) (k2 : Nat) (hk2 : k2 ≤ 64) (hm_91 : 64 - k2 < n_91) (x_2 : Int32) (ex_2 : x_2 = (nI k2)) (u_0 : Nat → Int32) (eu_0 : u_0 = tkF (tkF (rImp ss fr tt (rImpN ss fr tt r (tkF (rFstK (dR s) mm kd xo yo) be 64, nx)).1) (rImpN ss fr tt r (tkF (rFstK (dR s) mm kd xo yo) be 64, nx)).2 64) (rImpN ss fr tt r (tkF (rFstK (dR s) mm kd xo yo) be 64, nx)).1 k2), GG E m_X10_setBelief Γ 0 0 ([wMd E a s, wAn E (a 2) 2 mm, wAn E (a 3) 2 ss, wAr E (a 4) 16 kd, wAr E (a 5) 16 xo, wAr E (a 6) 16 yo, wAr E (a 7) 16 fr, wAr E (a 8) 16 tt, wAr E (a 15) 64 u_0, wAr E (a 16) 64 (tkF (rImp ss fr tt (rImpN ss fr tt r (tkF (rFstK (dR s) mm kd xo yo) be 64, nx)).1) (rImpN ss fr tt r (tkF (rFstK (dR s) mm kd xo yo) be 64, nx)).2 64)].flatten) [(0, .ref (a 0)), (1, .int (nI r)), (2, .int x_2)] 91 [] := by
                intro n_91
                induction n_91 with
                | zero => intro k2 hk2 hm_91; exact absurd hm_91 (Nat.not_lt_zero _)
                | succ n_91 ih_91 =>
                  intro k2 hk2 hm_91 x_2 ex_2 u_0 eu_0
                  subst ex_2
                  subst eu_0
                  refine g_iload_n X 2 dX10_setBelief_91 rfl ?_
                  refine g_bipush (v := (nI 64)) X dX10_setBelief_92 rfl ?_
                  refine g_icmp_ge (tgt := 115) X dX10_setBelief_94 (by decide) (fun c_94 => ?_) (fun c_94 => ?_)
                  · have f_c_94 : 64 ≤ k2 := n_le (by omega) (by omega) c_94
                    have fn_c_94 := Nat.not_lt.mpr f_c_94
                    refine g_iincN (lv' := [(1, .int (nI (r + 1))), (0, .ref (a 0)), (2, .int (nI k2))]) X 1 dX10_setBelief_115 rfl (by decide) rfl ?_
                    refine g_goto (tgt := 6) X dX10_setBelief_118 (by decide) ?_
                    refine GG.lv [1, 0] rfl ?_
                    exact ih_6 (r + 1) (by omega) (by omega) (nI (r + 1)) (by rfl) (tkF (tkF (rImp ss fr tt (rImpN ss fr tt r (tkF (rFstK (dR s) mm kd xo yo) be 64, nx)).1) (rImpN ss fr tt r (tkF (rFstK (dR s) mm kd xo yo) be 64, nx)).2 64) (rImpN ss fr tt r (tkF (rFstK (dR s) mm kd xo yo) be 64, nx)).1 k2) (by rw [show k2 = 64 by omega]; exact rImpN_1 _ _ _ _ _) (tkF (rImp ss fr tt (rImpN ss fr tt r (tkF (rFstK (dR s) mm kd xo yo) be 64, nx)).1) (rImpN ss fr tt r (tkF (rFstK (dR s) mm kd xo yo) be 64, nx)).2 64) (by exact rImpN_2 _ _ _ _ _)
                  · have f_c_94 : k2 < 64 := n_nle (by omega) (by omega) c_94
                    have fn_c_94 := Nat.not_le.mpr f_c_94
                    refine g_aload_n X 0 dX10_setBelief_97 rfl ?_
                    refine g_getf (v := .ref (a 15)) X fs_X10_50 0 rfl rfl dX10_setBelief_98 ?_
                    refine g_iload_n X 2 dX10_setBelief_101 rfl ?_
                    refine g_aload_n X 0 dX10_setBelief_102 rfl ?_
                    refine g_getf (v := .ref (a 16)) X fs_X10_53 0 rfl rfl dX10_setBelief_103 ?_
                    refine g_iload_n X 2 dX10_setBelief_106 rfl ?_
                    refine g_iald X 9 rfl k2 (ix_nI (by omega) (by decide)) dX10_setBelief_107 ?_
                    refine g_iast (ws' := [wMd E a s, wAn E (a 2) 2 mm, wAn E (a 3) 2 ss, wAr E (a 4) 16 kd, wAr E (a 5) 16 xo, wAr E (a 6) 16 yo, wAr E (a 7) 16 fr, wAr E (a 8) 16 tt, wAr E (a 15) 64 (upd (tkF (tkF (rImp ss fr tt (rImpN ss fr tt r (tkF (rFstK (dR s) mm kd xo yo) be 64, nx)).1) (rImpN ss fr tt r (tkF (rFstK (dR s) mm kd xo yo) be 64, nx)).2 64) (rImpN ss fr tt r (tkF (rFstK (dR s) mm kd xo yo) be 64, nx)).1 k2) k2 ((tkF (rImp ss fr tt (rImpN ss fr tt r (tkF (rFstK (dR s) mm kd xo yo) be 64, nx)).1) (rImpN ss fr tt r (tkF (rFstK (dR s) mm kd xo yo) be 64, nx)).2 64) k2)), wAr E (a 16) 64 (tkF (rImp ss fr tt (rImpN ss fr tt r (tkF (rFstK (dR s) mm kd xo yo) be 64, nx)).1) (rImpN ss fr tt r (tkF (rFstK (dR s) mm kd xo yo) be 64, nx)).2 64)].flatten) X 8 rfl k2 (ix_nI (by omega) (by decide)) rfl dX10_setBelief_108 ?_
                    refine g_iincN (lv' := [(2, .int (nI (k2 + 1))), (0, .ref (a 0)), (1, .int (nI r))]) X 2 dX10_setBelief_109 rfl (by decide) rfl ?_
                    refine g_goto (tgt := 91) X dX10_setBelief_112 (by decide) ?_
                    refine GG.lv [1, 2, 0] rfl ?_
                    exact ih_91 (k2 + 1) (by omega) (by omega) (nI (k2 + 1)) (by rfl) (upd (tkF (tkF (rImp ss fr tt (rImpN ss fr tt r (tkF (rFstK (dR s) mm kd xo yo) be 64, nx)).1) (rImpN ss fr tt r (tkF (rFstK (dR s) mm kd xo yo) be 64, nx)).2 64) (rImpN ss fr tt r (tkF (rFstK (dR s) mm kd xo yo) be 64, nx)).1 k2) k2 ((tkF (rImp ss fr tt (rImpN ss fr tt r (tkF (rFstK (dR s) mm kd xo yo) be 64, nx)).1) (rImpN ss fr tt r (tkF (rFstK (dR s) mm kd xo yo) be 64, nx)).2 64) k2)) (by exact tkF_s _ _ _ rfl)
              refine GG.lv [1, 2, 0] rfl ?_
              exact L_91 (65) 0 (by omega) (by omega) (nI 0) (by rfl) ((rImpN ss fr tt r (tkF (rFstK (dR s) mm kd xo yo) be 64, nx)).1) (by exact (tkF_0 _ _).symm)
            · have f_c_19 : k < 64 := n_nle (by omega) (by omega) c_19
              have fn_c_19 := Nat.not_le.mpr f_c_19
              refine g_aload_n X 0 dX10_setBelief_22 rfl ?_
              refine g_getf (v := .ref (a 16)) X fs_X10_53 0 rfl rfl dX10_setBelief_23 ?_
              refine g_iload_n X 2 dX10_setBelief_26 rfl ?_
              refine g_aload_n X 0 dX10_setBelief_27 rfl ?_
              refine g_getf (v := .ref (a 15)) X fs_X10_50 0 rfl rfl dX10_setBelief_28 ?_
              refine g_iload_n X 2 dX10_setBelief_31 rfl ?_
              refine g_iald X 8 rfl k (ix_nI (by omega) (by decide)) dX10_setBelief_32 ?_
              refine g_bipush (v := (-4)) X dX10_setBelief_33 rfl ?_
              refine g_icmp_ne (tgt := 43) X dX10_setBelief_35 (by decide) (fun c_35 => ?_) (fun c_35 => ?_)
              · refine g_aload_n X 0 dX10_setBelief_43 rfl ?_
                refine g_getf (v := .ref (a 15)) X fs_X10_50 0 rfl rfl dX10_setBelief_44 ?_
                refine g_iload_n X 2 dX10_setBelief_47 rfl ?_
                refine g_iald X 8 rfl k (ix_nI (by omega) (by decide)) dX10_setBelief_48 ?_
                refine g_iconst (v := (nI 2)) X dX10_setBelief_49 rfl ?_
                refine g_idiv X dX10_setBelief_50 (by decide) ?_
                refine g_aload_n X 0 dX10_setBelief_51 rfl ?_
                refine g_iconst (v := (nI 0)) X dX10_setBelief_52 rfl ?_
                refine g_iload_n X 2 dX10_setBelief_53 rfl ?_
                refine g_bipush (v := (nI 8)) X dX10_setBelief_54 rfl ?_
                refine g_idivN X (by omega) (by omega) (by omega) dX10_setBelief_56 ?_
                refine g_iload_n X 2 dX10_setBelief_57 rfl ?_
                refine g_bipush (v := (nI 8)) X dX10_setBelief_58 rfl ?_
                refine g_iremN X (by omega) (by omega) (by omega) dX10_setBelief_60 ?_
                refine g_callVr (st2 := [.int (rSum0 ss fr tt ((rImpN ss fr tt r (tkF (rFstK (dR s) mm kd xo yo) be 64, nx)).1) (k / 8) (k % 8)), .int ((((rImpN ss fr tt r (tkF (rFstK (dR s) mm kd xo yo) be 64, nx)).1) k) / (nI 2)), .int (nI k), .ref (a 16)]) (q0 := 0) X (c_X10_sumOf_0 E a s ss fr tt ((rImpN ss fr tt r (tkF (rFstK (dR s) mm kd xo yo) be 64, nx)).1) (k / 8) (k % 8) (by first | assumption | omega) (by first | assumption | omega)) cs_X10_146 rfl [0, 2, 6, 7, 8] [1, 3, 4, 5, 9] 10 rfl (by decide) rfl rfl rfl rfl rfl (Nat.le_of_ble_eq_true rfl) dX10_setBelief_61 rfl ?_
                refine g_aload_n X 0 dX10_setBelief_64 rfl ?_
                refine g_iconst (v := (nI 1)) X dX10_setBelief_65 rfl ?_
                refine g_iload_n X 2 dX10_setBelief_66 rfl ?_
                refine g_bipush (v := (nI 8)) X dX10_setBelief_67 rfl ?_
                refine g_idivN X (by omega) (by omega) (by omega) dX10_setBelief_69 ?_
                refine g_iload_n X 2 dX10_setBelief_70 rfl ?_
                refine g_bipush (v := (nI 8)) X dX10_setBelief_71 rfl ?_
                refine g_iremN X (by omega) (by omega) (by omega) dX10_setBelief_73 ?_
                refine g_callVr (st2 := [.int (rSum1 ss fr tt ((rImpN ss fr tt r (tkF (rFstK (dR s) mm kd xo yo) be 64, nx)).1) (k / 8) (k % 8)), .int (rSum0 ss fr tt ((rImpN ss fr tt r (tkF (rFstK (dR s) mm kd xo yo) be 64, nx)).1) (k / 8) (k % 8)), .int ((((rImpN ss fr tt r (tkF (rFstK (dR s) mm kd xo yo) be 64, nx)).1) k) / (nI 2)), .int (nI k), .ref (a 16)]) (q0 := 0) X (c_X10_sumOf_1 E a s ss fr tt ((rImpN ss fr tt r (tkF (rFstK (dR s) mm kd xo yo) be 64, nx)).1) (k / 8) (k % 8) (by first | assumption | omega) (by first | assumption | omega)) cs_X10_146 rfl [0, 2, 6, 7, 8] [1, 3, 4, 5, 9] 10 rfl (by decide) rfl rfl rfl rfl rfl (Nat.le_of_ble_eq_true rfl) dX10_setBelief_74 rfl ?_
                refine g_iadd X dX10_setBelief_77 ?_
                refine g_bipush (v := (nI 8)) X dX10_setBelief_78 rfl ?_
                refine g_idiv X dX10_setBelief_80 (by decide) ?_
                refine g_iadd X dX10_setBelief_81 ?_
                refine g_iast (ws' := [wMd E a s, wAn E (a 2) 2 mm, wAn E (a 3) 2 ss, wAr E (a 4) 16 kd, wAr E (a 5) 16 xo, wAr E (a 6) 16 yo, wAr E (a 7) 16 fr, wAr E (a 8) 16 tt, wAr E (a 15) 64 ((rImpN ss fr tt r (tkF (rFstK (dR s) mm kd xo yo) be 64, nx)).1), wAr E (a 16) 64 (upd (tkF (rImp ss fr tt (rImpN ss fr tt r (tkF (rFstK (dR s) mm kd xo yo) be 64, nx)).1) (rImpN ss fr tt r (tkF (rFstK (dR s) mm kd xo yo) be 64, nx)).2 k) k (((((rImpN ss fr tt r (tkF (rFstK (dR s) mm kd xo yo) be 64, nx)).1) k) / (nI 2)) + (((rSum0 ss fr tt ((rImpN ss fr tt r (tkF (rFstK (dR s) mm kd xo yo) be 64, nx)).1) (k / 8) (k % 8)) + (rSum1 ss fr tt ((rImpN ss fr tt r (tkF (rFstK (dR s) mm kd xo yo) be 64, nx)).1) (k / 8) (k % 8))) / (nI 8))))].flatten) X 9 rfl k (ix_nI (by omega) (by decide)) rfl dX10_setBelief_82 ?_
                refine g_iincN (lv' := [(2, .int (nI (k + 1))), (0, .ref (a 0)), (1, .int (nI r))]) X 2 dX10_setBelief_83 rfl (by decide) rfl ?_
                refine g_goto (tgt := 16) X dX10_setBelief_86 (by decide) ?_
                refine GG.lv [1, 2, 0] rfl ?_
                exact ih_16 (k + 1) (by omega) (by omega) (nI (k + 1)) (by rfl) (upd (tkF (rImp ss fr tt (rImpN ss fr tt r (tkF (rFstK (dR s) mm kd xo yo) be 64, nx)).1) (rImpN ss fr tt r (tkF (rFstK (dR s) mm kd xo yo) be 64, nx)).2 k) k (((((rImpN ss fr tt r (tkF (rFstK (dR s) mm kd xo yo) be 64, nx)).1) k) / (nI 2)) + (((rSum0 ss fr tt ((rImpN ss fr tt r (tkF (rFstK (dR s) mm kd xo yo) be 64, nx)).1) (k / 8) (k % 8)) + (rSum1 ss fr tt ((rImpN ss fr tt r (tkF (rFstK (dR s) mm kd xo yo) be 64, nx)).1) (k / 8) (k % 8))) / (nI 8)))) (by exact tkF_s _ _ _ (by unfold rImp; exact (if_neg c_35).symm))
              · refine g_bipush (v := (-4)) X dX10_setBelief_38 rfl ?_
                refine g_goto (tgt := 82) X dX10_setBelief_40 (by decide) ?_
                refine g_iast (ws' := [wMd E a s, wAn E (a 2) 2 mm, wAn E (a 3) 2 ss, wAr E (a 4) 16 kd, wAr E (a 5) 16 xo, wAr E (a 6) 16 yo, wAr E (a 7) 16 fr, wAr E (a 8) 16 tt, wAr E (a 15) 64 ((rImpN ss fr tt r (tkF (rFstK (dR s) mm kd xo yo) be 64, nx)).1), wAr E (a 16) 64 (upd (tkF (rImp ss fr tt (rImpN ss fr tt r (tkF (rFstK (dR s) mm kd xo yo) be 64, nx)).1) (rImpN ss fr tt r (tkF (rFstK (dR s) mm kd xo yo) be 64, nx)).2 k) k (-4))].flatten) X 9 rfl k (ix_nI (by omega) (by decide)) rfl dX10_setBelief_82 ?_
                refine g_iincN (lv' := [(2, .int (nI (k + 1))), (0, .ref (a 0)), (1, .int (nI r))]) X 2 dX10_setBelief_83 rfl (by decide) rfl ?_
                refine g_goto (tgt := 16) X dX10_setBelief_86 (by decide) ?_
                refine GG.lv [1, 2, 0] rfl ?_
                exact ih_16 (k + 1) (by omega) (by omega) (nI (k + 1)) (by rfl) (upd (tkF (rImp ss fr tt (rImpN ss fr tt r (tkF (rFstK (dR s) mm kd xo yo) be 64, nx)).1) (rImpN ss fr tt r (tkF (rFstK (dR s) mm kd xo yo) be 64, nx)).2 k) k (-4)) (by exact tkF_s _ _ _ (by unfold rImp; exact (if_pos c_35).symm))
        refine GG.lv [1, 2, 0] rfl ?_
        exact L_16 (65) 0 (by omega) (by omega) (nI 0) (by rfl) ((rImpN ss fr tt r (tkF (rFstK (dR s) mm kd xo yo) be 64, nx)).2) (by exact (tkF_0 _ _).symm)
  refine GG.lv [1, 0] rfl ?_
  exact L_6 (dN0 s + 1) 0 (by omega) (by omega) (nI 0) (by rfl) (tkF (rFstK (dR s) mm kd xo yo) be 64) (by rfl) nx (by rfl)
set_option maxHeartbeats 4000000 in
set_option maxRecDepth 100000 in
theorem c_X10_belief (E : GE) (a : Nat → Nat) (s : MD0) (mm : Nat → Nat) (ss : Nat → Nat) (kd : Nat → Int32) (xo : Nat → Int32) (yo : Nat → Int32) (fr : Nat → Int32) (tt : Nat → Int32) (be : Nat → Int32) (nx : Nat → Int32) (i : Int32) (j : Int32) (hmm : ∀ g, g < 2 → mm g ≤ 8) (hss : ∀ g, g < 2 → ss g ≤ 8) (hE : okE ss fr tt) (hN : dN0 s ≤ 3) : CT E m_X10_belief [.ref (a 0), .int i, .int j] ([wMd E a s, wAn E (a 2) 2 mm, wAn E (a 3) 2 ss, wAr E (a 4) 16 kd, wAr E (a 5) 16 xo, wAr E (a 6) 16 yo, wAr E (a 7) 16 fr, wAr E (a 8) 16 tt, wAr E (a 15) 64 be, wAr E (a 16) 64 nx].flatten) (some (.int (if hasR mm (nI 0) i && hasR mm (nI 1) j then (rBelAll (dR s) (dN0 s) mm ss kd xo yo fr tt (be, nx)).1 (8 * i.toNatClampNeg + j.toNatClampNeg) else -1))) ([wMd E a s, wAn E (a 2) 2 mm, wAn E (a 3) 2 ss, wAr E (a 4) 16 kd, wAr E (a 5) 16 xo, wAr E (a 6) 16 yo, wAr E (a 7) 16 fr, wAr E (a 8) 16 tt, wAr E (a 15) 64 (if hasR mm (nI 0) i && hasR mm (nI 1) j then (rBelAll (dR s) (dN0 s) mm ss kd xo yo fr tt (be, nx)).1 else be), wAr E (a 16) 64 (if hasR mm (nI 0) i && hasR mm (nI 1) j then (rBelAll (dR s) (dN0 s) mm ss kd xo yo fr tt (be, nx)).2 else nx)].flatten) := by
  refine CT.intro (by decide +kernel) (Nat.le_of_ble_eq_true rfl) (fun Γ X hx => ?_)
  refine GG.lv [0, 1, 2] (lv' := [(0, .ref (a 0)), (1, .int i), (2, .int j)]) rfl ?_
  have hm0 := hmm 0 (by decide)
  have hm1 := hmm 1 (by decide)
  have hs0 := hss 0 (by decide)
  have hs1 := hss 1 (by decide)
  refine g_aload_n X 0 dX10_belief_0 rfl ?_
  refine g_iconst (v := (nI 0)) X dX10_belief_1 rfl ?_
  refine g_iload_n X 1 dX10_belief_2 rfl ?_
  refine g_callVr (st2 := [.int (b2i (hasR mm (nI 0) i))]) (q0 := 0) X (c_X10_isMeeting E a s mm (nI 0) i) cs_X10_92 rfl [0, 1] [2, 3, 4, 5, 6, 7, 8, 9] 10 rfl (by decide) rfl rfl rfl rfl rfl (Nat.le_of_ble_eq_true rfl) dX10_belief_3 rfl ?_
  refine g_bif_eq (tgt := 18) X dX10_belief_6 (by decide) (fun c_6 => ?_) (fun c_6 => ?_)
  · refine g_iconst (v := (-1)) X dX10_belief_18 rfl ?_
    exact g_iretv (r := (-1)) X hx rfl (by simp only [c_6, decide_true, decide_false, not_true_eq_false, not_false_eq_true, Bool.true_and, Bool.false_and, Bool.and_true, Bool.and_false, Bool.true_or, Bool.false_or, Bool.or_true, Bool.or_false, and_true, true_and, and_false, false_and, or_true, true_or, or_false, false_or, if_true, if_false, Bool.false_eq_true, decide_eq_true_eq]) (by simp only [c_6, decide_true, decide_false, not_true_eq_false, not_false_eq_true, Bool.true_and, Bool.false_and, Bool.and_true, Bool.and_false, Bool.true_or, Bool.false_or, Bool.or_true, Bool.or_false, and_true, true_and, and_false, false_and, or_true, true_or, or_false, false_or, if_true, if_false, Bool.false_eq_true, decide_eq_true_eq]) dX10_belief_19
  · refine g_aload_n X 0 dX10_belief_9 rfl ?_
    refine g_iconst (v := (nI 1)) X dX10_belief_10 rfl ?_
    refine g_iload_n X 2 dX10_belief_11 rfl ?_
    refine g_callVr (st2 := [.int (b2i (hasR mm (nI 1) j))]) (q0 := 0) X (c_X10_isMeeting E a s mm (nI 1) j) cs_X10_92 rfl [0, 1] [2, 3, 4, 5, 6, 7, 8, 9] 10 rfl (by decide) rfl rfl rfl rfl rfl (Nat.le_of_ble_eq_true rfl) dX10_belief_12 rfl ?_
    refine g_bif_ne (tgt := 20) X dX10_belief_15 (by decide) (fun c_15 => ?_) (fun c_15 => ?_)
    · obtain ⟨i1, hi1, rfl⟩ := hasR_0 hmm c_6
      obtain ⟨j1, hj1, rfl⟩ := hasR_1 hmm c_15
      refine g_aload_n X 0 dX10_belief_20 rfl ?_
      refine g_callV (st2 := []) (S' := [wMd E a s, wAn E (a 2) 2 mm, wAn E (a 3) 2 ss, wAr E (a 4) 16 kd, wAr E (a 5) 16 xo, wAr E (a 6) 16 yo, wAr E (a 7) 16 fr, wAr E (a 8) 16 tt, wAr E (a 15) 64 ((rBelAll (dR s) (dN0 s) mm ss kd xo yo fr tt (be, nx)).1), wAr E (a 16) 64 ((rBelAll (dR s) (dN0 s) mm ss kd xo yo fr tt (be, nx)).2)]) (q0 := 0) X (c_X10_setBelief E a s mm ss kd xo yo fr tt be nx (by first | assumption | omega) (by first | assumption | omega) (by first | assumption | omega) (by first | assumption | omega)) cs_X10_149 rfl [0, 1, 2, 3, 4, 5, 6, 7, 8, 9] [] 10 rfl rfl (by decide) [] rfl rfl rfl rfl (by simp only [List.map_cons, List.map_nil, fsAn, fsAr, fsMd]) rfl rfl rfl rfl (Nat.le_of_ble_eq_true rfl) dX10_belief_21 rfl ?_
      refine g_aload_n X 0 dX10_belief_24 rfl ?_
      refine g_getf (v := .ref (a 15)) X fs_X10_50 0 rfl rfl dX10_belief_25 ?_
      refine g_bipush (v := (nI 8)) X dX10_belief_28 rfl ?_
      refine g_iload_n X 1 dX10_belief_30 rfl ?_
      refine g_imulN X dX10_belief_31 ?_
      refine g_iload_n X 2 dX10_belief_32 rfl ?_
      refine g_iaddN X dX10_belief_33 ?_
      refine g_iald X 8 rfl ((8 * i1) + j1) (ix_nI (by omega) (by decide)) dX10_belief_34 ?_
      exact g_iretv (r := (((rBelAll (dR s) (dN0 s) mm ss kd xo yo fr tt (be, nx)).1) ((8 * i1) + j1))) X hx rfl (by simp only [c_6, c_15, nI_clamp (show i1 < 2 ^ 31 by omega), nI_clamp (show j1 < 2 ^ 31 by omega), decide_true, decide_false, not_true_eq_false, not_false_eq_true, Bool.true_and, Bool.false_and, Bool.and_true, Bool.and_false, Bool.true_or, Bool.false_or, Bool.or_true, Bool.or_false, and_true, true_and, and_false, false_and, or_true, true_or, or_false, false_or, if_true, if_false, Bool.false_eq_true, decide_eq_true_eq]) (by simp only [c_6, c_15, decide_true, decide_false, not_true_eq_false, not_false_eq_true, Bool.true_and, Bool.false_and, Bool.and_true, Bool.and_false, Bool.true_or, Bool.false_or, Bool.or_true, Bool.or_false, and_true, true_and, and_false, false_and, or_true, true_or, or_false, false_or, if_true, if_false, Bool.false_eq_true, decide_eq_true_eq]) dX10_belief_35
    · refine g_iconst (v := (-1)) X dX10_belief_18 rfl ?_
      exact g_iretv (r := (-1)) X hx rfl (by simp only [c_6, c_15, decide_true, decide_false, not_true_eq_false, not_false_eq_true, Bool.true_and, Bool.false_and, Bool.and_true, Bool.and_false, Bool.true_or, Bool.false_or, Bool.or_true, Bool.or_false, and_true, true_and, and_false, false_and, or_true, true_or, or_false, false_or, if_true, if_false, Bool.false_eq_true, decide_eq_true_eq]) (by simp only [c_6, c_15, decide_true, decide_false, not_true_eq_false, not_false_eq_true, Bool.true_and, Bool.false_and, Bool.and_true, Bool.and_false, Bool.true_or, Bool.false_or, Bool.or_true, Bool.or_false, and_true, true_and, and_false, false_and, or_true, true_or, or_false, false_or, if_true, if_false, Bool.false_eq_true, decide_eq_true_eq]) dX10_belief_19
set_option maxHeartbeats 4000000 in
set_option maxRecDepth 100000 in
theorem c_X10_matches_0 (E : GE) (a : Nat → Nat) (s : MD0) (be : Nat → Int32) (f : Nat → Int32) : CT E m_X10_matches [.ref (a 0), .ref (a 17), .int (nI 0)] ([wMd E a s, wAr E (a 15) 64 be, wAr E (a 17) 16 f].flatten) none ([wMd E a s, wAr E (a 15) 64 be, wAr E (a 17) 16 (rMts false be f)].flatten) := by
  refine CT.intro (by decide +kernel) (Nat.le_of_ble_eq_true rfl) (fun Γ X hx => ?_)
  refine GG.lv [0, 1, 2] (lv' := [(0, .ref (a 0)), (1, .ref (a 17)), (2, .int (nI 0))]) rfl ?_
  refine g_iconst (v := (nI 0)) X dX10_matches_0 rfl ?_
  refine g_istore_n (lv' := [(3, .int (nI 0)), (0, .ref (a 0)), (1, .ref (a 17)), (2, .int (nI 0))]) X dX10_matches_1 (by decide) rfl ?_
  have L_2 : ∀ (n_2 : Nat) (k : Nat) (hk : k ≤ 16) (hm_2 : 16 - k < n_2) (x_3 : Int32) (ex_3 : x_3 = (nI k)) (u_0 : Nat → Int32) (eu_0 : u_0 = clrF f k), GG E m_X10_matches Γ 0 0 ([wMd E a s, wAr E (a 15) 64 be, wAr E (a 17) 16 u_0].flatten) [(0, .ref (a 0)), (1, .ref (a 17)), (2, .int (nI 0)), (3, .int x_3)] 2 [] := by
    intro n_2
    induction n_2 with
    | zero => intro k hk hm_2; exact absurd hm_2 (Nat.not_lt_zero _)
    | succ n_2 ih_2 =>
      intro k hk hm_2 x_3 ex_3 u_0 eu_0
      subst ex_3
      subst eu_0
      refine g_iload_n X 3 dX10_matches_2 rfl ?_
      refine g_bipush (v := (nI 16)) X dX10_matches_3 rfl ?_
      refine g_icmp_ge (tgt := 19) X dX10_matches_5 (by decide) (fun c_5 => ?_) (fun c_5 => ?_)
      · have f_c_5 : 16 ≤ k := n_le (by omega) (by omega) c_5
        have fn_c_5 := Nat.not_lt.mpr f_c_5
        have ek : k = 16 := by omega
        subst ek
        refine g_iconst (v := (nI 0)) X dX10_matches_19 rfl ?_
        refine g_istore_n (lv' := [(3, .int (nI 0)), (0, .ref (a 0)), (1, .ref (a 17)), (2, .int (nI 0))]) X dX10_matches_20 (by decide) rfl ?_
        have L_21 : ∀ (n_21 : Nat) (n : Nat) (x : Int32) (h : Nat → Int32) (he : rMts false be f = if x = -4 then h else rMt false be n h) (hc : x = -4 ∨ frN h < n) (hm_21 : n < n_21) , GG E m_X10_matches Γ 0 0 ([wMd E a s, wAr E (a 15) 64 be, wAr E (a 17) 16 h].flatten) [(0, .ref (a 0)), (1, .ref (a 17)), (2, .int (nI 0)), (3, .int x)] 21 [] := by
          intro n_21
          induction n_21 with
          | zero => intro n x h he hc hm_21; exact absurd hm_21 (Nat.not_lt_zero _)
          | succ n_21 ih_21 =>
            intro n x h he hc hm_21 
            refine g_iload_n X 3 dX10_matches_21 rfl ?_
            refine g_bipush (v := (-4)) X dX10_matches_22 rfl ?_
            refine g_icmp_eq (tgt := 200) X dX10_matches_24 (by decide) (fun c_24 => ?_) (fun c_24 => ?_)
            · exact g_vret X hx rfl rfl (by rw [he, if_pos c_24]) dX10_matches_200
            · refine g_bipush (v := (-4)) X dX10_matches_27 rfl ?_
              refine g_istore_n (lv' := [(3, .int (-4)), (0, .ref (a 0)), (1, .ref (a 17)), (2, .int (nI 0))]) X dX10_matches_29 (by decide) rfl ?_
              refine g_iconst (v := (nI 0)) X dX10_matches_30 rfl ?_
              refine g_istore (lv' := [(4, .int (nI 0)), (3, .int (-4)), (0, .ref (a 0)), (1, .ref (a 17)), (2, .int (nI 0))]) X dX10_matches_31 (by decide) rfl ?_
              have L_33 : ∀ (n_33 : Nat) (k : Nat) (hk : k ≤ 64) (hm_33 : 64 - k < n_33) (x_3 : Int32) (ex_3 : x_3 = (rScan false be h k)) (x_4 : Int32) (ex_4 : x_4 = (nI k)), GG E m_X10_matches Γ 0 0 ([wMd E a s, wAr E (a 15) 64 be, wAr E (a 17) 16 h].flatten) [(0, .ref (a 0)), (1, .ref (a 17)), (2, .int (nI 0)), (3, .int x_3), (4, .int x_4)] 33 [] := by
                intro n_33
                induction n_33 with
                | zero => intro k hk hm_33; exact absurd hm_33 (Nat.not_lt_zero _)
                | succ n_33 ih_33 =>
                  intro k hk hm_33 x_3 ex_3 x_4 ex_4
                  subst ex_3
                  subst ex_4
                  refine g_iload X 4 dX10_matches_33 rfl ?_
                  refine g_bipush (v := (nI 64)) X dX10_matches_35 rfl ?_
                  refine g_icmp_ge (tgt := 168) X dX10_matches_37 (by decide) (fun c_37 => ?_) (fun c_37 => ?_)
                  · have f_c_37 : 64 ≤ k := n_le (by omega) (by omega) c_37
                    have fn_c_37 := Nat.not_lt.mpr f_c_37
                    have ek : k = 64 := by omega
                    subst ek
                    refine g_iload_n X 3 dX10_matches_168 rfl ?_
                    refine g_bipush (v := (-4)) X dX10_matches_169 rfl ?_
                    refine g_icmp_eq (tgt := 21) X dX10_matches_171 (by decide) (fun c_171 => ?_) (fun c_171 => ?_)
                    · refine GG.lv [0, 1, 2, 3] rfl ?_
                      exact ih_21 (n - 1) (rScan false be h 64) h (by rw [he, if_neg c_24, rMt_stop (hc.resolve_left c_24) c_171, if_pos c_171]) (Or.inl c_171) (by have := hc.resolve_left c_24; omega)
                    · obtain ⟨p, hb, eb, hb1, hb2⟩ := rScan_nI false be h c_171
                      rw [eb]
                      refine g_aload_n X 1 dX10_matches_174 rfl ?_
                      refine g_iload_n X 3 dX10_matches_175 rfl ?_
                      refine g_bipush (v := (nI 8)) X dX10_matches_176 rfl ?_
                      refine g_idivN X (by omega) (by omega) (by omega) dX10_matches_178 ?_
                      refine g_iload_n X 3 dX10_matches_179 rfl ?_
                      refine g_bipush (v := (nI 8)) X dX10_matches_180 rfl ?_
                      refine g_iremN X (by omega) (by omega) (by omega) dX10_matches_182 ?_
                      refine g_iast (ws' := [wMd E a s, wAr E (a 15) 64 be, wAr E (a 17) 16 (upd h (p / 8) (nI (p % 8)))].flatten) X 2 rfl (p / 8) (ix_nI (by omega) (by decide)) rfl dX10_matches_183 ?_
                      refine g_aload_n X 1 dX10_matches_184 rfl ?_
                      refine g_bipush (v := (nI 8)) X dX10_matches_185 rfl ?_
                      refine g_iload_n X 3 dX10_matches_187 rfl ?_
                      refine g_bipush (v := (nI 8)) X dX10_matches_188 rfl ?_
                      refine g_iremN X (by omega) (by omega) (by omega) dX10_matches_190 ?_
                      refine g_iaddN X dX10_matches_191 ?_
                      refine g_iload_n X 3 dX10_matches_192 rfl ?_
                      refine g_bipush (v := (nI 8)) X dX10_matches_193 rfl ?_
                      refine g_idivN X (by omega) (by omega) (by omega) dX10_matches_195 ?_
                      refine g_iast (ws' := [wMd E a s, wAr E (a 15) 64 be, wAr E (a 17) 16 (upd (upd h (p / 8) (nI (p % 8))) (8 + (p % 8)) (nI (p / 8)))].flatten) X 2 rfl (8 + (p % 8)) (ix_nI (by omega) (by decide)) rfl dX10_matches_196 ?_
                      refine g_goto (tgt := 21) X dX10_matches_197 (by decide) ?_
                      refine GG.lv [0, 1, 2, 3] rfl ?_
                      exact ih_21 (n - 1) (nI p) (upd (upd h (p / 8) (nI (p % 8))) (8 + (p % 8)) (nI (p / 8))) (by rw [he, if_neg c_24, rMt_go (hc.resolve_left c_24) eb hb, if_neg (nI_ne_m4 (show p < 2 ^ 31 by omega))]; rfl) (Or.inr (by have := frN_nx hb hb1; have := hc.resolve_left c_24; show frN (rNx1 h p) < n - 1; omega)) (by have := hc.resolve_left c_24; omega)
                  · have f_c_37 : k < 64 := n_nle (by omega) (by omega) c_37
                    have fn_c_37 := Nat.not_le.mpr f_c_37
                    refine g_iload_n X 2 dX10_matches_40 rfl ?_
                    refine g_if_eq (tgt := 52) X dX10_matches_41 (by decide) (fun c_41 => ?_) (fun c_41 => absurd c_41 (by decide))
                    refine g_iload X 4 dX10_matches_52 rfl ?_
                    refine g_bipush (v := (nI 8)) X dX10_matches_54 rfl ?_
                    refine g_idivN X (by omega) (by omega) (by omega) dX10_matches_56 ?_
                    refine g_istore (lv' := [(5, .int (nI (k / 8))), (0, .ref (a 0)), (1, .ref (a 17)), (2, .int (nI 0)), (3, .int (rScan false be h k)), (4, .int (nI k))]) X dX10_matches_57 (by decide) rfl ?_
                    refine g_iload_n X 3 dX10_matches_59 rfl ?_
                    refine g_if_eq (tgt := 71) X dX10_matches_60 (by decide) (fun c_60 => ?_) (fun c_60 => absurd c_60 (by decide))
                    refine g_iload X 5 dX10_matches_71 rfl ?_
                    refine g_bipush (v := (nI 8)) X dX10_matches_73 rfl ?_
                    refine g_iremN X (by omega) (by omega) (by omega) dX10_matches_75 ?_
                    refine g_istore (lv' := [(6, .int (nI (k % 8))), (5, .int (nI (k / 8))), (0, .ref (a 0)), (1, .ref (a 17)), (2, .int (nI 0)), (3, .int (rScan false be h k)), (4, .int (nI k))]) X dX10_matches_76 (by decide) rfl ?_
                    refine g_bipush (v := (nI 8)) X dX10_matches_78 rfl ?_
                    refine g_iload X 1 dX10_matches_80 rfl ?_
                    refine g_imulN X dX10_matches_82 ?_
                    refine g_iload X 0 dX10_matches_83 rfl ?_
                    refine g_iaddN X dX10_matches_85 ?_
                    refine g_istore (lv' := [(7, .int (nI ((8 * (k / 8)) + (k % 8)))), (6, .int (nI (k % 8))), (5, .int (nI (k / 8))), (0, .ref (a 0)), (1, .ref (a 17)), (2, .int (nI 0)), (3, .int (rScan false be h k)), (4, .int (nI k))]) X dX10_matches_86 (by decide) rfl ?_
                    refine g_aload_n X 3 dX10_matches_88 rfl ?_
                    refine g_getf (v := .ref (a 15)) X fs_X10_50 0 rfl rfl dX10_matches_89 ?_
                    refine g_iload X 0 dX10_matches_92 rfl ?_
                    refine g_iald X 1 rfl ((8 * (k / 8)) + (k % 8)) (ix_nI (by omega) (by decide)) dX10_matches_94 ?_
                    refine g_bipush (v := (-4)) X dX10_matches_95 rfl ?_
                    refine g_icmp_eq (tgt := 125) X dX10_matches_97 (by decide) (fun c_97 => ?_) (fun c_97 => ?_)
                    · refine g_iconst (v := (nI 0)) X dX10_matches_125 rfl ?_
                      refine g_istore (lv' := [(8, .int (nI 0)), (7, .int (nI ((8 * (k / 8)) + (k % 8)))), (6, .int (nI (k % 8))), (5, .int (nI (k / 8))), (0, .ref (a 0)), (1, .ref (a 17)), (2, .int (nI 0)), (3, .int (rScan false be h k)), (4, .int (nI k))]) X dX10_matches_126 (by decide) rfl ?_
                      refine g_iload X 0 dX10_matches_128 rfl ?_
                      refine g_if_eq (tgt := 160) X dX10_matches_130 (by decide) (fun c_130 => ?_) (fun c_130 => absurd c_130 (by decide))
                      refine g_iload_n X 7 dX10_matches_160 rfl ?_
                      refine g_istore_n (lv' := [(3, .int (rScan false be h k)), (8, .int (nI 0)), (7, .int (nI ((8 * (k / 8)) + (k % 8)))), (6, .int (nI (k % 8))), (5, .int (nI (k / 8))), (0, .ref (a 0)), (1, .ref (a 17)), (2, .int (nI 0)), (4, .int (nI k))]) X dX10_matches_161 (by decide) rfl ?_
                      refine g_iincN (lv' := [(4, .int (nI (k + 1))), (3, .int (rScan false be h k)), (8, .int (nI 0)), (7, .int (nI ((8 * (k / 8)) + (k % 8)))), (6, .int (nI (k % 8))), (5, .int (nI (k / 8))), (0, .ref (a 0)), (1, .ref (a 17)), (2, .int (nI 0))]) X 8 dX10_matches_162 rfl (by decide) rfl ?_
                      refine g_goto (tgt := 33) X dX10_matches_165 (by decide) ?_
                      refine GG.lv [6, 7, 8, 1, 0] rfl ?_
                      exact ih_33 (k + 1) (by omega) (by omega) (rScan false be h k) (by show _ = rbst false be h k (rScan false be h k); simp only [rbst, rbA, rbI, rbJ, c_5, f_c_5, fn_c_5, c_24, c_37, f_c_37, fn_c_37, c_97, decide_true, decide_false, not_true_eq_false, not_false_eq_true, Bool.true_and, Bool.false_and, Bool.and_true, Bool.and_false, Bool.true_or, Bool.false_or, Bool.or_true, Bool.or_false, and_true, true_and, and_false, false_and, or_true, true_or, or_false, false_or, if_true, if_false, Bool.false_eq_true, decide_eq_true_eq]) (nI (k + 1)) (by rfl)
                    · refine g_aload_n X 4 dX10_matches_100 rfl ?_
                      refine g_iload X 2 dX10_matches_101 rfl ?_
                      refine g_iald X 2 rfl (k / 8) (ix_nI (by omega) (by decide)) dX10_matches_103 ?_
                      refine g_bipush (v := (-4)) X dX10_matches_104 rfl ?_
                      refine g_icmp_ne (tgt := 125) X dX10_matches_106 (by decide) (fun c_106 => ?_) (fun c_106 => ?_)
                      · refine g_iconst (v := (nI 0)) X dX10_matches_125 rfl ?_
                        refine g_istore (lv' := [(8, .int (nI 0)), (7, .int (nI ((8 * (k / 8)) + (k % 8)))), (6, .int (nI (k % 8))), (5, .int (nI (k / 8))), (0, .ref (a 0)), (1, .ref (a 17)), (2, .int (nI 0)), (3, .int (rScan false be h k)), (4, .int (nI k))]) X dX10_matches_126 (by decide) rfl ?_
                        refine g_iload X 0 dX10_matches_128 rfl ?_
                        refine g_if_eq (tgt := 160) X dX10_matches_130 (by decide) (fun c_130 => ?_) (fun c_130 => absurd c_130 (by decide))
                        refine g_iload_n X 7 dX10_matches_160 rfl ?_
                        refine g_istore_n (lv' := [(3, .int (rScan false be h k)), (8, .int (nI 0)), (7, .int (nI ((8 * (k / 8)) + (k % 8)))), (6, .int (nI (k % 8))), (5, .int (nI (k / 8))), (0, .ref (a 0)), (1, .ref (a 17)), (2, .int (nI 0)), (4, .int (nI k))]) X dX10_matches_161 (by decide) rfl ?_
                        refine g_iincN (lv' := [(4, .int (nI (k + 1))), (3, .int (rScan false be h k)), (8, .int (nI 0)), (7, .int (nI ((8 * (k / 8)) + (k % 8)))), (6, .int (nI (k % 8))), (5, .int (nI (k / 8))), (0, .ref (a 0)), (1, .ref (a 17)), (2, .int (nI 0))]) X 8 dX10_matches_162 rfl (by decide) rfl ?_
                        refine g_goto (tgt := 33) X dX10_matches_165 (by decide) ?_
                        refine GG.lv [6, 7, 8, 1, 0] rfl ?_
                        exact ih_33 (k + 1) (by omega) (by omega) (rScan false be h k) (by show _ = rbst false be h k (rScan false be h k); simp only [rbst, rbA, rbI, rbJ, c_5, f_c_5, fn_c_5, c_24, c_37, f_c_37, fn_c_37, c_97, c_106, decide_true, decide_false, not_true_eq_false, not_false_eq_true, Bool.true_and, Bool.false_and, Bool.and_true, Bool.and_false, Bool.true_or, Bool.false_or, Bool.or_true, Bool.or_false, and_true, true_and, and_false, false_and, or_true, true_or, or_false, false_or, if_true, if_false, Bool.false_eq_true, decide_eq_true_eq]) (nI (k + 1)) (by rfl)
                      · refine g_aload_n X 4 dX10_matches_109 rfl ?_
                        refine g_bipush (v := (nI 8)) X dX10_matches_110 rfl ?_
                        refine g_iload X 1 dX10_matches_112 rfl ?_
                        refine g_iaddN X dX10_matches_114 ?_
                        refine g_iald X 2 rfl (8 + (k % 8)) (ix_nI (by omega) (by decide)) dX10_matches_115 ?_
                        refine g_bipush (v := (-4)) X dX10_matches_116 rfl ?_
                        refine g_icmp_ne (tgt := 125) X dX10_matches_118 (by decide) (fun c_118 => ?_) (fun c_118 => ?_)
                        · refine g_iconst (v := (nI 0)) X dX10_matches_125 rfl ?_
                          refine g_istore (lv' := [(8, .int (nI 0)), (7, .int (nI ((8 * (k / 8)) + (k % 8)))), (6, .int (nI (k % 8))), (5, .int (nI (k / 8))), (0, .ref (a 0)), (1, .ref (a 17)), (2, .int (nI 0)), (3, .int (rScan false be h k)), (4, .int (nI k))]) X dX10_matches_126 (by decide) rfl ?_
                          refine g_iload X 0 dX10_matches_128 rfl ?_
                          refine g_if_eq (tgt := 160) X dX10_matches_130 (by decide) (fun c_130 => ?_) (fun c_130 => absurd c_130 (by decide))
                          refine g_iload_n X 7 dX10_matches_160 rfl ?_
                          refine g_istore_n (lv' := [(3, .int (rScan false be h k)), (8, .int (nI 0)), (7, .int (nI ((8 * (k / 8)) + (k % 8)))), (6, .int (nI (k % 8))), (5, .int (nI (k / 8))), (0, .ref (a 0)), (1, .ref (a 17)), (2, .int (nI 0)), (4, .int (nI k))]) X dX10_matches_161 (by decide) rfl ?_
                          refine g_iincN (lv' := [(4, .int (nI (k + 1))), (3, .int (rScan false be h k)), (8, .int (nI 0)), (7, .int (nI ((8 * (k / 8)) + (k % 8)))), (6, .int (nI (k % 8))), (5, .int (nI (k / 8))), (0, .ref (a 0)), (1, .ref (a 17)), (2, .int (nI 0))]) X 8 dX10_matches_162 rfl (by decide) rfl ?_
                          refine g_goto (tgt := 33) X dX10_matches_165 (by decide) ?_
                          refine GG.lv [6, 7, 8, 1, 0] rfl ?_
                          exact ih_33 (k + 1) (by omega) (by omega) (rScan false be h k) (by show _ = rbst false be h k (rScan false be h k); simp only [rbst, rbA, rbI, rbJ, c_5, f_c_5, fn_c_5, c_24, c_37, f_c_37, fn_c_37, c_97, c_106, c_118, decide_true, decide_false, not_true_eq_false, not_false_eq_true, Bool.true_and, Bool.false_and, Bool.and_true, Bool.and_false, Bool.true_or, Bool.false_or, Bool.or_true, Bool.or_false, and_true, true_and, and_false, false_and, or_true, true_or, or_false, false_or, if_true, if_false, Bool.false_eq_true, decide_eq_true_eq]) (nI (k + 1)) (by rfl)
                        · refine g_iconst (v := (nI 1)) X dX10_matches_121 rfl ?_
                          refine g_goto (tgt := 126) X dX10_matches_122 (by decide) ?_
                          refine g_istore (lv' := [(8, .int (nI 1)), (7, .int (nI ((8 * (k / 8)) + (k % 8)))), (6, .int (nI (k % 8))), (5, .int (nI (k / 8))), (0, .ref (a 0)), (1, .ref (a 17)), (2, .int (nI 0)), (3, .int (rScan false be h k)), (4, .int (nI k))]) X dX10_matches_126 (by decide) rfl ?_
                          refine g_iload X 0 dX10_matches_128 rfl ?_
                          refine g_if_eq (tgt := 160) X dX10_matches_130 (by decide) (fun c_130 => absurd c_130 (by decide)) (fun c_130 => ?_)
                          refine g_iload_n X 7 dX10_matches_133 rfl ?_
                          refine g_bipush (v := (-4)) X dX10_matches_134 rfl ?_
                          refine g_icmp_eq (tgt := 155) X dX10_matches_136 (by decide) (fun c_136 => ?_) (fun c_136 => ?_)
                          · refine g_iload X 1 dX10_matches_155 rfl ?_
                            refine g_goto (tgt := 161) X dX10_matches_157 (by decide) ?_
                            refine g_istore_n (lv' := [(3, .int (nI ((8 * (k / 8)) + (k % 8)))), (8, .int (nI 1)), (7, .int (nI ((8 * (k / 8)) + (k % 8)))), (6, .int (nI (k % 8))), (5, .int (nI (k / 8))), (0, .ref (a 0)), (1, .ref (a 17)), (2, .int (nI 0)), (4, .int (nI k))]) X dX10_matches_161 (by decide) rfl ?_
                            refine g_iincN (lv' := [(4, .int (nI (k + 1))), (3, .int (nI ((8 * (k / 8)) + (k % 8)))), (8, .int (nI 1)), (7, .int (nI ((8 * (k / 8)) + (k % 8)))), (6, .int (nI (k % 8))), (5, .int (nI (k / 8))), (0, .ref (a 0)), (1, .ref (a 17)), (2, .int (nI 0))]) X 8 dX10_matches_162 rfl (by decide) rfl ?_
                            refine g_goto (tgt := 33) X dX10_matches_165 (by decide) ?_
                            refine GG.lv [6, 7, 8, 1, 0] rfl ?_
                            exact ih_33 (k + 1) (by omega) (by omega) (nI ((8 * (k / 8)) + (k % 8))) (by show _ = rbst false be h k (rScan false be h k); simp only [rbst, rbA, rbI, rbJ, c_5, f_c_5, fn_c_5, c_24, c_37, f_c_37, fn_c_37, c_97, c_106, c_118, c_136, decide_true, decide_false, not_true_eq_false, not_false_eq_true, Bool.true_and, Bool.false_and, Bool.and_true, Bool.and_false, Bool.true_or, Bool.false_or, Bool.or_true, Bool.or_false, and_true, true_and, and_false, false_and, or_true, true_or, or_false, false_or, if_true, if_false, Bool.false_eq_true, decide_eq_true_eq]) (nI (k + 1)) (by rfl)
                          · refine g_aload_n X 4 dX10_matches_139 rfl ?_
                            refine g_getf (v := .ref (a 15)) X fs_X10_50 0 rfl rfl dX10_matches_140 ?_
                            refine g_iload X 1 dX10_matches_143 rfl ?_
                            refine g_iald X 1 rfl ((8 * (k / 8)) + (k % 8)) (ix_nI (by omega) (by decide)) dX10_matches_145 ?_
                            refine g_aload_n X 4 dX10_matches_146 rfl ?_
                            refine g_getf (v := .ref (a 15)) X fs_X10_50 0 rfl rfl dX10_matches_147 ?_
                            refine g_iload_n X 7 dX10_matches_150 rfl ?_
                            refine g_iald X 1 rfl ((rScan false be h k).toNatClampNeg) (rScan_ix false be h (by omega) (by assumption)) dX10_matches_151 ?_
                            refine g_icmp_le (tgt := 160) X dX10_matches_152 (by decide) (fun c_152 => ?_) (fun c_152 => ?_)
                            · refine g_iload_n X 7 dX10_matches_160 rfl ?_
                              refine g_istore_n (lv' := [(3, .int (rScan false be h k)), (8, .int (nI 1)), (7, .int (nI ((8 * (k / 8)) + (k % 8)))), (6, .int (nI (k % 8))), (5, .int (nI (k / 8))), (0, .ref (a 0)), (1, .ref (a 17)), (2, .int (nI 0)), (4, .int (nI k))]) X dX10_matches_161 (by decide) rfl ?_
                              refine g_iincN (lv' := [(4, .int (nI (k + 1))), (3, .int (rScan false be h k)), (8, .int (nI 1)), (7, .int (nI ((8 * (k / 8)) + (k % 8)))), (6, .int (nI (k % 8))), (5, .int (nI (k / 8))), (0, .ref (a 0)), (1, .ref (a 17)), (2, .int (nI 0))]) X 8 dX10_matches_162 rfl (by decide) rfl ?_
                              refine g_goto (tgt := 33) X dX10_matches_165 (by decide) ?_
                              refine GG.lv [6, 7, 8, 1, 0] rfl ?_
                              exact ih_33 (k + 1) (by omega) (by omega) (rScan false be h k) (by show _ = rbst false be h k (rScan false be h k); simp only [rbst, rbA, rbI, rbJ, c_5, f_c_5, fn_c_5, c_24, c_37, f_c_37, fn_c_37, c_97, c_106, c_118, c_136, c_152, decide_true, decide_false, not_true_eq_false, not_false_eq_true, Bool.true_and, Bool.false_and, Bool.and_true, Bool.and_false, Bool.true_or, Bool.false_or, Bool.or_true, Bool.or_false, and_true, true_and, and_false, false_and, or_true, true_or, or_false, false_or, if_true, if_false, Bool.false_eq_true, decide_eq_true_eq]) (nI (k + 1)) (by rfl)
                            · refine g_iload X 1 dX10_matches_155 rfl ?_
                              refine g_goto (tgt := 161) X dX10_matches_157 (by decide) ?_
                              refine g_istore_n (lv' := [(3, .int (nI ((8 * (k / 8)) + (k % 8)))), (8, .int (nI 1)), (7, .int (nI ((8 * (k / 8)) + (k % 8)))), (6, .int (nI (k % 8))), (5, .int (nI (k / 8))), (0, .ref (a 0)), (1, .ref (a 17)), (2, .int (nI 0)), (4, .int (nI k))]) X dX10_matches_161 (by decide) rfl ?_
                              refine g_iincN (lv' := [(4, .int (nI (k + 1))), (3, .int (nI ((8 * (k / 8)) + (k % 8)))), (8, .int (nI 1)), (7, .int (nI ((8 * (k / 8)) + (k % 8)))), (6, .int (nI (k % 8))), (5, .int (nI (k / 8))), (0, .ref (a 0)), (1, .ref (a 17)), (2, .int (nI 0))]) X 8 dX10_matches_162 rfl (by decide) rfl ?_
                              refine g_goto (tgt := 33) X dX10_matches_165 (by decide) ?_
                              refine GG.lv [6, 7, 8, 1, 0] rfl ?_
                              exact ih_33 (k + 1) (by omega) (by omega) (nI ((8 * (k / 8)) + (k % 8))) (by show _ = rbst false be h k (rScan false be h k); simp only [rbst, rbA, rbI, rbJ, c_5, f_c_5, fn_c_5, c_24, c_37, f_c_37, fn_c_37, c_97, c_106, c_118, c_136, c_152, decide_true, decide_false, not_true_eq_false, not_false_eq_true, Bool.true_and, Bool.false_and, Bool.and_true, Bool.and_false, Bool.true_or, Bool.false_or, Bool.or_true, Bool.or_false, and_true, true_and, and_false, false_and, or_true, true_or, or_false, false_or, if_true, if_false, Bool.false_eq_true, decide_eq_true_eq]) (nI (k + 1)) (by rfl)
              refine GG.lv [2, 3, 4, 1, 0] rfl ?_
              exact L_33 (65) 0 (by omega) (by omega) (-4) (by rfl) (nI 0) (by rfl)
        refine GG.lv [1, 2, 3, 0] rfl ?_
        exact L_21 (10) 9 (nI 0) (clrF f 16) (if_neg (by decide)).symm (Or.inr (Nat.lt_succ_of_le (cntB_le _ 8))) (by omega)
      · have f_c_5 : k < 16 := n_nle (by omega) (by omega) c_5
        have fn_c_5 := Nat.not_le.mpr f_c_5
        refine g_aload_n X 1 dX10_matches_8 rfl ?_
        refine g_iload_n X 3 dX10_matches_9 rfl ?_
        refine g_bipush (v := (-4)) X dX10_matches_10 rfl ?_
        refine g_iast (ws' := [wMd E a s, wAr E (a 15) 64 be, wAr E (a 17) 16 (upd (clrF f k) k (-4))].flatten) X 2 rfl k (ix_nI (by omega) (by decide)) rfl dX10_matches_12 ?_
        refine g_iincN (lv' := [(3, .int (nI (k + 1))), (0, .ref (a 0)), (1, .ref (a 17)), (2, .int (nI 0))]) X 3 dX10_matches_13 rfl (by decide) rfl ?_
        refine g_goto (tgt := 2) X dX10_matches_16 (by decide) ?_
        refine GG.lv [1, 2, 3, 0] rfl ?_
        exact ih_2 (k + 1) (by omega) (by omega) (nI (k + 1)) (by rfl) (upd (clrF f k) k (-4)) (by exact clrF_s _ _)
  refine GG.lv [1, 2, 3, 0] rfl ?_
  exact L_2 (17) 0 (by omega) (by omega) (nI 0) (by rfl) f (by exact (clrF_0 _).symm)
set_option maxHeartbeats 4000000 in
set_option maxRecDepth 100000 in
theorem c_X10_matches_1 (E : GE) (a : Nat → Nat) (s : MD0) (be : Nat → Int32) (f : Nat → Int32) : CT E m_X10_matches [.ref (a 0), .ref (a 18), .int (nI 1)] ([wMd E a s, wAr E (a 15) 64 be, wAr E (a 18) 16 f].flatten) none ([wMd E a s, wAr E (a 15) 64 be, wAr E (a 18) 16 (rMts true be f)].flatten) := by
  refine CT.intro (by decide +kernel) (Nat.le_of_ble_eq_true rfl) (fun Γ X hx => ?_)
  refine GG.lv [0, 1, 2] (lv' := [(0, .ref (a 0)), (1, .ref (a 18)), (2, .int (nI 1))]) rfl ?_
  refine g_iconst (v := (nI 0)) X dX10_matches_0 rfl ?_
  refine g_istore_n (lv' := [(3, .int (nI 0)), (0, .ref (a 0)), (1, .ref (a 18)), (2, .int (nI 1))]) X dX10_matches_1 (by decide) rfl ?_
  have L_2 : ∀ (n_2 : Nat) (k : Nat) (hk : k ≤ 16) (hm_2 : 16 - k < n_2) (x_3 : Int32) (ex_3 : x_3 = (nI k)) (u_0 : Nat → Int32) (eu_0 : u_0 = clrF f k), GG E m_X10_matches Γ 0 0 ([wMd E a s, wAr E (a 15) 64 be, wAr E (a 18) 16 u_0].flatten) [(0, .ref (a 0)), (1, .ref (a 18)), (2, .int (nI 1)), (3, .int x_3)] 2 [] := by
    intro n_2
    induction n_2 with
    | zero => intro k hk hm_2; exact absurd hm_2 (Nat.not_lt_zero _)
    | succ n_2 ih_2 =>
      intro k hk hm_2 x_3 ex_3 u_0 eu_0
      subst ex_3
      subst eu_0
      refine g_iload_n X 3 dX10_matches_2 rfl ?_
      refine g_bipush (v := (nI 16)) X dX10_matches_3 rfl ?_
      refine g_icmp_ge (tgt := 19) X dX10_matches_5 (by decide) (fun c_5 => ?_) (fun c_5 => ?_)
      · have f_c_5 : 16 ≤ k := n_le (by omega) (by omega) c_5
        have fn_c_5 := Nat.not_lt.mpr f_c_5
        have ek : k = 16 := by omega
        subst ek
        refine g_iconst (v := (nI 0)) X dX10_matches_19 rfl ?_
        refine g_istore_n (lv' := [(3, .int (nI 0)), (0, .ref (a 0)), (1, .ref (a 18)), (2, .int (nI 1))]) X dX10_matches_20 (by decide) rfl ?_
        have L_21 : ∀ (n_21 : Nat) (n : Nat) (x : Int32) (h : Nat → Int32) (he : rMts true be f = if x = -4 then h else rMt true be n h) (hc : x = -4 ∨ frN h < n) (hm_21 : n < n_21) , GG E m_X10_matches Γ 0 0 ([wMd E a s, wAr E (a 15) 64 be, wAr E (a 18) 16 h].flatten) [(0, .ref (a 0)), (1, .ref (a 18)), (2, .int (nI 1)), (3, .int x)] 21 [] := by
          intro n_21
          induction n_21 with
          | zero => intro n x h he hc hm_21; exact absurd hm_21 (Nat.not_lt_zero _)
          | succ n_21 ih_21 =>
            intro n x h he hc hm_21 
            refine g_iload_n X 3 dX10_matches_21 rfl ?_
            refine g_bipush (v := (-4)) X dX10_matches_22 rfl ?_
            refine g_icmp_eq (tgt := 200) X dX10_matches_24 (by decide) (fun c_24 => ?_) (fun c_24 => ?_)
            · exact g_vret X hx rfl rfl (by rw [he, if_pos c_24]) dX10_matches_200
            · refine g_bipush (v := (-4)) X dX10_matches_27 rfl ?_
              refine g_istore_n (lv' := [(3, .int (-4)), (0, .ref (a 0)), (1, .ref (a 18)), (2, .int (nI 1))]) X dX10_matches_29 (by decide) rfl ?_
              refine g_iconst (v := (nI 0)) X dX10_matches_30 rfl ?_
              refine g_istore (lv' := [(4, .int (nI 0)), (3, .int (-4)), (0, .ref (a 0)), (1, .ref (a 18)), (2, .int (nI 1))]) X dX10_matches_31 (by decide) rfl ?_
              have L_33 : ∀ (n_33 : Nat) (k : Nat) (hk : k ≤ 64) (hm_33 : 64 - k < n_33) (x_3 : Int32) (ex_3 : x_3 = (rScan true be h k)) (x_4 : Int32) (ex_4 : x_4 = (nI k)), GG E m_X10_matches Γ 0 0 ([wMd E a s, wAr E (a 15) 64 be, wAr E (a 18) 16 h].flatten) [(0, .ref (a 0)), (1, .ref (a 18)), (2, .int (nI 1)), (3, .int x_3), (4, .int x_4)] 33 [] := by
                intro n_33
                induction n_33 with
                | zero => intro k hk hm_33; exact absurd hm_33 (Nat.not_lt_zero _)
                | succ n_33 ih_33 =>
                  intro k hk hm_33 x_3 ex_3 x_4 ex_4
                  subst ex_3
                  subst ex_4
                  refine g_iload X 4 dX10_matches_33 rfl ?_
                  refine g_bipush (v := (nI 64)) X dX10_matches_35 rfl ?_
                  refine g_icmp_ge (tgt := 168) X dX10_matches_37 (by decide) (fun c_37 => ?_) (fun c_37 => ?_)
                  · have f_c_37 : 64 ≤ k := n_le (by omega) (by omega) c_37
                    have fn_c_37 := Nat.not_lt.mpr f_c_37
                    have ek : k = 64 := by omega
                    subst ek
                    refine g_iload_n X 3 dX10_matches_168 rfl ?_
                    refine g_bipush (v := (-4)) X dX10_matches_169 rfl ?_
                    refine g_icmp_eq (tgt := 21) X dX10_matches_171 (by decide) (fun c_171 => ?_) (fun c_171 => ?_)
                    · refine GG.lv [0, 1, 2, 3] rfl ?_
                      exact ih_21 (n - 1) (rScan true be h 64) h (by rw [he, if_neg c_24, rMt_stop (hc.resolve_left c_24) c_171, if_pos c_171]) (Or.inl c_171) (by have := hc.resolve_left c_24; omega)
                    · obtain ⟨p, hb, eb, hb1, hb2⟩ := rScan_nI true be h c_171
                      rw [eb]
                      refine g_aload_n X 1 dX10_matches_174 rfl ?_
                      refine g_iload_n X 3 dX10_matches_175 rfl ?_
                      refine g_bipush (v := (nI 8)) X dX10_matches_176 rfl ?_
                      refine g_idivN X (by omega) (by omega) (by omega) dX10_matches_178 ?_
                      refine g_iload_n X 3 dX10_matches_179 rfl ?_
                      refine g_bipush (v := (nI 8)) X dX10_matches_180 rfl ?_
                      refine g_iremN X (by omega) (by omega) (by omega) dX10_matches_182 ?_
                      refine g_iast (ws' := [wMd E a s, wAr E (a 15) 64 be, wAr E (a 18) 16 (upd h (p / 8) (nI (p % 8)))].flatten) X 2 rfl (p / 8) (ix_nI (by omega) (by decide)) rfl dX10_matches_183 ?_
                      refine g_aload_n X 1 dX10_matches_184 rfl ?_
                      refine g_bipush (v := (nI 8)) X dX10_matches_185 rfl ?_
                      refine g_iload_n X 3 dX10_matches_187 rfl ?_
                      refine g_bipush (v := (nI 8)) X dX10_matches_188 rfl ?_
                      refine g_iremN X (by omega) (by omega) (by omega) dX10_matches_190 ?_
                      refine g_iaddN X dX10_matches_191 ?_
                      refine g_iload_n X 3 dX10_matches_192 rfl ?_
                      refine g_bipush (v := (nI 8)) X dX10_matches_193 rfl ?_
                      refine g_idivN X (by omega) (by omega) (by omega) dX10_matches_195 ?_
                      refine g_iast (ws' := [wMd E a s, wAr E (a 15) 64 be, wAr E (a 18) 16 (upd (upd h (p / 8) (nI (p % 8))) (8 + (p % 8)) (nI (p / 8)))].flatten) X 2 rfl (8 + (p % 8)) (ix_nI (by omega) (by decide)) rfl dX10_matches_196 ?_
                      refine g_goto (tgt := 21) X dX10_matches_197 (by decide) ?_
                      refine GG.lv [0, 1, 2, 3] rfl ?_
                      exact ih_21 (n - 1) (nI p) (upd (upd h (p / 8) (nI (p % 8))) (8 + (p % 8)) (nI (p / 8))) (by rw [he, if_neg c_24, rMt_go (hc.resolve_left c_24) eb hb, if_neg (nI_ne_m4 (show p < 2 ^ 31 by omega))]; rfl) (Or.inr (by have := frN_nx hb hb1; have := hc.resolve_left c_24; show frN (rNx1 h p) < n - 1; omega)) (by have := hc.resolve_left c_24; omega)
                  · have f_c_37 : k < 64 := n_nle (by omega) (by omega) c_37
                    have fn_c_37 := Nat.not_le.mpr f_c_37
                    refine g_iload_n X 2 dX10_matches_40 rfl ?_
                    refine g_if_eq (tgt := 52) X dX10_matches_41 (by decide) (fun c_41 => absurd c_41 (by decide)) (fun c_41 => ?_)
                    refine g_iload X 4 dX10_matches_44 rfl ?_
                    refine g_bipush (v := (nI 8)) X dX10_matches_46 rfl ?_
                    refine g_iremN X (by omega) (by omega) (by omega) dX10_matches_48 ?_
                    refine g_goto (tgt := 57) X dX10_matches_49 (by decide) ?_
                    refine g_istore (lv' := [(5, .int (nI (k % 8))), (0, .ref (a 0)), (1, .ref (a 18)), (2, .int (nI 1)), (3, .int (rScan true be h k)), (4, .int (nI k))]) X dX10_matches_57 (by decide) rfl ?_
                    refine g_iload_n X 3 dX10_matches_59 rfl ?_
                    refine g_if_eq (tgt := 71) X dX10_matches_60 (by decide) (fun c_60 => absurd c_60 (by decide)) (fun c_60 => ?_)
                    refine g_iload X 5 dX10_matches_63 rfl ?_
                    refine g_bipush (v := (nI 8)) X dX10_matches_65 rfl ?_
                    refine g_idivN X (by omega) (by omega) (by omega) dX10_matches_67 ?_
                    refine g_goto (tgt := 76) X dX10_matches_68 (by decide) ?_
                    refine g_istore (lv' := [(6, .int (nI (k / 8))), (5, .int (nI (k % 8))), (0, .ref (a 0)), (1, .ref (a 18)), (2, .int (nI 1)), (3, .int (rScan true be h k)), (4, .int (nI k))]) X dX10_matches_76 (by decide) rfl ?_
                    refine g_bipush (v := (nI 8)) X dX10_matches_78 rfl ?_
                    refine g_iload X 1 dX10_matches_80 rfl ?_
                    refine g_imulN X dX10_matches_82 ?_
                    refine g_iload X 0 dX10_matches_83 rfl ?_
                    refine g_iaddN X dX10_matches_85 ?_
                    refine g_istore (lv' := [(7, .int (nI ((8 * (k % 8)) + (k / 8)))), (6, .int (nI (k / 8))), (5, .int (nI (k % 8))), (0, .ref (a 0)), (1, .ref (a 18)), (2, .int (nI 1)), (3, .int (rScan true be h k)), (4, .int (nI k))]) X dX10_matches_86 (by decide) rfl ?_
                    refine g_aload_n X 3 dX10_matches_88 rfl ?_
                    refine g_getf (v := .ref (a 15)) X fs_X10_50 0 rfl rfl dX10_matches_89 ?_
                    refine g_iload X 0 dX10_matches_92 rfl ?_
                    refine g_iald X 1 rfl ((8 * (k % 8)) + (k / 8)) (ix_nI (by omega) (by decide)) dX10_matches_94 ?_
                    refine g_bipush (v := (-4)) X dX10_matches_95 rfl ?_
                    refine g_icmp_eq (tgt := 125) X dX10_matches_97 (by decide) (fun c_97 => ?_) (fun c_97 => ?_)
                    · refine g_iconst (v := (nI 0)) X dX10_matches_125 rfl ?_
                      refine g_istore (lv' := [(8, .int (nI 0)), (7, .int (nI ((8 * (k % 8)) + (k / 8)))), (6, .int (nI (k / 8))), (5, .int (nI (k % 8))), (0, .ref (a 0)), (1, .ref (a 18)), (2, .int (nI 1)), (3, .int (rScan true be h k)), (4, .int (nI k))]) X dX10_matches_126 (by decide) rfl ?_
                      refine g_iload X 0 dX10_matches_128 rfl ?_
                      refine g_if_eq (tgt := 160) X dX10_matches_130 (by decide) (fun c_130 => ?_) (fun c_130 => absurd c_130 (by decide))
                      refine g_iload_n X 7 dX10_matches_160 rfl ?_
                      refine g_istore_n (lv' := [(3, .int (rScan true be h k)), (8, .int (nI 0)), (7, .int (nI ((8 * (k % 8)) + (k / 8)))), (6, .int (nI (k / 8))), (5, .int (nI (k % 8))), (0, .ref (a 0)), (1, .ref (a 18)), (2, .int (nI 1)), (4, .int (nI k))]) X dX10_matches_161 (by decide) rfl ?_
                      refine g_iincN (lv' := [(4, .int (nI (k + 1))), (3, .int (rScan true be h k)), (8, .int (nI 0)), (7, .int (nI ((8 * (k % 8)) + (k / 8)))), (6, .int (nI (k / 8))), (5, .int (nI (k % 8))), (0, .ref (a 0)), (1, .ref (a 18)), (2, .int (nI 1))]) X 8 dX10_matches_162 rfl (by decide) rfl ?_
                      refine g_goto (tgt := 33) X dX10_matches_165 (by decide) ?_
                      refine GG.lv [6, 7, 8, 1, 0] rfl ?_
                      exact ih_33 (k + 1) (by omega) (by omega) (rScan true be h k) (by show _ = rbst true be h k (rScan true be h k); simp only [rbst, rbA, rbI, rbJ, c_5, f_c_5, fn_c_5, c_24, c_37, f_c_37, fn_c_37, c_97, decide_true, decide_false, not_true_eq_false, not_false_eq_true, Bool.true_and, Bool.false_and, Bool.and_true, Bool.and_false, Bool.true_or, Bool.false_or, Bool.or_true, Bool.or_false, and_true, true_and, and_false, false_and, or_true, true_or, or_false, false_or, if_true, if_false, Bool.false_eq_true, decide_eq_true_eq]) (nI (k + 1)) (by rfl)
                    · refine g_aload_n X 4 dX10_matches_100 rfl ?_
                      refine g_iload X 2 dX10_matches_101 rfl ?_
                      refine g_iald X 2 rfl (k % 8) (ix_nI (by omega) (by decide)) dX10_matches_103 ?_
                      refine g_bipush (v := (-4)) X dX10_matches_104 rfl ?_
                      refine g_icmp_ne (tgt := 125) X dX10_matches_106 (by decide) (fun c_106 => ?_) (fun c_106 => ?_)
                      · refine g_iconst (v := (nI 0)) X dX10_matches_125 rfl ?_
                        refine g_istore (lv' := [(8, .int (nI 0)), (7, .int (nI ((8 * (k % 8)) + (k / 8)))), (6, .int (nI (k / 8))), (5, .int (nI (k % 8))), (0, .ref (a 0)), (1, .ref (a 18)), (2, .int (nI 1)), (3, .int (rScan true be h k)), (4, .int (nI k))]) X dX10_matches_126 (by decide) rfl ?_
                        refine g_iload X 0 dX10_matches_128 rfl ?_
                        refine g_if_eq (tgt := 160) X dX10_matches_130 (by decide) (fun c_130 => ?_) (fun c_130 => absurd c_130 (by decide))
                        refine g_iload_n X 7 dX10_matches_160 rfl ?_
                        refine g_istore_n (lv' := [(3, .int (rScan true be h k)), (8, .int (nI 0)), (7, .int (nI ((8 * (k % 8)) + (k / 8)))), (6, .int (nI (k / 8))), (5, .int (nI (k % 8))), (0, .ref (a 0)), (1, .ref (a 18)), (2, .int (nI 1)), (4, .int (nI k))]) X dX10_matches_161 (by decide) rfl ?_
                        refine g_iincN (lv' := [(4, .int (nI (k + 1))), (3, .int (rScan true be h k)), (8, .int (nI 0)), (7, .int (nI ((8 * (k % 8)) + (k / 8)))), (6, .int (nI (k / 8))), (5, .int (nI (k % 8))), (0, .ref (a 0)), (1, .ref (a 18)), (2, .int (nI 1))]) X 8 dX10_matches_162 rfl (by decide) rfl ?_
                        refine g_goto (tgt := 33) X dX10_matches_165 (by decide) ?_
                        refine GG.lv [6, 7, 8, 1, 0] rfl ?_
                        exact ih_33 (k + 1) (by omega) (by omega) (rScan true be h k) (by show _ = rbst true be h k (rScan true be h k); simp only [rbst, rbA, rbI, rbJ, c_5, f_c_5, fn_c_5, c_24, c_37, f_c_37, fn_c_37, c_97, c_106, decide_true, decide_false, not_true_eq_false, not_false_eq_true, Bool.true_and, Bool.false_and, Bool.and_true, Bool.and_false, Bool.true_or, Bool.false_or, Bool.or_true, Bool.or_false, and_true, true_and, and_false, false_and, or_true, true_or, or_false, false_or, if_true, if_false, Bool.false_eq_true, decide_eq_true_eq]) (nI (k + 1)) (by rfl)
                      · refine g_aload_n X 4 dX10_matches_109 rfl ?_
                        refine g_bipush (v := (nI 8)) X dX10_matches_110 rfl ?_
                        refine g_iload X 1 dX10_matches_112 rfl ?_
                        refine g_iaddN X dX10_matches_114 ?_
                        refine g_iald X 2 rfl (8 + (k / 8)) (ix_nI (by omega) (by decide)) dX10_matches_115 ?_
                        refine g_bipush (v := (-4)) X dX10_matches_116 rfl ?_
                        refine g_icmp_ne (tgt := 125) X dX10_matches_118 (by decide) (fun c_118 => ?_) (fun c_118 => ?_)
                        · refine g_iconst (v := (nI 0)) X dX10_matches_125 rfl ?_
                          refine g_istore (lv' := [(8, .int (nI 0)), (7, .int (nI ((8 * (k % 8)) + (k / 8)))), (6, .int (nI (k / 8))), (5, .int (nI (k % 8))), (0, .ref (a 0)), (1, .ref (a 18)), (2, .int (nI 1)), (3, .int (rScan true be h k)), (4, .int (nI k))]) X dX10_matches_126 (by decide) rfl ?_
                          refine g_iload X 0 dX10_matches_128 rfl ?_
                          refine g_if_eq (tgt := 160) X dX10_matches_130 (by decide) (fun c_130 => ?_) (fun c_130 => absurd c_130 (by decide))
                          refine g_iload_n X 7 dX10_matches_160 rfl ?_
                          refine g_istore_n (lv' := [(3, .int (rScan true be h k)), (8, .int (nI 0)), (7, .int (nI ((8 * (k % 8)) + (k / 8)))), (6, .int (nI (k / 8))), (5, .int (nI (k % 8))), (0, .ref (a 0)), (1, .ref (a 18)), (2, .int (nI 1)), (4, .int (nI k))]) X dX10_matches_161 (by decide) rfl ?_
                          refine g_iincN (lv' := [(4, .int (nI (k + 1))), (3, .int (rScan true be h k)), (8, .int (nI 0)), (7, .int (nI ((8 * (k % 8)) + (k / 8)))), (6, .int (nI (k / 8))), (5, .int (nI (k % 8))), (0, .ref (a 0)), (1, .ref (a 18)), (2, .int (nI 1))]) X 8 dX10_matches_162 rfl (by decide) rfl ?_
                          refine g_goto (tgt := 33) X dX10_matches_165 (by decide) ?_
                          refine GG.lv [6, 7, 8, 1, 0] rfl ?_
                          exact ih_33 (k + 1) (by omega) (by omega) (rScan true be h k) (by show _ = rbst true be h k (rScan true be h k); simp only [rbst, rbA, rbI, rbJ, c_5, f_c_5, fn_c_5, c_24, c_37, f_c_37, fn_c_37, c_97, c_106, c_118, decide_true, decide_false, not_true_eq_false, not_false_eq_true, Bool.true_and, Bool.false_and, Bool.and_true, Bool.and_false, Bool.true_or, Bool.false_or, Bool.or_true, Bool.or_false, and_true, true_and, and_false, false_and, or_true, true_or, or_false, false_or, if_true, if_false, Bool.false_eq_true, decide_eq_true_eq]) (nI (k + 1)) (by rfl)
                        · refine g_iconst (v := (nI 1)) X dX10_matches_121 rfl ?_
                          refine g_goto (tgt := 126) X dX10_matches_122 (by decide) ?_
                          refine g_istore (lv' := [(8, .int (nI 1)), (7, .int (nI ((8 * (k % 8)) + (k / 8)))), (6, .int (nI (k / 8))), (5, .int (nI (k % 8))), (0, .ref (a 0)), (1, .ref (a 18)), (2, .int (nI 1)), (3, .int (rScan true be h k)), (4, .int (nI k))]) X dX10_matches_126 (by decide) rfl ?_
                          refine g_iload X 0 dX10_matches_128 rfl ?_
                          refine g_if_eq (tgt := 160) X dX10_matches_130 (by decide) (fun c_130 => absurd c_130 (by decide)) (fun c_130 => ?_)
                          refine g_iload_n X 7 dX10_matches_133 rfl ?_
                          refine g_bipush (v := (-4)) X dX10_matches_134 rfl ?_
                          refine g_icmp_eq (tgt := 155) X dX10_matches_136 (by decide) (fun c_136 => ?_) (fun c_136 => ?_)
                          · refine g_iload X 1 dX10_matches_155 rfl ?_
                            refine g_goto (tgt := 161) X dX10_matches_157 (by decide) ?_
                            refine g_istore_n (lv' := [(3, .int (nI ((8 * (k % 8)) + (k / 8)))), (8, .int (nI 1)), (7, .int (nI ((8 * (k % 8)) + (k / 8)))), (6, .int (nI (k / 8))), (5, .int (nI (k % 8))), (0, .ref (a 0)), (1, .ref (a 18)), (2, .int (nI 1)), (4, .int (nI k))]) X dX10_matches_161 (by decide) rfl ?_
                            refine g_iincN (lv' := [(4, .int (nI (k + 1))), (3, .int (nI ((8 * (k % 8)) + (k / 8)))), (8, .int (nI 1)), (7, .int (nI ((8 * (k % 8)) + (k / 8)))), (6, .int (nI (k / 8))), (5, .int (nI (k % 8))), (0, .ref (a 0)), (1, .ref (a 18)), (2, .int (nI 1))]) X 8 dX10_matches_162 rfl (by decide) rfl ?_
                            refine g_goto (tgt := 33) X dX10_matches_165 (by decide) ?_
                            refine GG.lv [6, 7, 8, 1, 0] rfl ?_
                            exact ih_33 (k + 1) (by omega) (by omega) (nI ((8 * (k % 8)) + (k / 8))) (by show _ = rbst true be h k (rScan true be h k); simp only [rbst, rbA, rbI, rbJ, c_5, f_c_5, fn_c_5, c_24, c_37, f_c_37, fn_c_37, c_97, c_106, c_118, c_136, decide_true, decide_false, not_true_eq_false, not_false_eq_true, Bool.true_and, Bool.false_and, Bool.and_true, Bool.and_false, Bool.true_or, Bool.false_or, Bool.or_true, Bool.or_false, and_true, true_and, and_false, false_and, or_true, true_or, or_false, false_or, if_true, if_false, Bool.false_eq_true, decide_eq_true_eq]) (nI (k + 1)) (by rfl)
                          · refine g_aload_n X 4 dX10_matches_139 rfl ?_
                            refine g_getf (v := .ref (a 15)) X fs_X10_50 0 rfl rfl dX10_matches_140 ?_
                            refine g_iload X 1 dX10_matches_143 rfl ?_
                            refine g_iald X 1 rfl ((8 * (k % 8)) + (k / 8)) (ix_nI (by omega) (by decide)) dX10_matches_145 ?_
                            refine g_aload_n X 4 dX10_matches_146 rfl ?_
                            refine g_getf (v := .ref (a 15)) X fs_X10_50 0 rfl rfl dX10_matches_147 ?_
                            refine g_iload_n X 7 dX10_matches_150 rfl ?_
                            refine g_iald X 1 rfl ((rScan true be h k).toNatClampNeg) (rScan_ix true be h (by omega) (by assumption)) dX10_matches_151 ?_
                            refine g_icmp_le (tgt := 160) X dX10_matches_152 (by decide) (fun c_152 => ?_) (fun c_152 => ?_)
                            · refine g_iload_n X 7 dX10_matches_160 rfl ?_
                              refine g_istore_n (lv' := [(3, .int (rScan true be h k)), (8, .int (nI 1)), (7, .int (nI ((8 * (k % 8)) + (k / 8)))), (6, .int (nI (k / 8))), (5, .int (nI (k % 8))), (0, .ref (a 0)), (1, .ref (a 18)), (2, .int (nI 1)), (4, .int (nI k))]) X dX10_matches_161 (by decide) rfl ?_
                              refine g_iincN (lv' := [(4, .int (nI (k + 1))), (3, .int (rScan true be h k)), (8, .int (nI 1)), (7, .int (nI ((8 * (k % 8)) + (k / 8)))), (6, .int (nI (k / 8))), (5, .int (nI (k % 8))), (0, .ref (a 0)), (1, .ref (a 18)), (2, .int (nI 1))]) X 8 dX10_matches_162 rfl (by decide) rfl ?_
                              refine g_goto (tgt := 33) X dX10_matches_165 (by decide) ?_
                              refine GG.lv [6, 7, 8, 1, 0] rfl ?_
                              exact ih_33 (k + 1) (by omega) (by omega) (rScan true be h k) (by show _ = rbst true be h k (rScan true be h k); simp only [rbst, rbA, rbI, rbJ, c_5, f_c_5, fn_c_5, c_24, c_37, f_c_37, fn_c_37, c_97, c_106, c_118, c_136, c_152, decide_true, decide_false, not_true_eq_false, not_false_eq_true, Bool.true_and, Bool.false_and, Bool.and_true, Bool.and_false, Bool.true_or, Bool.false_or, Bool.or_true, Bool.or_false, and_true, true_and, and_false, false_and, or_true, true_or, or_false, false_or, if_true, if_false, Bool.false_eq_true, decide_eq_true_eq]) (nI (k + 1)) (by rfl)
                            · refine g_iload X 1 dX10_matches_155 rfl ?_
                              refine g_goto (tgt := 161) X dX10_matches_157 (by decide) ?_
                              refine g_istore_n (lv' := [(3, .int (nI ((8 * (k % 8)) + (k / 8)))), (8, .int (nI 1)), (7, .int (nI ((8 * (k % 8)) + (k / 8)))), (6, .int (nI (k / 8))), (5, .int (nI (k % 8))), (0, .ref (a 0)), (1, .ref (a 18)), (2, .int (nI 1)), (4, .int (nI k))]) X dX10_matches_161 (by decide) rfl ?_
                              refine g_iincN (lv' := [(4, .int (nI (k + 1))), (3, .int (nI ((8 * (k % 8)) + (k / 8)))), (8, .int (nI 1)), (7, .int (nI ((8 * (k % 8)) + (k / 8)))), (6, .int (nI (k / 8))), (5, .int (nI (k % 8))), (0, .ref (a 0)), (1, .ref (a 18)), (2, .int (nI 1))]) X 8 dX10_matches_162 rfl (by decide) rfl ?_
                              refine g_goto (tgt := 33) X dX10_matches_165 (by decide) ?_
                              refine GG.lv [6, 7, 8, 1, 0] rfl ?_
                              exact ih_33 (k + 1) (by omega) (by omega) (nI ((8 * (k % 8)) + (k / 8))) (by show _ = rbst true be h k (rScan true be h k); simp only [rbst, rbA, rbI, rbJ, c_5, f_c_5, fn_c_5, c_24, c_37, f_c_37, fn_c_37, c_97, c_106, c_118, c_136, c_152, decide_true, decide_false, not_true_eq_false, not_false_eq_true, Bool.true_and, Bool.false_and, Bool.and_true, Bool.and_false, Bool.true_or, Bool.false_or, Bool.or_true, Bool.or_false, and_true, true_and, and_false, false_and, or_true, true_or, or_false, false_or, if_true, if_false, Bool.false_eq_true, decide_eq_true_eq]) (nI (k + 1)) (by rfl)
              refine GG.lv [2, 3, 4, 1, 0] rfl ?_
              exact L_33 (65) 0 (by omega) (by omega) (-4) (by rfl) (nI 0) (by rfl)
        refine GG.lv [1, 2, 3, 0] rfl ?_
        exact L_21 (10) 9 (nI 0) (clrF f 16) (if_neg (by decide)).symm (Or.inr (Nat.lt_succ_of_le (cntB_le _ 8))) (by omega)
      · have f_c_5 : k < 16 := n_nle (by omega) (by omega) c_5
        have fn_c_5 := Nat.not_le.mpr f_c_5
        refine g_aload_n X 1 dX10_matches_8 rfl ?_
        refine g_iload_n X 3 dX10_matches_9 rfl ?_
        refine g_bipush (v := (-4)) X dX10_matches_10 rfl ?_
        refine g_iast (ws' := [wMd E a s, wAr E (a 15) 64 be, wAr E (a 18) 16 (upd (clrF f k) k (-4))].flatten) X 2 rfl k (ix_nI (by omega) (by decide)) rfl dX10_matches_12 ?_
        refine g_iincN (lv' := [(3, .int (nI (k + 1))), (0, .ref (a 0)), (1, .ref (a 18)), (2, .int (nI 1))]) X 3 dX10_matches_13 rfl (by decide) rfl ?_
        refine g_goto (tgt := 2) X dX10_matches_16 (by decide) ?_
        refine GG.lv [1, 2, 3, 0] rfl ?_
        exact ih_2 (k + 1) (by omega) (by omega) (nI (k + 1)) (by rfl) (upd (clrF f k) k (-4)) (by exact clrF_s _ _)
  refine GG.lv [1, 2, 3, 0] rfl ?_
  exact L_2 (17) 0 (by omega) (by omega) (nI 0) (by rfl) f (by exact (clrF_0 _).symm)
set_option maxHeartbeats 4000000 in
set_option maxRecDepth 100000 in
theorem c_X10_setMatches (E : GE) (a : Nat → Nat) (s : MD0) (mm : Nat → Nat) (ss : Nat → Nat) (kd : Nat → Int32) (xo : Nat → Int32) (yo : Nat → Int32) (fr : Nat → Int32) (tt : Nat → Int32) (be : Nat → Int32) (nx : Nat → Int32) (mt : Nat → Int32) (hmm : ∀ g, g < 2 → mm g ≤ 8) (hss : ∀ g, g < 2 → ss g ≤ 8) (hE : okE ss fr tt) (hN : dN0 s ≤ 3) : CT E m_X10_setMatches [.ref (a 0)] ([wMd E a s, wAn E (a 2) 2 mm, wAn E (a 3) 2 ss, wAr E (a 4) 16 kd, wAr E (a 5) 16 xo, wAr E (a 6) 16 yo, wAr E (a 7) 16 fr, wAr E (a 8) 16 tt, wAr E (a 15) 64 be, wAr E (a 16) 64 nx, wAr E (a 17) 16 mt].flatten) none ([wMd E a s, wAn E (a 2) 2 mm, wAn E (a 3) 2 ss, wAr E (a 4) 16 kd, wAr E (a 5) 16 xo, wAr E (a 6) 16 yo, wAr E (a 7) 16 fr, wAr E (a 8) 16 tt, wAr E (a 15) 64 ((rBelAll (dR s) (dN0 s) mm ss kd xo yo fr tt (be, nx)).1), wAr E (a 16) 64 ((rBelAll (dR s) (dN0 s) mm ss kd xo yo fr tt (be, nx)).2), wAr E (a 17) 16 (rMts false (rBelAll (dR s) (dN0 s) mm ss kd xo yo fr tt (be, nx)).1 mt)].flatten) := by
  refine CT.intro (by decide +kernel) (Nat.le_of_ble_eq_true rfl) (fun Γ X hx => ?_)
  refine GG.lv [0] (lv' := [(0, .ref (a 0))]) rfl ?_
  refine g_aload_n X 0 dX10_setMatches_0 rfl ?_
  refine g_callV (st2 := []) (S' := [wMd E a s, wAn E (a 2) 2 mm, wAn E (a 3) 2 ss, wAr E (a 4) 16 kd, wAr E (a 5) 16 xo, wAr E (a 6) 16 yo, wAr E (a 7) 16 fr, wAr E (a 8) 16 tt, wAr E (a 15) 64 ((rBelAll (dR s) (dN0 s) mm ss kd xo yo fr tt (be, nx)).1), wAr E (a 16) 64 ((rBelAll (dR s) (dN0 s) mm ss kd xo yo fr tt (be, nx)).2), wAr E (a 17) 16 mt]) (q0 := 0) X (c_X10_setBelief E a s mm ss kd xo yo fr tt be nx (by first | assumption | omega) (by first | assumption | omega) (by first | assumption | omega) (by first | assumption | omega)) cs_X10_149 rfl [0, 1, 2, 3, 4, 5, 6, 7, 8, 9] [10] 11 rfl rfl (by decide) [wAr E (a 17) 16 mt] rfl rfl rfl rfl (by simp only [List.map_cons, List.map_nil, fsAn, fsAr, fsMd]) rfl rfl rfl rfl (Nat.le_of_ble_eq_true rfl) dX10_setMatches_1 rfl ?_
  refine g_aload_n X 0 dX10_setMatches_4 rfl ?_
  refine g_aload_n X 0 dX10_setMatches_5 rfl ?_
  refine g_getf (v := .ref (a 17)) X fs_X10_56 0 rfl rfl dX10_setMatches_6 ?_
  refine g_iconst (v := (nI 0)) X dX10_setMatches_9 rfl ?_
  refine g_callV (st2 := []) (S' := [wMd E a s, wAn E (a 2) 2 mm, wAn E (a 3) 2 ss, wAr E (a 4) 16 kd, wAr E (a 5) 16 xo, wAr E (a 6) 16 yo, wAr E (a 7) 16 fr, wAr E (a 8) 16 tt, wAr E (a 15) 64 ((rBelAll (dR s) (dN0 s) mm ss kd xo yo fr tt (be, nx)).1), wAr E (a 16) 64 ((rBelAll (dR s) (dN0 s) mm ss kd xo yo fr tt (be, nx)).2), wAr E (a 17) 16 (rMts false ((rBelAll (dR s) (dN0 s) mm ss kd xo yo fr tt (be, nx)).1) mt)]) (q0 := 0) X (c_X10_matches_0 E a s ((rBelAll (dR s) (dN0 s) mm ss kd xo yo fr tt (be, nx)).1) mt) cs_X10_152 rfl [0, 8, 10] [1, 2, 3, 4, 5, 6, 7, 9] 11 rfl rfl (by decide) [wAn E (a 2) 2 mm, wAn E (a 3) 2 ss, wAr E (a 4) 16 kd, wAr E (a 5) 16 xo, wAr E (a 6) 16 yo, wAr E (a 7) 16 fr, wAr E (a 8) 16 tt, wAr E (a 16) 64 ((rBelAll (dR s) (dN0 s) mm ss kd xo yo fr tt (be, nx)).2)] rfl rfl rfl rfl (by simp only [List.map_cons, List.map_nil, fsAn, fsAr, fsMd]) rfl rfl rfl rfl (Nat.le_of_ble_eq_true rfl) dX10_setMatches_10 rfl ?_
  exact g_vret X hx rfl rfl (by rfl) dX10_setMatches_13
set_option maxHeartbeats 4000000 in
set_option maxRecDepth 100000 in
theorem c_X10_match (E : GE) (a : Nat → Nat) (s : MD0) (mm : Nat → Nat) (ss : Nat → Nat) (kd : Nat → Int32) (xo : Nat → Int32) (yo : Nat → Int32) (fr : Nat → Int32) (tt : Nat → Int32) (be : Nat → Int32) (nx : Nat → Int32) (mt : Nat → Int32) (z : Int32) (i : Int32) (hmm : ∀ g, g < 2 → mm g ≤ 8) (hss : ∀ g, g < 2 → ss g ≤ 8) (hE : okE ss fr tt) (hN : dN0 s ≤ 3) : CT E m_X10_match [.ref (a 0), .int z, .int i] ([wMd E a s, wAn E (a 2) 2 mm, wAn E (a 3) 2 ss, wAr E (a 4) 16 kd, wAr E (a 5) 16 xo, wAr E (a 6) 16 yo, wAr E (a 7) 16 fr, wAr E (a 8) 16 tt, wAr E (a 15) 64 be, wAr E (a 16) 64 nx, wAr E (a 17) 16 mt].flatten) (some (.int (if hasR mm z i then (rMts false (rBelAll (dR s) (dN0 s) mm ss kd xo yo fr tt (be, nx)).1 mt) (rIx z i) else -1))) ([wMd E a s, wAn E (a 2) 2 mm, wAn E (a 3) 2 ss, wAr E (a 4) 16 kd, wAr E (a 5) 16 xo, wAr E (a 6) 16 yo, wAr E (a 7) 16 fr, wAr E (a 8) 16 tt, wAr E (a 15) 64 (if hasR mm z i then (rBelAll (dR s) (dN0 s) mm ss kd xo yo fr tt (be, nx)).1 else be), wAr E (a 16) 64 (if hasR mm z i then (rBelAll (dR s) (dN0 s) mm ss kd xo yo fr tt (be, nx)).2 else nx), wAr E (a 17) 16 (if hasR mm z i then rMts false (rBelAll (dR s) (dN0 s) mm ss kd xo yo fr tt (be, nx)).1 mt else mt)].flatten) := by
  refine CT.intro (by decide +kernel) (Nat.le_of_ble_eq_true rfl) (fun Γ X hx => ?_)
  refine GG.lv [0, 1, 2] (lv' := [(0, .ref (a 0)), (1, .int z), (2, .int i)]) rfl ?_
  have hm0 := hmm 0 (by decide)
  have hm1 := hmm 1 (by decide)
  have hs0 := hss 0 (by decide)
  have hs1 := hss 1 (by decide)
  refine g_aload_n X 0 dX10_match_0 rfl ?_
  refine g_iload_n X 1 dX10_match_1 rfl ?_
  refine g_iload_n X 2 dX10_match_2 rfl ?_
  refine g_callVr (st2 := [.int (b2i (hasR mm z i))]) (q0 := 0) X (c_X10_isMeeting E a s mm z i) cs_X10_92 rfl [0, 1] [2, 3, 4, 5, 6, 7, 8, 9, 10] 11 rfl (by decide) rfl rfl rfl rfl rfl (Nat.le_of_ble_eq_true rfl) dX10_match_3 rfl ?_
  refine g_bif_ne (tgt := 11) X dX10_match_6 (by decide) (fun c_6 => ?_) (fun c_6 => ?_)
  · rcases hasR_or hmm c_6 with ⟨rfl, j, hj, rfl⟩ | ⟨rfl, j, hj, rfl⟩
    · refine g_aload_n X 0 dX10_match_11 rfl ?_
      refine g_callV (st2 := []) (S' := [wMd E a s, wAn E (a 2) 2 mm, wAn E (a 3) 2 ss, wAr E (a 4) 16 kd, wAr E (a 5) 16 xo, wAr E (a 6) 16 yo, wAr E (a 7) 16 fr, wAr E (a 8) 16 tt, wAr E (a 15) 64 ((rBelAll (dR s) (dN0 s) mm ss kd xo yo fr tt (be, nx)).1), wAr E (a 16) 64 ((rBelAll (dR s) (dN0 s) mm ss kd xo yo fr tt (be, nx)).2), wAr E (a 17) 16 (rMts false (rBelAll (dR s) (dN0 s) mm ss kd xo yo fr tt (be, nx)).1 mt)]) (q0 := 0) X (c_X10_setMatches E a s mm ss kd xo yo fr tt be nx mt (by first | assumption | omega) (by first | assumption | omega) (by first | assumption | omega) (by first | assumption | omega)) cs_X10_156 rfl [0, 1, 2, 3, 4, 5, 6, 7, 8, 9, 10] [] 11 rfl rfl (by decide) [] rfl rfl rfl rfl (by simp only [List.map_cons, List.map_nil, fsAn, fsAr, fsMd]) rfl rfl rfl rfl (Nat.le_of_ble_eq_true rfl) dX10_match_12 rfl ?_
      refine g_aload_n X 0 dX10_match_15 rfl ?_
      refine g_getf (v := .ref (a 17)) X fs_X10_56 0 rfl rfl dX10_match_16 ?_
      refine g_bipush (v := (nI 8)) X dX10_match_19 rfl ?_
      refine g_iload_n X 1 dX10_match_21 rfl ?_
      refine g_imulN X dX10_match_22 ?_
      refine g_iload_n X 2 dX10_match_23 rfl ?_
      refine g_iaddN X dX10_match_24 ?_
      rw [show 8 * 0 + j = j from Nat.zero_add _]
      refine g_iald X 10 rfl j (ix_nI (by omega) (by decide)) dX10_match_25 ?_
      exact g_iretv (r := ((rMts false (rBelAll (dR s) (dN0 s) mm ss kd xo yo fr tt (be, nx)).1 mt) j)) X hx rfl (by simp only [c_6, rIx, nI_clamp (show 0 < 2 ^ 31 by decide), nI_clamp (show 1 < 2 ^ 31 by decide), nI_clamp (show j < 2 ^ 31 by omega), Nat.mul_zero, Nat.zero_add, decide_true, decide_false, not_true_eq_false, not_false_eq_true, Bool.true_and, Bool.false_and, Bool.and_true, Bool.and_false, Bool.true_or, Bool.false_or, Bool.or_true, Bool.or_false, and_true, true_and, and_false, false_and, or_true, true_or, or_false, false_or, if_true, if_false, Bool.false_eq_true, decide_eq_true_eq]) (by simp only [c_6, decide_true, decide_false, not_true_eq_false, not_false_eq_true, Bool.true_and, Bool.false_and, Bool.and_true, Bool.and_false, Bool.true_or, Bool.false_or, Bool.or_true, Bool.or_false, and_true, true_and, and_false, false_and, or_true, true_or, or_false, false_or, if_true, if_false, Bool.false_eq_true, decide_eq_true_eq]) dX10_match_26
    · refine g_aload_n X 0 dX10_match_11 rfl ?_
      refine g_callV (st2 := []) (S' := [wMd E a s, wAn E (a 2) 2 mm, wAn E (a 3) 2 ss, wAr E (a 4) 16 kd, wAr E (a 5) 16 xo, wAr E (a 6) 16 yo, wAr E (a 7) 16 fr, wAr E (a 8) 16 tt, wAr E (a 15) 64 ((rBelAll (dR s) (dN0 s) mm ss kd xo yo fr tt (be, nx)).1), wAr E (a 16) 64 ((rBelAll (dR s) (dN0 s) mm ss kd xo yo fr tt (be, nx)).2), wAr E (a 17) 16 (rMts false (rBelAll (dR s) (dN0 s) mm ss kd xo yo fr tt (be, nx)).1 mt)]) (q0 := 0) X (c_X10_setMatches E a s mm ss kd xo yo fr tt be nx mt (by first | assumption | omega) (by first | assumption | omega) (by first | assumption | omega) (by first | assumption | omega)) cs_X10_156 rfl [0, 1, 2, 3, 4, 5, 6, 7, 8, 9, 10] [] 11 rfl rfl (by decide) [] rfl rfl rfl rfl (by simp only [List.map_cons, List.map_nil, fsAn, fsAr, fsMd]) rfl rfl rfl rfl (Nat.le_of_ble_eq_true rfl) dX10_match_12 rfl ?_
      refine g_aload_n X 0 dX10_match_15 rfl ?_
      refine g_getf (v := .ref (a 17)) X fs_X10_56 0 rfl rfl dX10_match_16 ?_
      refine g_bipush (v := (nI 8)) X dX10_match_19 rfl ?_
      refine g_iload_n X 1 dX10_match_21 rfl ?_
      refine g_imulN X dX10_match_22 ?_
      refine g_iload_n X 2 dX10_match_23 rfl ?_
      refine g_iaddN X dX10_match_24 ?_
      refine g_iald X 10 rfl (8 + j) (ix_nI (by omega) (by decide)) dX10_match_25 ?_
      exact g_iretv (r := ((rMts false (rBelAll (dR s) (dN0 s) mm ss kd xo yo fr tt (be, nx)).1 mt) (8 + j))) X hx rfl (by simp only [c_6, rIx, nI_clamp (show 0 < 2 ^ 31 by decide), nI_clamp (show 1 < 2 ^ 31 by decide), nI_clamp (show j < 2 ^ 31 by omega), Nat.mul_zero, Nat.zero_add, decide_true, decide_false, not_true_eq_false, not_false_eq_true, Bool.true_and, Bool.false_and, Bool.and_true, Bool.and_false, Bool.true_or, Bool.false_or, Bool.or_true, Bool.or_false, and_true, true_and, and_false, false_and, or_true, true_or, or_false, false_or, if_true, if_false, Bool.false_eq_true, decide_eq_true_eq]) (by simp only [c_6, decide_true, decide_false, not_true_eq_false, not_false_eq_true, Bool.true_and, Bool.false_and, Bool.and_true, Bool.and_false, Bool.true_or, Bool.false_or, Bool.or_true, Bool.or_false, and_true, true_and, and_false, false_and, or_true, true_or, or_false, false_or, if_true, if_false, Bool.false_eq_true, decide_eq_true_eq]) dX10_match_26
  · refine g_iconst (v := (-1)) X dX10_match_9 rfl ?_
    exact g_iretv (r := (-1)) X hx rfl (by simp only [c_6, decide_true, decide_false, not_true_eq_false, not_false_eq_true, Bool.true_and, Bool.false_and, Bool.and_true, Bool.and_false, Bool.true_or, Bool.false_or, Bool.or_true, Bool.or_false, and_true, true_and, and_false, false_and, or_true, true_or, or_false, false_or, if_true, if_false, Bool.false_eq_true, decide_eq_true_eq]) (by simp only [c_6, decide_true, decide_false, not_true_eq_false, not_false_eq_true, Bool.true_and, Bool.false_and, Bool.and_true, Bool.and_false, Bool.true_or, Bool.false_or, Bool.or_true, Bool.or_false, and_true, true_and, and_false, false_and, or_true, true_or, or_false, false_or, if_true, if_false, Bool.false_eq_true, decide_eq_true_eq]) dX10_match_10
