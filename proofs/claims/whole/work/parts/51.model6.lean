set_option maxHeartbeats 4000000 in
set_option maxRecDepth 100000 in
theorem c_X10_goes (E : GE) (a : Nat → Nat) (s : MD0) (pa : Nat → Int32) (n : Nat) (x : Int32) (y : Int32) (z : Int32) (w : Int32) (hP : dP s ≤ 3) : CT E m_X10_goes [.ref (a 0), .int (nI n), .int x, .int y, .int z, .int w] ([wMd E a s, wAr E (a 20) 4 pa].flatten) none ([wMd E a (dR s, dN0 s, dU s, dK s, if dP s = 0 then n else dP s, dX s, dY s, dS s, dA s, dQ s), wAr E (a 20) 4 (if dP s = 0 then upd (upd (upd (upd pa 0 x) 1 y) 2 z) 3 w else pa)].flatten) := by
  refine CT.intro (by decide +kernel) (Nat.le_of_ble_eq_true rfl) (fun Γ X hx => ?_)
  refine GG.lv [0, 1, 2, 3, 4, 5] (lv' := [(0, .ref (a 0)), (1, .int (nI n)), (2, .int x), (3, .int y), (4, .int z), (5, .int w)]) rfl ?_
  refine g_aload_n X 0 dX10_goes_0 rfl ?_
  refine g_getf (v := .int (nI (dP s))) X fs_X10_159 0 rfl rfl dX10_goes_1 ?_
  refine g_if_ne (tgt := 42) X dX10_goes_4 (by decide) (fun c_4 => ?_) (fun c_4 => ?_)
  · have f_c_4 : ¬ dP s = 0 := n_ne (by omega) (by omega) c_4
    exact g_vret X hx rfl rfl (by simp only [c_4, f_c_4, decide_true, decide_false, not_true_eq_false, not_false_eq_true, Bool.true_and, Bool.false_and, Bool.and_true, Bool.and_false, Bool.true_or, Bool.false_or, Bool.or_true, Bool.or_false, and_true, true_and, and_false, false_and, or_true, true_or, or_false, false_or, if_true, if_false, Bool.false_eq_true, decide_eq_true_eq]) dX10_goes_42
  · have f_c_4 : dP s = 0 := n_eq (by omega) (by omega) c_4
    refine g_aload_n X 0 dX10_goes_7 rfl ?_
    refine g_iload_n X 1 dX10_goes_8 rfl ?_
    refine g_putf (ws' := [wMd E a (dR s, dN0 s, dU s, dK s, n, dX s, dY s, dS s, dA s, dQ s), wAr E (a 20) 4 pa].flatten) X ps_X10_159 0 rfl rfl rfl (Nat.le_of_ble_eq_true rfl) rfl dX10_goes_9 ?_
    refine g_aload_n X 0 dX10_goes_12 rfl ?_
    refine g_getf (v := .ref (a 20)) X fs_X10_62 0 rfl rfl dX10_goes_13 ?_
    refine g_iconst (v := (nI 0)) X dX10_goes_16 rfl ?_
    refine g_iload_n X 2 dX10_goes_17 rfl ?_
    refine g_iast (ws' := [wMd E a (dR s, dN0 s, dU s, dK s, n, dX s, dY s, dS s, dA s, dQ s), wAr E (a 20) 4 (upd pa 0 x)].flatten) X 1 rfl 0 (ix_nI (by omega) (by decide)) rfl dX10_goes_18 ?_
    refine g_aload_n X 0 dX10_goes_19 rfl ?_
    refine g_getf (v := .ref (a 20)) X fs_X10_62 0 rfl rfl dX10_goes_20 ?_
    refine g_iconst (v := (nI 1)) X dX10_goes_23 rfl ?_
    refine g_iload_n X 3 dX10_goes_24 rfl ?_
    refine g_iast (ws' := [wMd E a (dR s, dN0 s, dU s, dK s, n, dX s, dY s, dS s, dA s, dQ s), wAr E (a 20) 4 (upd (upd pa 0 x) 1 y)].flatten) X 1 rfl 1 (ix_nI (by omega) (by decide)) rfl dX10_goes_25 ?_
    refine g_aload_n X 0 dX10_goes_26 rfl ?_
    refine g_getf (v := .ref (a 20)) X fs_X10_62 0 rfl rfl dX10_goes_27 ?_
    refine g_iconst (v := (nI 2)) X dX10_goes_30 rfl ?_
    refine g_iload X 4 dX10_goes_31 rfl ?_
    refine g_iast (ws' := [wMd E a (dR s, dN0 s, dU s, dK s, n, dX s, dY s, dS s, dA s, dQ s), wAr E (a 20) 4 (upd (upd (upd pa 0 x) 1 y) 2 z)].flatten) X 1 rfl 2 (ix_nI (by omega) (by decide)) rfl dX10_goes_33 ?_
    refine g_aload_n X 0 dX10_goes_34 rfl ?_
    refine g_getf (v := .ref (a 20)) X fs_X10_62 0 rfl rfl dX10_goes_35 ?_
    refine g_iconst (v := (nI 3)) X dX10_goes_38 rfl ?_
    refine g_iload X 5 dX10_goes_39 rfl ?_
    refine g_iast (ws' := [wMd E a (dR s, dN0 s, dU s, dK s, n, dX s, dY s, dS s, dA s, dQ s), wAr E (a 20) 4 (upd (upd (upd (upd pa 0 x) 1 y) 2 z) 3 w)].flatten) X 1 rfl 3 (ix_nI (by omega) (by decide)) rfl dX10_goes_41 ?_
    exact g_vret X hx rfl rfl (by simp only [c_4, f_c_4, decide_true, decide_false, not_true_eq_false, not_false_eq_true, Bool.true_and, Bool.false_and, Bool.and_true, Bool.and_false, Bool.true_or, Bool.false_or, Bool.or_true, Bool.or_false, and_true, true_and, and_false, false_and, or_true, true_or, or_false, false_or, if_true, if_false, Bool.false_eq_true, decide_eq_true_eq]) dX10_goes_42
set_option maxHeartbeats 4000000 in
set_option maxRecDepth 100000 in
theorem c_X10_isWay (E : GE) (a : Nat → Nat) (s : MD0) (ss : Nat → Nat) (fr : Nat → Int32) (tt : Nat → Int32) (x : Int32) (y : Int32) (hss : ∀ g, g < 2 → ss g ≤ 8) : CT E m_X10_isWay [.ref (a 0), .int x, .int y] ([wMd E a s, wAn E (a 3) 2 ss, wAr E (a 7) 16 fr, wAr E (a 8) 16 tt].flatten) (some (.int (b2i (rWay ss fr tt x y)))) ([wMd E a s, wAn E (a 3) 2 ss, wAr E (a 7) 16 fr, wAr E (a 8) 16 tt].flatten) := by
  refine CT.intro (by decide +kernel) (Nat.le_of_ble_eq_true rfl) (fun Γ X hx => ?_)
  refine GG.lv [0, 1, 2] (lv' := [(0, .ref (a 0)), (1, .int x), (2, .int y)]) rfl ?_
  refine g_iload_n X 1 dX10_isWay_0 rfl ?_
  refine g_iload_n X 2 dX10_isWay_1 rfl ?_
  refine g_icmp_eq (tgt := 21) X dX10_isWay_2 (by decide) (fun c_2 => ?_) (fun c_2 => ?_)
  · refine g_iconst (v := (nI 0)) X dX10_isWay_21 rfl ?_
    exact g_zretv (r := (nI 0)) X hx rfl (by simp [rWay, b2i, c_2]; try rfl) (by rfl) dX10_isWay_22
  · refine g_aload_n X 0 dX10_isWay_5 rfl ?_
    refine g_iconst (v := (nI 1)) X dX10_isWay_6 rfl ?_
    refine g_iload_n X 1 dX10_isWay_7 rfl ?_
    refine g_iload_n X 2 dX10_isWay_8 rfl ?_
    refine g_callVr (st2 := [.int (rBet ss fr tt 1 x y)]) (q0 := 0) X (c_X10_between E a s ss fr tt 1 x y (by first | assumption | omega | exact Nat.zero_le _) (by first | assumption | omega | exact Nat.zero_le _)) cs_X10_121 rfl [0, 1, 2, 3] [] 4 rfl (by decide) rfl rfl rfl rfl rfl (Nat.le_of_ble_eq_true rfl) dX10_isWay_9 rfl ?_
    refine g_bipush (v := (-4)) X dX10_isWay_12 rfl ?_
    refine g_icmp_eq (tgt := 21) X dX10_isWay_14 (by decide) (fun c_14 => ?_) (fun c_14 => ?_)
    · refine g_iconst (v := (nI 0)) X dX10_isWay_21 rfl ?_
      exact g_zretv (r := (nI 0)) X hx rfl (by simp [rWay, b2i, c_2, c_14]; try rfl) (by rfl) dX10_isWay_22
    · refine g_iconst (v := (nI 1)) X dX10_isWay_17 rfl ?_
      refine g_goto (tgt := 22) X dX10_isWay_18 (by decide) ?_
      exact g_zretv (r := (nI 1)) X hx rfl (by simp [rWay, b2i, c_2, c_14]; try rfl) (by rfl) dX10_isWay_22
set_option maxHeartbeats 4000000 in
set_option maxRecDepth 100000 in
theorem c_X10_setPath (E : GE) (a : Nat → Nat) (s : MD0) (mm : Nat → Nat) (ss : Nat → Nat) (fr : Nat → Int32) (tt : Nat → Int32) (mt : Nat → Int32) (pa : Nat → Int32) (k : Nat) (hmm : ∀ g, g < 2 → mm g ≤ 8) (hss : ∀ g, g < 2 → ss g ≤ 8) (hE : okE ss fr tt) (hk : k < ss 0) : CT E m_X10_setPath [.ref (a 0), .int (nI k)] ([wMd E a s, wAn E (a 2) 2 mm, wAn E (a 3) 2 ss, wAr E (a 7) 16 fr, wAr E (a 8) 16 tt, wAr E (a 17) 16 mt, wAr E (a 20) 4 pa].flatten) none ([wMd E a (dR s, dN0 s, dU s, dK s, (rPt mm ss fr tt mt k pa).1, dX s, dY s, dS s, dA s, dQ s), wAn E (a 2) 2 mm, wAn E (a 3) 2 ss, wAr E (a 7) 16 fr, wAr E (a 8) 16 tt, wAr E (a 17) 16 mt, wAr E (a 20) 4 ((rPt mm ss fr tt mt k pa).2)].flatten) := by
  refine CT.intro (by decide +kernel) (Nat.le_of_ble_eq_true rfl) (fun Γ X hx => ?_)
  refine GG.lv [0, 1] (lv' := [(0, .ref (a 0)), (1, .int (nI k))]) rfl ?_
  have hm0 := hmm 0 (by decide)
  have hm1 := hmm 1 (by decide)
  have hs0 := hss 0 (by decide)
  have hs1 := hss 1 (by decide)
  have ef : n8 (fr k) := by have := (hE 0 k (by decide) hk).1; rwa [Nat.mul_zero, Nat.zero_add] at this
  have et : n8 (tt k) := by have := (hE 0 k (by decide) hk).2; rwa [Nat.mul_zero, Nat.zero_add] at this
  refine g_aload_n X 0 dX10_setPath_0 rfl ?_
  refine g_iconst (v := (nI 0)) X dX10_setPath_1 rfl ?_
  refine g_putf (ws' := [wMd E a (dR s, dN0 s, dU s, dK s, 0, dX s, dY s, dS s, dA s, dQ s), wAn E (a 2) 2 mm, wAn E (a 3) 2 ss, wAr E (a 7) 16 fr, wAr E (a 8) 16 tt, wAr E (a 17) 16 mt, wAr E (a 20) 4 pa].flatten) X ps_X10_159 0 rfl rfl rfl (Nat.le_of_ble_eq_true rfl) rfl dX10_setPath_2 ?_
  refine g_aload_n X 0 dX10_setPath_5 rfl ?_
  refine g_getf (v := .ref (a 17)) X fs_X10_56 0 rfl rfl dX10_setPath_6 ?_
  refine g_aload_n X 0 dX10_setPath_9 rfl ?_
  refine g_getf (v := .ref (a 7)) X fs_X10_32 0 rfl rfl dX10_setPath_10 ?_
  refine g_iload_n X 1 dX10_setPath_13 rfl ?_
  refine g_iald X 3 rfl k (ix_nI (by omega) (by decide)) dX10_setPath_14 ?_
  refine g_iald X 5 rfl ((fr k).toNatClampNeg) (n8_ix ef (by decide) (by decide)) dX10_setPath_15 ?_
  refine g_istore_n (lv' := [(2, .int (rMa mt fr k)), (0, .ref (a 0)), (1, .int (nI k))]) X dX10_setPath_16 (by decide) rfl ?_
  refine g_aload_n X 1 dX10_setPath_17 rfl ?_
  refine g_getf (v := .ref (a 17)) X fs_X10_56 0 rfl rfl dX10_setPath_18 ?_
  refine g_aload_n X 1 dX10_setPath_21 rfl ?_
  refine g_getf (v := .ref (a 8)) X fs_X10_35 0 rfl rfl dX10_setPath_22 ?_
  refine g_iload_n X 2 dX10_setPath_25 rfl ?_
  refine g_iald X 4 rfl k (ix_nI (by omega) (by decide)) dX10_setPath_26 ?_
  refine g_iald X 5 rfl ((tt k).toNatClampNeg) (n8_ix et (by decide) (by decide)) dX10_setPath_27 ?_
  refine g_istore_n (lv' := [(3, .int (rMa mt tt k)), (2, .int (rMa mt fr k)), (0, .ref (a 0)), (1, .int (nI k))]) X dX10_setPath_28 (by decide) rfl ?_
  refine g_iload_n X 1 dX10_setPath_29 rfl ?_
  refine g_bipush (v := (-4)) X dX10_setPath_30 rfl ?_
  refine g_icmp_eq (tgt := 41) X dX10_setPath_32 (by decide) (fun c_32 => ?_) (fun c_32 => ?_)
  · exact g_vret X hx rfl rfl (by rw [show rPt mm ss fr tt mt k pa = (0, pa) by unfold rPt rPth; exact if_pos (Or.inl c_32)]) dX10_setPath_41
  · refine g_iload_n X 0 dX10_setPath_35 rfl ?_
    refine g_bipush (v := (-4)) X dX10_setPath_36 rfl ?_
    refine g_icmp_ne (tgt := 42) X dX10_setPath_38 (by decide) (fun c_38 => ?_) (fun c_38 => ?_)
    · refine g_aload_n X 2 dX10_setPath_42 rfl ?_
      refine g_iload_n X 1 dX10_setPath_43 rfl ?_
      refine g_iload_n X 0 dX10_setPath_44 rfl ?_
      refine g_callVr (st2 := [.int (b2i (rWay ss fr tt (rMa mt fr k) (rMa mt tt k)))]) (q0 := 0) X (c_X10_isWay E a (dR s, dN0 s, dU s, dK s, 0, dX s, dY s, dS s, dA s, dQ s) ss fr tt (rMa mt fr k) (rMa mt tt k) (by first | assumption | omega | exact Nat.zero_le _)) cs_X10_162 rfl [0, 2, 3, 4] [1, 5, 6] 7 rfl (by decide) rfl rfl rfl rfl rfl (Nat.le_of_ble_eq_true rfl) dX10_setPath_45 rfl ?_
      refine g_bif_eq (tgt := 62) X dX10_setPath_48 (by decide) (fun c_48 => ?_) (fun c_48 => ?_)
      · refine g_iconst (v := (nI 0)) X dX10_setPath_62 rfl ?_
        refine g_istore (lv' := [(4, .int (nI 0)), (3, .int (rMa mt tt k)), (2, .int (rMa mt fr k)), (0, .ref (a 0)), (1, .int (nI k))]) X dX10_setPath_63 (by decide) rfl ?_
        have L_65 : ∀ (n_65 : Nat) (b : Nat) (hb : b ≤ mm 1) (hm_65 : mm 1 - b < n_65) (x_4 : Int32) (ex_4 : x_4 = (nI b)) (u_0 : Nat) (eu_0 : u_0 = (rW2 ss fr tt (rMa mt fr k) (rMa mt tt k) pa b).1) (u_1 : Nat → Int32) (eu_1 : u_1 = (rW2 ss fr tt (rMa mt fr k) (rMa mt tt k) pa b).2), GG E m_X10_setPath Γ 0 0 ([wMd E a (dR s, dN0 s, dU s, dK s, u_0, dX s, dY s, dS s, dA s, dQ s), wAn E (a 2) 2 mm, wAn E (a 3) 2 ss, wAr E (a 7) 16 fr, wAr E (a 8) 16 tt, wAr E (a 17) 16 mt, wAr E (a 20) 4 u_1].flatten) [(0, .ref (a 0)), (1, .int (nI k)), (2, .int (rMa mt fr k)), (3, .int (rMa mt tt k)), (4, .int x_4)] 65 [] := by
          intro n_65
          induction n_65 with
          | zero => intro b hb hm_65; exact absurd hm_65 (Nat.not_lt_zero _)
          | succ n_65 ih_65 =>
            intro b hb hm_65 x_4 ex_4 u_0 eu_0 u_1 eu_1
            subst ex_4
            subst eu_0
            subst eu_1
            have hwl := rW2_le ss fr tt (rMa mt fr k) (rMa mt tt k) pa b
            refine g_iload X 4 dX10_setPath_65 rfl ?_
            refine g_aload_n X 0 dX10_setPath_67 rfl ?_
            refine g_getf (v := .ref (a 2)) X fs_X10_16 0 rfl rfl dX10_setPath_68 ?_
            refine g_iconst (v := (nI 1)) X dX10_setPath_71 rfl ?_
            refine g_anld (f := mm) X 1 rfl 1 (ix_nI (by omega) (by decide)) dX10_setPath_72 ?_
            refine g_icmp_ge (tgt := 113) X dX10_setPath_73 (by decide) (fun c_73 => ?_) (fun c_73 => ?_)
            · have f_c_73 : mm 1 ≤ b := n_le (by omega) (by omega) c_73
              have fn_c_73 := Nat.not_lt.mpr f_c_73
              have eb : b = mm 1 := by omega
              subst eb
              refine g_iconst (v := (nI 0)) X dX10_setPath_113 rfl ?_
              refine g_istore (lv' := [(4, .int (nI 0)), (0, .ref (a 0)), (1, .int (nI k)), (2, .int (rMa mt fr k)), (3, .int (rMa mt tt k))]) X dX10_setPath_114 (by decide) rfl ?_
              have L_116 : ∀ (n_116 : Nat) (b2 : Nat) (hb2 : b2 ≤ mm 1) (hm_116 : mm 1 - b2 < n_116) (x_4 : Int32) (ex_4 : x_4 = (nI b2)) (u_0 : Nat) (eu_0 : u_0 = (rW3 ss fr tt (rMa mt fr k) (rMa mt tt k) pa (mm 1) b2).1) (u_1 : Nat → Int32) (eu_1 : u_1 = (rW3 ss fr tt (rMa mt fr k) (rMa mt tt k) pa (mm 1) b2).2), GG E m_X10_setPath Γ 0 0 ([wMd E a (dR s, dN0 s, dU s, dK s, u_0, dX s, dY s, dS s, dA s, dQ s), wAn E (a 2) 2 mm, wAn E (a 3) 2 ss, wAr E (a 7) 16 fr, wAr E (a 8) 16 tt, wAr E (a 17) 16 mt, wAr E (a 20) 4 u_1].flatten) [(0, .ref (a 0)), (1, .int (nI k)), (2, .int (rMa mt fr k)), (3, .int (rMa mt tt k)), (4, .int x_4)] 116 [] := by
                intro n_116
                induction n_116 with
                | zero => intro b2 hb2 hm_116; exact absurd hm_116 (Nat.not_lt_zero _)
                | succ n_116 ih_116 =>
                  intro b2 hb2 hm_116 x_4 ex_4 u_0 eu_0 u_1 eu_1
                  subst ex_4
                  subst eu_0
                  subst eu_1
                  refine g_iload X 4 dX10_setPath_116 rfl ?_
                  refine g_aload_n X 0 dX10_setPath_118 rfl ?_
                  refine g_getf (v := .ref (a 2)) X fs_X10_16 0 rfl rfl dX10_setPath_119 ?_
                  refine g_iconst (v := (nI 1)) X dX10_setPath_122 rfl ?_
                  refine g_anld (f := mm) X 1 rfl 1 (ix_nI (by omega) (by decide)) dX10_setPath_123 ?_
                  refine g_icmp_ge (tgt := 207) X dX10_setPath_124 (by decide) (fun c_124 => ?_) (fun c_124 => ?_)
                  · have f_c_124 : mm 1 ≤ b2 := n_le (by omega) (by omega) c_124
                    have fn_c_124 := Nat.not_lt.mpr f_c_124
                    exact g_vret X hx rfl rfl (by rw [show rPt mm ss fr tt mt k pa = rW3 ss fr tt (rMa mt fr k) (rMa mt tt k) pa (mm 1) (mm 1) by unfold rPt rPth; exact if_neg (fun h => h.elim c_32 c_38), show b2 = mm 1 by omega]) dX10_setPath_207
                  · have f_c_124 : b2 < mm 1 := n_nle (by omega) (by omega) c_124
                    have fn_c_124 := Nat.not_le.mpr f_c_124
                    refine g_iconst (v := (nI 0)) X dX10_setPath_127 rfl ?_
                    refine g_istore (lv' := [(5, .int (nI 0)), (0, .ref (a 0)), (1, .int (nI k)), (2, .int (rMa mt fr k)), (3, .int (rMa mt tt k)), (4, .int (nI b2))]) X dX10_setPath_128 (by decide) rfl ?_
                    have L_130 : ∀ (n_130 : Nat) (c2 : Nat) (hc2 : c2 ≤ mm 1) (hm_130 : mm 1 - c2 < n_130) (x_5 : Int32) (ex_5 : x_5 = (nI c2)) (u_0 : Nat) (eu_0 : u_0 = (rW4 ss fr tt (rMa mt fr k) (rMa mt tt k) pa (mm 1) b2 c2).1) (u_1 : Nat → Int32) (eu_1 : u_1 = (rW4 ss fr tt (rMa mt fr k) (rMa mt tt k) pa (mm 1) b2 c2).2), GG E m_X10_setPath Γ 0 0 ([wMd E a (dR s, dN0 s, dU s, dK s, u_0, dX s, dY s, dS s, dA s, dQ s), wAn E (a 2) 2 mm, wAn E (a 3) 2 ss, wAr E (a 7) 16 fr, wAr E (a 8) 16 tt, wAr E (a 17) 16 mt, wAr E (a 20) 4 u_1].flatten) [(0, .ref (a 0)), (1, .int (nI k)), (2, .int (rMa mt fr k)), (3, .int (rMa mt tt k)), (4, .int (nI b2)), (5, .int x_5)] 130 [] := by
                      intro n_130
                      induction n_130 with
                      | zero => intro c2 hc2 hm_130; exact absurd hm_130 (Nat.not_lt_zero _)
                      | succ n_130 ih_130 =>
                        intro c2 hc2 hm_130 x_5 ex_5 u_0 eu_0 u_1 eu_1
                        subst ex_5
                        subst eu_0
                        subst eu_1
                        have hwl := rW4_le ss fr tt (rMa mt fr k) (rMa mt tt k) pa (mm 1) b2 c2
                        refine g_iload X 5 dX10_setPath_130 rfl ?_
                        refine g_aload_n X 0 dX10_setPath_132 rfl ?_
                        refine g_getf (v := .ref (a 2)) X fs_X10_16 0 rfl rfl dX10_setPath_133 ?_
                        refine g_iconst (v := (nI 1)) X dX10_setPath_136 rfl ?_
                        refine g_anld (f := mm) X 1 rfl 1 (ix_nI (by omega) (by decide)) dX10_setPath_137 ?_
                        refine g_icmp_ge (tgt := 201) X dX10_setPath_138 (by decide) (fun c_138 => ?_) (fun c_138 => ?_)
                        · have f_c_138 : mm 1 ≤ c2 := n_le (by omega) (by omega) c_138
                          have fn_c_138 := Nat.not_lt.mpr f_c_138
                          refine g_iincN (lv' := [(4, .int (nI (b2 + 1))), (0, .ref (a 0)), (1, .int (nI k)), (2, .int (rMa mt fr k)), (3, .int (rMa mt tt k)), (5, .int (nI c2))]) X 4 dX10_setPath_201 rfl (by decide) rfl ?_
                          refine g_goto (tgt := 116) X dX10_setPath_204 (by decide) ?_
                          refine GG.lv [1, 2, 3, 4, 0] rfl ?_
                          exact ih_116 (b2 + 1) (by omega) (by omega) (nI (b2 + 1)) (by rfl) ((rW4 ss fr tt (rMa mt fr k) (rMa mt tt k) pa (mm 1) b2 c2).1) (by rw [show c2 = mm 1 by omega]; rfl) ((rW4 ss fr tt (rMa mt fr k) (rMa mt tt k) pa (mm 1) b2 c2).2) (by rw [show c2 = mm 1 by omega]; rfl)
                        · have f_c_138 : c2 < mm 1 := n_nle (by omega) (by omega) c_138
                          have fn_c_138 := Nat.not_le.mpr f_c_138
                          refine g_iload X 4 dX10_setPath_141 rfl ?_
                          refine g_iload_n X 3 dX10_setPath_143 rfl ?_
                          refine g_icmp_eq (tgt := 195) X dX10_setPath_144 (by decide) (fun c_144 => ?_) (fun c_144 => ?_)
                          · refine g_iincN (lv' := [(5, .int (nI (c2 + 1))), (0, .ref (a 0)), (1, .int (nI k)), (2, .int (rMa mt fr k)), (3, .int (rMa mt tt k)), (4, .int (nI b2))]) X 5 dX10_setPath_195 rfl (by decide) rfl ?_
                            refine g_goto (tgt := 130) X dX10_setPath_198 (by decide) ?_
                            refine GG.lv [1, 2, 3, 4, 5, 0] rfl ?_
                            exact ih_130 (c2 + 1) (by omega) (by omega) (nI (c2 + 1)) (by rfl) ((rW4 ss fr tt (rMa mt fr k) (rMa mt tt k) pa (mm 1) b2 c2).1) (by exact congrArg Prod.fst (rW4_f1 (by simp [rC3, c_32, c_38, c_48, c_73, f_c_73, fn_c_73, c_124, f_c_124, fn_c_124, c_138, f_c_138, fn_c_138, c_144]))) ((rW4 ss fr tt (rMa mt fr k) (rMa mt tt k) pa (mm 1) b2 c2).2) (by exact congrArg Prod.snd (rW4_f1 (by simp [rC3, c_32, c_38, c_48, c_73, f_c_73, fn_c_73, c_124, f_c_124, fn_c_124, c_138, f_c_138, fn_c_138, c_144])))
                          · refine g_iload X 5 dX10_setPath_147 rfl ?_
                            refine g_iload_n X 2 dX10_setPath_149 rfl ?_
                            refine g_icmp_eq (tgt := 195) X dX10_setPath_150 (by decide) (fun c_150 => ?_) (fun c_150 => ?_)
                            · refine g_iincN (lv' := [(5, .int (nI (c2 + 1))), (0, .ref (a 0)), (1, .int (nI k)), (2, .int (rMa mt fr k)), (3, .int (rMa mt tt k)), (4, .int (nI b2))]) X 5 dX10_setPath_195 rfl (by decide) rfl ?_
                              refine g_goto (tgt := 130) X dX10_setPath_198 (by decide) ?_
                              refine GG.lv [1, 2, 3, 4, 5, 0] rfl ?_
                              exact ih_130 (c2 + 1) (by omega) (by omega) (nI (c2 + 1)) (by rfl) ((rW4 ss fr tt (rMa mt fr k) (rMa mt tt k) pa (mm 1) b2 c2).1) (by exact congrArg Prod.fst (rW4_f1 (by simp [rC3, c_32, c_38, c_48, c_73, f_c_73, fn_c_73, c_124, f_c_124, fn_c_124, c_138, f_c_138, fn_c_138, c_144, c_150]))) ((rW4 ss fr tt (rMa mt fr k) (rMa mt tt k) pa (mm 1) b2 c2).2) (by exact congrArg Prod.snd (rW4_f1 (by simp [rC3, c_32, c_38, c_48, c_73, f_c_73, fn_c_73, c_124, f_c_124, fn_c_124, c_138, f_c_138, fn_c_138, c_144, c_150])))
                            · refine g_aload_n X 0 dX10_setPath_153 rfl ?_
                              refine g_iload_n X 2 dX10_setPath_154 rfl ?_
                              refine g_iload X 4 dX10_setPath_155 rfl ?_
                              refine g_callVr (st2 := [.int (b2i (rWay ss fr tt (rMa mt fr k) (nI b2)))]) (q0 := 0) X (c_X10_isWay E a (dR s, dN0 s, dU s, dK s, (rW4 ss fr tt (rMa mt fr k) (rMa mt tt k) pa (mm 1) b2 c2).1, dX s, dY s, dS s, dA s, dQ s) ss fr tt (rMa mt fr k) (nI b2) (by first | assumption | omega | exact Nat.zero_le _)) cs_X10_162 rfl [0, 2, 3, 4] [1, 5, 6] 7 rfl (by decide) rfl rfl rfl rfl rfl (Nat.le_of_ble_eq_true rfl) dX10_setPath_157 rfl ?_
                              refine g_bif_eq (tgt := 195) X dX10_setPath_160 (by decide) (fun c_160 => ?_) (fun c_160 => ?_)
                              · refine g_iincN (lv' := [(5, .int (nI (c2 + 1))), (0, .ref (a 0)), (1, .int (nI k)), (2, .int (rMa mt fr k)), (3, .int (rMa mt tt k)), (4, .int (nI b2))]) X 5 dX10_setPath_195 rfl (by decide) rfl ?_
                                refine g_goto (tgt := 130) X dX10_setPath_198 (by decide) ?_
                                refine GG.lv [1, 2, 3, 4, 5, 0] rfl ?_
                                exact ih_130 (c2 + 1) (by omega) (by omega) (nI (c2 + 1)) (by rfl) ((rW4 ss fr tt (rMa mt fr k) (rMa mt tt k) pa (mm 1) b2 c2).1) (by exact congrArg Prod.fst (rW4_f1 (by simp [rC3, c_32, c_38, c_48, c_73, f_c_73, fn_c_73, c_124, f_c_124, fn_c_124, c_138, f_c_138, fn_c_138, c_144, c_150, c_160]))) ((rW4 ss fr tt (rMa mt fr k) (rMa mt tt k) pa (mm 1) b2 c2).2) (by exact congrArg Prod.snd (rW4_f1 (by simp [rC3, c_32, c_38, c_48, c_73, f_c_73, fn_c_73, c_124, f_c_124, fn_c_124, c_138, f_c_138, fn_c_138, c_144, c_150, c_160])))
                              · refine g_aload_n X 0 dX10_setPath_163 rfl ?_
                                refine g_iload X 4 dX10_setPath_164 rfl ?_
                                refine g_iload X 5 dX10_setPath_166 rfl ?_
                                refine g_callVr (st2 := [.int (b2i (rWay ss fr tt (nI b2) (nI c2)))]) (q0 := 0) X (c_X10_isWay E a (dR s, dN0 s, dU s, dK s, (rW4 ss fr tt (rMa mt fr k) (rMa mt tt k) pa (mm 1) b2 c2).1, dX s, dY s, dS s, dA s, dQ s) ss fr tt (nI b2) (nI c2) (by first | assumption | omega | exact Nat.zero_le _)) cs_X10_162 rfl [0, 2, 3, 4] [1, 5, 6] 7 rfl (by decide) rfl rfl rfl rfl rfl (Nat.le_of_ble_eq_true rfl) dX10_setPath_168 rfl ?_
                                refine g_bif_eq (tgt := 195) X dX10_setPath_171 (by decide) (fun c_171 => ?_) (fun c_171 => ?_)
                                · refine g_iincN (lv' := [(5, .int (nI (c2 + 1))), (0, .ref (a 0)), (1, .int (nI k)), (2, .int (rMa mt fr k)), (3, .int (rMa mt tt k)), (4, .int (nI b2))]) X 5 dX10_setPath_195 rfl (by decide) rfl ?_
                                  refine g_goto (tgt := 130) X dX10_setPath_198 (by decide) ?_
                                  refine GG.lv [1, 2, 3, 4, 5, 0] rfl ?_
                                  exact ih_130 (c2 + 1) (by omega) (by omega) (nI (c2 + 1)) (by rfl) ((rW4 ss fr tt (rMa mt fr k) (rMa mt tt k) pa (mm 1) b2 c2).1) (by exact congrArg Prod.fst (rW4_f1 (by simp [rC3, c_32, c_38, c_48, c_73, f_c_73, fn_c_73, c_124, f_c_124, fn_c_124, c_138, f_c_138, fn_c_138, c_144, c_150, c_160, c_171]))) ((rW4 ss fr tt (rMa mt fr k) (rMa mt tt k) pa (mm 1) b2 c2).2) (by exact congrArg Prod.snd (rW4_f1 (by simp [rC3, c_32, c_38, c_48, c_73, f_c_73, fn_c_73, c_124, f_c_124, fn_c_124, c_138, f_c_138, fn_c_138, c_144, c_150, c_160, c_171])))
                                · refine g_aload_n X 0 dX10_setPath_174 rfl ?_
                                  refine g_iload X 5 dX10_setPath_175 rfl ?_
                                  refine g_iload_n X 3 dX10_setPath_177 rfl ?_
                                  refine g_callVr (st2 := [.int (b2i (rWay ss fr tt (nI c2) (rMa mt tt k)))]) (q0 := 0) X (c_X10_isWay E a (dR s, dN0 s, dU s, dK s, (rW4 ss fr tt (rMa mt fr k) (rMa mt tt k) pa (mm 1) b2 c2).1, dX s, dY s, dS s, dA s, dQ s) ss fr tt (nI c2) (rMa mt tt k) (by first | assumption | omega | exact Nat.zero_le _)) cs_X10_162 rfl [0, 2, 3, 4] [1, 5, 6] 7 rfl (by decide) rfl rfl rfl rfl rfl (Nat.le_of_ble_eq_true rfl) dX10_setPath_178 rfl ?_
                                  refine g_bif_eq (tgt := 195) X dX10_setPath_181 (by decide) (fun c_181 => ?_) (fun c_181 => ?_)
                                  · refine g_iincN (lv' := [(5, .int (nI (c2 + 1))), (0, .ref (a 0)), (1, .int (nI k)), (2, .int (rMa mt fr k)), (3, .int (rMa mt tt k)), (4, .int (nI b2))]) X 5 dX10_setPath_195 rfl (by decide) rfl ?_
                                    refine g_goto (tgt := 130) X dX10_setPath_198 (by decide) ?_
                                    refine GG.lv [1, 2, 3, 4, 5, 0] rfl ?_
                                    exact ih_130 (c2 + 1) (by omega) (by omega) (nI (c2 + 1)) (by rfl) ((rW4 ss fr tt (rMa mt fr k) (rMa mt tt k) pa (mm 1) b2 c2).1) (by exact congrArg Prod.fst (rW4_f1 (by simp [rC3, c_32, c_38, c_48, c_73, f_c_73, fn_c_73, c_124, f_c_124, fn_c_124, c_138, f_c_138, fn_c_138, c_144, c_150, c_160, c_171, c_181]))) ((rW4 ss fr tt (rMa mt fr k) (rMa mt tt k) pa (mm 1) b2 c2).2) (by exact congrArg Prod.snd (rW4_f1 (by simp [rC3, c_32, c_38, c_48, c_73, f_c_73, fn_c_73, c_124, f_c_124, fn_c_124, c_138, f_c_138, fn_c_138, c_144, c_150, c_160, c_171, c_181])))
                                  · refine g_aload_n X 0 dX10_setPath_184 rfl ?_
                                    refine g_iconst (v := (nI 3)) X dX10_setPath_185 rfl ?_
                                    refine g_iload_n X 2 dX10_setPath_186 rfl ?_
                                    refine g_iload X 4 dX10_setPath_187 rfl ?_
                                    refine g_iload X 5 dX10_setPath_189 rfl ?_
                                    refine g_iload_n X 3 dX10_setPath_191 rfl ?_
                                    refine g_callV (st2 := []) (S' := [wMd E a ((dR s), (dN0 s), (dU s), (dK s), if ((rW4 ss fr tt (rMa mt fr k) (rMa mt tt k) pa (mm 1) b2 c2).1) = 0 then 3 else ((rW4 ss fr tt (rMa mt fr k) (rMa mt tt k) pa (mm 1) b2 c2).1), (dX s), (dY s), (dS s), (dA s), (dQ s)), wAn E (a 2) 2 mm, wAn E (a 3) 2 ss, wAr E (a 7) 16 fr, wAr E (a 8) 16 tt, wAr E (a 17) 16 mt, wAr E (a 20) 4 (if ((rW4 ss fr tt (rMa mt fr k) (rMa mt tt k) pa (mm 1) b2 c2).1) = 0 then upd (upd (upd (upd ((rW4 ss fr tt (rMa mt fr k) (rMa mt tt k) pa (mm 1) b2 c2).2) 0 (rMa mt fr k)) 1 (nI b2)) 2 (nI c2)) 3 (rMa mt tt k) else ((rW4 ss fr tt (rMa mt fr k) (rMa mt tt k) pa (mm 1) b2 c2).2))]) (q0 := 0) X (c_X10_goes E a (dR s, dN0 s, dU s, dK s, (rW4 ss fr tt (rMa mt fr k) (rMa mt tt k) pa (mm 1) b2 c2).1, dX s, dY s, dS s, dA s, dQ s) ((rW4 ss fr tt (rMa mt fr k) (rMa mt tt k) pa (mm 1) b2 c2).2) 3 (rMa mt fr k) (nI b2) (nI c2) (rMa mt tt k) (by first | assumption | omega | exact Nat.zero_le _)) cs_X10_165 rfl [0, 6] [1, 2, 3, 4, 5] 7 rfl rfl (by decide) [wAn E (a 2) 2 mm, wAn E (a 3) 2 ss, wAr E (a 7) 16 fr, wAr E (a 8) 16 tt, wAr E (a 17) 16 mt] rfl rfl rfl rfl (by simp only [List.map_cons, List.map_nil, fsAn, fsAr, fsMd]) rfl rfl rfl rfl (Nat.le_of_ble_eq_true rfl) dX10_setPath_192 rfl ?_
                                    refine g_iincN (lv' := [(5, .int (nI (c2 + 1))), (0, .ref (a 0)), (1, .int (nI k)), (2, .int (rMa mt fr k)), (3, .int (rMa mt tt k)), (4, .int (nI b2))]) X 5 dX10_setPath_195 rfl (by decide) rfl ?_
                                    refine g_goto (tgt := 130) X dX10_setPath_198 (by decide) ?_
                                    refine GG.lv [1, 2, 3, 4, 5, 0] rfl ?_
                                    exact ih_130 (c2 + 1) (by omega) (by omega) (nI (c2 + 1)) (by rfl) (if ((rW4 ss fr tt (rMa mt fr k) (rMa mt tt k) pa (mm 1) b2 c2).1) = 0 then 3 else ((rW4 ss fr tt (rMa mt fr k) (rMa mt tt k) pa (mm 1) b2 c2).1)) (by exact congrArg Prod.fst (rW4_t1 (by simp [rC3, c_32, c_38, c_48, c_73, f_c_73, fn_c_73, c_124, f_c_124, fn_c_124, c_138, f_c_138, fn_c_138, c_144, c_150, c_160, c_171, c_181]))) (if ((rW4 ss fr tt (rMa mt fr k) (rMa mt tt k) pa (mm 1) b2 c2).1) = 0 then upd (upd (upd (upd ((rW4 ss fr tt (rMa mt fr k) (rMa mt tt k) pa (mm 1) b2 c2).2) 0 (rMa mt fr k)) 1 (nI b2)) 2 (nI c2)) 3 (rMa mt tt k) else ((rW4 ss fr tt (rMa mt fr k) (rMa mt tt k) pa (mm 1) b2 c2).2)) (by exact congrArg Prod.snd (rW4_t1 (by simp [rC3, c_32, c_38, c_48, c_73, f_c_73, fn_c_73, c_124, f_c_124, fn_c_124, c_138, f_c_138, fn_c_138, c_144, c_150, c_160, c_171, c_181])))
                    refine GG.lv [1, 2, 3, 4, 5, 0] rfl ?_
                    exact L_130 (mm 1 + 1) 0 (by omega) (by omega) (nI 0) (by rfl) ((rW3 ss fr tt (rMa mt fr k) (rMa mt tt k) pa (mm 1) b2).1) (by rfl) ((rW3 ss fr tt (rMa mt fr k) (rMa mt tt k) pa (mm 1) b2).2) (by rfl)
              refine GG.lv [1, 2, 3, 4, 0] rfl ?_
              exact L_116 (mm 1 + 1) 0 (by omega) (by omega) (nI 0) (by rfl) ((rW2 ss fr tt (rMa mt fr k) (rMa mt tt k) pa (mm 1)).1) (by rfl) ((rW2 ss fr tt (rMa mt fr k) (rMa mt tt k) pa (mm 1)).2) (by rfl)
            · have f_c_73 : b < mm 1 := n_nle (by omega) (by omega) c_73
              have fn_c_73 := Nat.not_le.mpr f_c_73
              refine g_aload_n X 0 dX10_setPath_76 rfl ?_
              refine g_iload_n X 2 dX10_setPath_77 rfl ?_
              refine g_iload X 4 dX10_setPath_78 rfl ?_
              refine g_callVr (st2 := [.int (b2i (rWay ss fr tt (rMa mt fr k) (nI b)))]) (q0 := 0) X (c_X10_isWay E a (dR s, dN0 s, dU s, dK s, (rW2 ss fr tt (rMa mt fr k) (rMa mt tt k) pa b).1, dX s, dY s, dS s, dA s, dQ s) ss fr tt (rMa mt fr k) (nI b) (by first | assumption | omega | exact Nat.zero_le _)) cs_X10_162 rfl [0, 2, 3, 4] [1, 5, 6] 7 rfl (by decide) rfl rfl rfl rfl rfl (Nat.le_of_ble_eq_true rfl) dX10_setPath_80 rfl ?_
              refine g_bif_eq (tgt := 107) X dX10_setPath_83 (by decide) (fun c_83 => ?_) (fun c_83 => ?_)
              · refine g_iincN (lv' := [(4, .int (nI (b + 1))), (0, .ref (a 0)), (1, .int (nI k)), (2, .int (rMa mt fr k)), (3, .int (rMa mt tt k))]) X 4 dX10_setPath_107 rfl (by decide) rfl ?_
                refine g_goto (tgt := 65) X dX10_setPath_110 (by decide) ?_
                refine GG.lv [1, 2, 3, 4, 0] rfl ?_
                exact ih_65 (b + 1) (by omega) (by omega) (nI (b + 1)) (by rfl) ((rW2 ss fr tt (rMa mt fr k) (rMa mt tt k) pa b).1) (by exact congrArg Prod.fst (rW2_f1 (by simp [c_32, c_38, c_48, c_73, f_c_73, fn_c_73, c_83]))) ((rW2 ss fr tt (rMa mt fr k) (rMa mt tt k) pa b).2) (by exact congrArg Prod.snd (rW2_f1 (by simp [c_32, c_38, c_48, c_73, f_c_73, fn_c_73, c_83])))
              · refine g_aload_n X 0 dX10_setPath_86 rfl ?_
                refine g_iload X 4 dX10_setPath_87 rfl ?_
                refine g_iload_n X 3 dX10_setPath_89 rfl ?_
                refine g_callVr (st2 := [.int (b2i (rWay ss fr tt (nI b) (rMa mt tt k)))]) (q0 := 0) X (c_X10_isWay E a (dR s, dN0 s, dU s, dK s, (rW2 ss fr tt (rMa mt fr k) (rMa mt tt k) pa b).1, dX s, dY s, dS s, dA s, dQ s) ss fr tt (nI b) (rMa mt tt k) (by first | assumption | omega | exact Nat.zero_le _)) cs_X10_162 rfl [0, 2, 3, 4] [1, 5, 6] 7 rfl (by decide) rfl rfl rfl rfl rfl (Nat.le_of_ble_eq_true rfl) dX10_setPath_90 rfl ?_
                refine g_bif_eq (tgt := 107) X dX10_setPath_93 (by decide) (fun c_93 => ?_) (fun c_93 => ?_)
                · refine g_iincN (lv' := [(4, .int (nI (b + 1))), (0, .ref (a 0)), (1, .int (nI k)), (2, .int (rMa mt fr k)), (3, .int (rMa mt tt k))]) X 4 dX10_setPath_107 rfl (by decide) rfl ?_
                  refine g_goto (tgt := 65) X dX10_setPath_110 (by decide) ?_
                  refine GG.lv [1, 2, 3, 4, 0] rfl ?_
                  exact ih_65 (b + 1) (by omega) (by omega) (nI (b + 1)) (by rfl) ((rW2 ss fr tt (rMa mt fr k) (rMa mt tt k) pa b).1) (by exact congrArg Prod.fst (rW2_f1 (by simp [c_32, c_38, c_48, c_73, f_c_73, fn_c_73, c_83, c_93]))) ((rW2 ss fr tt (rMa mt fr k) (rMa mt tt k) pa b).2) (by exact congrArg Prod.snd (rW2_f1 (by simp [c_32, c_38, c_48, c_73, f_c_73, fn_c_73, c_83, c_93])))
                · refine g_aload_n X 0 dX10_setPath_96 rfl ?_
                  refine g_iconst (v := (nI 2)) X dX10_setPath_97 rfl ?_
                  refine g_iload_n X 2 dX10_setPath_98 rfl ?_
                  refine g_iload X 4 dX10_setPath_99 rfl ?_
                  refine g_iload_n X 3 dX10_setPath_101 rfl ?_
                  refine g_bipush (v := (-4)) X dX10_setPath_102 rfl ?_
                  refine g_callV (st2 := []) (S' := [wMd E a ((dR s), (dN0 s), (dU s), (dK s), if ((rW2 ss fr tt (rMa mt fr k) (rMa mt tt k) pa b).1) = 0 then 2 else ((rW2 ss fr tt (rMa mt fr k) (rMa mt tt k) pa b).1), (dX s), (dY s), (dS s), (dA s), (dQ s)), wAn E (a 2) 2 mm, wAn E (a 3) 2 ss, wAr E (a 7) 16 fr, wAr E (a 8) 16 tt, wAr E (a 17) 16 mt, wAr E (a 20) 4 (if ((rW2 ss fr tt (rMa mt fr k) (rMa mt tt k) pa b).1) = 0 then upd (upd (upd (upd ((rW2 ss fr tt (rMa mt fr k) (rMa mt tt k) pa b).2) 0 (rMa mt fr k)) 1 (nI b)) 2 (rMa mt tt k)) 3 (-4) else ((rW2 ss fr tt (rMa mt fr k) (rMa mt tt k) pa b).2))]) (q0 := 0) X (c_X10_goes E a (dR s, dN0 s, dU s, dK s, (rW2 ss fr tt (rMa mt fr k) (rMa mt tt k) pa b).1, dX s, dY s, dS s, dA s, dQ s) ((rW2 ss fr tt (rMa mt fr k) (rMa mt tt k) pa b).2) 2 (rMa mt fr k) (nI b) (rMa mt tt k) (-4) (by first | assumption | omega | exact Nat.zero_le _)) cs_X10_165 rfl [0, 6] [1, 2, 3, 4, 5] 7 rfl rfl (by decide) [wAn E (a 2) 2 mm, wAn E (a 3) 2 ss, wAr E (a 7) 16 fr, wAr E (a 8) 16 tt, wAr E (a 17) 16 mt] rfl rfl rfl rfl (by simp only [List.map_cons, List.map_nil, fsAn, fsAr, fsMd]) rfl rfl rfl rfl (Nat.le_of_ble_eq_true rfl) dX10_setPath_104 rfl ?_
                  refine g_iincN (lv' := [(4, .int (nI (b + 1))), (0, .ref (a 0)), (1, .int (nI k)), (2, .int (rMa mt fr k)), (3, .int (rMa mt tt k))]) X 4 dX10_setPath_107 rfl (by decide) rfl ?_
                  refine g_goto (tgt := 65) X dX10_setPath_110 (by decide) ?_
                  refine GG.lv [1, 2, 3, 4, 0] rfl ?_
                  exact ih_65 (b + 1) (by omega) (by omega) (nI (b + 1)) (by rfl) (if ((rW2 ss fr tt (rMa mt fr k) (rMa mt tt k) pa b).1) = 0 then 2 else ((rW2 ss fr tt (rMa mt fr k) (rMa mt tt k) pa b).1)) (by exact congrArg Prod.fst (rW2_t1 (by simp [c_32, c_38, c_48, c_73, f_c_73, fn_c_73, c_83, c_93]))) (if ((rW2 ss fr tt (rMa mt fr k) (rMa mt tt k) pa b).1) = 0 then upd (upd (upd (upd ((rW2 ss fr tt (rMa mt fr k) (rMa mt tt k) pa b).2) 0 (rMa mt fr k)) 1 (nI b)) 2 (rMa mt tt k)) 3 (-4) else ((rW2 ss fr tt (rMa mt fr k) (rMa mt tt k) pa b).2)) (by exact congrArg Prod.snd (rW2_t1 (by simp [c_32, c_38, c_48, c_73, f_c_73, fn_c_73, c_83, c_93])))
        refine GG.lv [3, 4, 2, 1, 0] rfl ?_
        exact L_65 (mm 1 + 1) 0 (by omega) (by omega) (nI 0) (by rfl) 0 (by first | (unfold rW2 rW1 rP1; rw [if_pos c_48]; rfl) | (unfold rW2 rW1 rP1; rw [if_neg (by rw [c_48]; decide)]; rfl)) pa (by first | (unfold rW2 rW1 rP1; rw [if_pos c_48]; rfl) | (unfold rW2 rW1 rP1; rw [if_neg (by rw [c_48]; decide)]; rfl))
      · refine g_aload_n X 2 dX10_setPath_51 rfl ?_
        refine g_iconst (v := (nI 1)) X dX10_setPath_52 rfl ?_
        refine g_iload_n X 1 dX10_setPath_53 rfl ?_
        refine g_iload_n X 0 dX10_setPath_54 rfl ?_
        refine g_bipush (v := (-4)) X dX10_setPath_55 rfl ?_
        refine g_bipush (v := (-4)) X dX10_setPath_57 rfl ?_
        refine g_callV (st2 := []) (S' := [wMd E a ((dR s), (dN0 s), (dU s), (dK s), if 0 = 0 then 1 else 0, (dX s), (dY s), (dS s), (dA s), (dQ s)), wAn E (a 2) 2 mm, wAn E (a 3) 2 ss, wAr E (a 7) 16 fr, wAr E (a 8) 16 tt, wAr E (a 17) 16 mt, wAr E (a 20) 4 (if 0 = 0 then upd (upd (upd (upd pa 0 (rMa mt fr k)) 1 (rMa mt tt k)) 2 (-4)) 3 (-4) else pa)]) (q0 := 0) X (c_X10_goes E a (dR s, dN0 s, dU s, dK s, 0, dX s, dY s, dS s, dA s, dQ s) pa 1 (rMa mt fr k) (rMa mt tt k) (-4) (-4) (by first | assumption | omega | exact Nat.zero_le _)) cs_X10_165 rfl [0, 6] [1, 2, 3, 4, 5] 7 rfl rfl (by decide) [wAn E (a 2) 2 mm, wAn E (a 3) 2 ss, wAr E (a 7) 16 fr, wAr E (a 8) 16 tt, wAr E (a 17) 16 mt] rfl rfl rfl rfl (by simp only [List.map_cons, List.map_nil, fsAn, fsAr, fsMd]) rfl rfl rfl rfl (Nat.le_of_ble_eq_true rfl) dX10_setPath_59 rfl ?_
        refine g_iconst (v := (nI 0)) X dX10_setPath_62 rfl ?_
        refine g_istore (lv' := [(4, .int (nI 0)), (3, .int (rMa mt tt k)), (2, .int (rMa mt fr k)), (0, .ref (a 0)), (1, .int (nI k))]) X dX10_setPath_63 (by decide) rfl ?_
        have L_65 : ∀ (n_65 : Nat) (b : Nat) (hb : b ≤ mm 1) (hm_65 : mm 1 - b < n_65) (x_4 : Int32) (ex_4 : x_4 = (nI b)) (u_0 : Nat) (eu_0 : u_0 = (rW2 ss fr tt (rMa mt fr k) (rMa mt tt k) pa b).1) (u_1 : Nat → Int32) (eu_1 : u_1 = (rW2 ss fr tt (rMa mt fr k) (rMa mt tt k) pa b).2), GG E m_X10_setPath Γ 0 0 ([wMd E a ((dR s), (dN0 s), (dU s), (dK s), u_0, (dX s), (dY s), (dS s), (dA s), (dQ s)), wAn E (a 2) 2 mm, wAn E (a 3) 2 ss, wAr E (a 7) 16 fr, wAr E (a 8) 16 tt, wAr E (a 17) 16 mt, wAr E (a 20) 4 u_1].flatten) [(0, .ref (a 0)), (1, .int (nI k)), (2, .int (rMa mt fr k)), (3, .int (rMa mt tt k)), (4, .int x_4)] 65 [] := by
          intro n_65
          induction n_65 with
          | zero => intro b hb hm_65; exact absurd hm_65 (Nat.not_lt_zero _)
          | succ n_65 ih_65 =>
            intro b hb hm_65 x_4 ex_4 u_0 eu_0 u_1 eu_1
            subst ex_4
            subst eu_0
            subst eu_1
            have hwl := rW2_le ss fr tt (rMa mt fr k) (rMa mt tt k) pa b
            refine g_iload X 4 dX10_setPath_65 rfl ?_
            refine g_aload_n X 0 dX10_setPath_67 rfl ?_
            refine g_getf (v := .ref (a 2)) X fs_X10_16 0 rfl rfl dX10_setPath_68 ?_
            refine g_iconst (v := (nI 1)) X dX10_setPath_71 rfl ?_
            refine g_anld (f := mm) X 1 rfl 1 (ix_nI (by omega) (by decide)) dX10_setPath_72 ?_
            refine g_icmp_ge (tgt := 113) X dX10_setPath_73 (by decide) (fun c_73 => ?_) (fun c_73 => ?_)
            · have f_c_73 : mm 1 ≤ b := n_le (by omega) (by omega) c_73
              have fn_c_73 := Nat.not_lt.mpr f_c_73
              have eb : b = mm 1 := by omega
              subst eb
              refine g_iconst (v := (nI 0)) X dX10_setPath_113 rfl ?_
              refine g_istore (lv' := [(4, .int (nI 0)), (0, .ref (a 0)), (1, .int (nI k)), (2, .int (rMa mt fr k)), (3, .int (rMa mt tt k))]) X dX10_setPath_114 (by decide) rfl ?_
              have L_116 : ∀ (n_116 : Nat) (b2 : Nat) (hb2 : b2 ≤ mm 1) (hm_116 : mm 1 - b2 < n_116) (x_4 : Int32) (ex_4 : x_4 = (nI b2)) (u_0 : Nat) (eu_0 : u_0 = (rW3 ss fr tt (rMa mt fr k) (rMa mt tt k) pa (mm 1) b2).1) (u_1 : Nat → Int32) (eu_1 : u_1 = (rW3 ss fr tt (rMa mt fr k) (rMa mt tt k) pa (mm 1) b2).2), GG E m_X10_setPath Γ 0 0 ([wMd E a ((dR s), (dN0 s), (dU s), (dK s), u_0, (dX s), (dY s), (dS s), (dA s), (dQ s)), wAn E (a 2) 2 mm, wAn E (a 3) 2 ss, wAr E (a 7) 16 fr, wAr E (a 8) 16 tt, wAr E (a 17) 16 mt, wAr E (a 20) 4 u_1].flatten) [(0, .ref (a 0)), (1, .int (nI k)), (2, .int (rMa mt fr k)), (3, .int (rMa mt tt k)), (4, .int x_4)] 116 [] := by
                intro n_116
                induction n_116 with
                | zero => intro b2 hb2 hm_116; exact absurd hm_116 (Nat.not_lt_zero _)
                | succ n_116 ih_116 =>
                  intro b2 hb2 hm_116 x_4 ex_4 u_0 eu_0 u_1 eu_1
                  subst ex_4
                  subst eu_0
                  subst eu_1
                  refine g_iload X 4 dX10_setPath_116 rfl ?_
                  refine g_aload_n X 0 dX10_setPath_118 rfl ?_
                  refine g_getf (v := .ref (a 2)) X fs_X10_16 0 rfl rfl dX10_setPath_119 ?_
                  refine g_iconst (v := (nI 1)) X dX10_setPath_122 rfl ?_
                  refine g_anld (f := mm) X 1 rfl 1 (ix_nI (by omega) (by decide)) dX10_setPath_123 ?_
                  refine g_icmp_ge (tgt := 207) X dX10_setPath_124 (by decide) (fun c_124 => ?_) (fun c_124 => ?_)
                  · have f_c_124 : mm 1 ≤ b2 := n_le (by omega) (by omega) c_124
                    have fn_c_124 := Nat.not_lt.mpr f_c_124
                    exact g_vret X hx rfl rfl (by rw [show rPt mm ss fr tt mt k pa = rW3 ss fr tt (rMa mt fr k) (rMa mt tt k) pa (mm 1) (mm 1) by unfold rPt rPth; exact if_neg (fun h => h.elim c_32 c_38), show b2 = mm 1 by omega]) dX10_setPath_207
                  · have f_c_124 : b2 < mm 1 := n_nle (by omega) (by omega) c_124
                    have fn_c_124 := Nat.not_le.mpr f_c_124
                    refine g_iconst (v := (nI 0)) X dX10_setPath_127 rfl ?_
                    refine g_istore (lv' := [(5, .int (nI 0)), (0, .ref (a 0)), (1, .int (nI k)), (2, .int (rMa mt fr k)), (3, .int (rMa mt tt k)), (4, .int (nI b2))]) X dX10_setPath_128 (by decide) rfl ?_
                    have L_130 : ∀ (n_130 : Nat) (c2 : Nat) (hc2 : c2 ≤ mm 1) (hm_130 : mm 1 - c2 < n_130) (x_5 : Int32) (ex_5 : x_5 = (nI c2)) (u_0 : Nat) (eu_0 : u_0 = (rW4 ss fr tt (rMa mt fr k) (rMa mt tt k) pa (mm 1) b2 c2).1) (u_1 : Nat → Int32) (eu_1 : u_1 = (rW4 ss fr tt (rMa mt fr k) (rMa mt tt k) pa (mm 1) b2 c2).2), GG E m_X10_setPath Γ 0 0 ([wMd E a ((dR s), (dN0 s), (dU s), (dK s), u_0, (dX s), (dY s), (dS s), (dA s), (dQ s)), wAn E (a 2) 2 mm, wAn E (a 3) 2 ss, wAr E (a 7) 16 fr, wAr E (a 8) 16 tt, wAr E (a 17) 16 mt, wAr E (a 20) 4 u_1].flatten) [(0, .ref (a 0)), (1, .int (nI k)), (2, .int (rMa mt fr k)), (3, .int (rMa mt tt k)), (4, .int (nI b2)), (5, .int x_5)] 130 [] := by
                      intro n_130
                      induction n_130 with
                      | zero => intro c2 hc2 hm_130; exact absurd hm_130 (Nat.not_lt_zero _)
                      | succ n_130 ih_130 =>
                        intro c2 hc2 hm_130 x_5 ex_5 u_0 eu_0 u_1 eu_1
                        subst ex_5
                        subst eu_0
                        subst eu_1
                        have hwl := rW4_le ss fr tt (rMa mt fr k) (rMa mt tt k) pa (mm 1) b2 c2
                        refine g_iload X 5 dX10_setPath_130 rfl ?_
                        refine g_aload_n X 0 dX10_setPath_132 rfl ?_
                        refine g_getf (v := .ref (a 2)) X fs_X10_16 0 rfl rfl dX10_setPath_133 ?_
                        refine g_iconst (v := (nI 1)) X dX10_setPath_136 rfl ?_
                        refine g_anld (f := mm) X 1 rfl 1 (ix_nI (by omega) (by decide)) dX10_setPath_137 ?_
                        refine g_icmp_ge (tgt := 201) X dX10_setPath_138 (by decide) (fun c_138 => ?_) (fun c_138 => ?_)
                        · have f_c_138 : mm 1 ≤ c2 := n_le (by omega) (by omega) c_138
                          have fn_c_138 := Nat.not_lt.mpr f_c_138
                          refine g_iincN (lv' := [(4, .int (nI (b2 + 1))), (0, .ref (a 0)), (1, .int (nI k)), (2, .int (rMa mt fr k)), (3, .int (rMa mt tt k)), (5, .int (nI c2))]) X 4 dX10_setPath_201 rfl (by decide) rfl ?_
                          refine g_goto (tgt := 116) X dX10_setPath_204 (by decide) ?_
                          refine GG.lv [1, 2, 3, 4, 0] rfl ?_
                          exact ih_116 (b2 + 1) (by omega) (by omega) (nI (b2 + 1)) (by rfl) ((rW4 ss fr tt (rMa mt fr k) (rMa mt tt k) pa (mm 1) b2 c2).1) (by rw [show c2 = mm 1 by omega]; rfl) ((rW4 ss fr tt (rMa mt fr k) (rMa mt tt k) pa (mm 1) b2 c2).2) (by rw [show c2 = mm 1 by omega]; rfl)
                        · have f_c_138 : c2 < mm 1 := n_nle (by omega) (by omega) c_138
                          have fn_c_138 := Nat.not_le.mpr f_c_138
                          refine g_iload X 4 dX10_setPath_141 rfl ?_
                          refine g_iload_n X 3 dX10_setPath_143 rfl ?_
                          refine g_icmp_eq (tgt := 195) X dX10_setPath_144 (by decide) (fun c_144 => ?_) (fun c_144 => ?_)
                          · refine g_iincN (lv' := [(5, .int (nI (c2 + 1))), (0, .ref (a 0)), (1, .int (nI k)), (2, .int (rMa mt fr k)), (3, .int (rMa mt tt k)), (4, .int (nI b2))]) X 5 dX10_setPath_195 rfl (by decide) rfl ?_
                            refine g_goto (tgt := 130) X dX10_setPath_198 (by decide) ?_
                            refine GG.lv [1, 2, 3, 4, 5, 0] rfl ?_
                            exact ih_130 (c2 + 1) (by omega) (by omega) (nI (c2 + 1)) (by rfl) ((rW4 ss fr tt (rMa mt fr k) (rMa mt tt k) pa (mm 1) b2 c2).1) (by exact congrArg Prod.fst (rW4_f1 (by simp [rC3, c_32, c_38, c_48, c_73, f_c_73, fn_c_73, c_124, f_c_124, fn_c_124, c_138, f_c_138, fn_c_138, c_144]))) ((rW4 ss fr tt (rMa mt fr k) (rMa mt tt k) pa (mm 1) b2 c2).2) (by exact congrArg Prod.snd (rW4_f1 (by simp [rC3, c_32, c_38, c_48, c_73, f_c_73, fn_c_73, c_124, f_c_124, fn_c_124, c_138, f_c_138, fn_c_138, c_144])))
                          · refine g_iload X 5 dX10_setPath_147 rfl ?_
                            refine g_iload_n X 2 dX10_setPath_149 rfl ?_
                            refine g_icmp_eq (tgt := 195) X dX10_setPath_150 (by decide) (fun c_150 => ?_) (fun c_150 => ?_)
                            · refine g_iincN (lv' := [(5, .int (nI (c2 + 1))), (0, .ref (a 0)), (1, .int (nI k)), (2, .int (rMa mt fr k)), (3, .int (rMa mt tt k)), (4, .int (nI b2))]) X 5 dX10_setPath_195 rfl (by decide) rfl ?_
                              refine g_goto (tgt := 130) X dX10_setPath_198 (by decide) ?_
                              refine GG.lv [1, 2, 3, 4, 5, 0] rfl ?_
                              exact ih_130 (c2 + 1) (by omega) (by omega) (nI (c2 + 1)) (by rfl) ((rW4 ss fr tt (rMa mt fr k) (rMa mt tt k) pa (mm 1) b2 c2).1) (by exact congrArg Prod.fst (rW4_f1 (by simp [rC3, c_32, c_38, c_48, c_73, f_c_73, fn_c_73, c_124, f_c_124, fn_c_124, c_138, f_c_138, fn_c_138, c_144, c_150]))) ((rW4 ss fr tt (rMa mt fr k) (rMa mt tt k) pa (mm 1) b2 c2).2) (by exact congrArg Prod.snd (rW4_f1 (by simp [rC3, c_32, c_38, c_48, c_73, f_c_73, fn_c_73, c_124, f_c_124, fn_c_124, c_138, f_c_138, fn_c_138, c_144, c_150])))
                            · refine g_aload_n X 0 dX10_setPath_153 rfl ?_
                              refine g_iload_n X 2 dX10_setPath_154 rfl ?_
                              refine g_iload X 4 dX10_setPath_155 rfl ?_
                              refine g_callVr (st2 := [.int (b2i (rWay ss fr tt (rMa mt fr k) (nI b2)))]) (q0 := 0) X (c_X10_isWay E a ((dR s), (dN0 s), (dU s), (dK s), (rW4 ss fr tt (rMa mt fr k) (rMa mt tt k) pa (mm 1) b2 c2).1, (dX s), (dY s), (dS s), (dA s), (dQ s)) ss fr tt (rMa mt fr k) (nI b2) (by first | assumption | omega | exact Nat.zero_le _)) cs_X10_162 rfl [0, 2, 3, 4] [1, 5, 6] 7 rfl (by decide) rfl rfl rfl rfl rfl (Nat.le_of_ble_eq_true rfl) dX10_setPath_157 rfl ?_
                              refine g_bif_eq (tgt := 195) X dX10_setPath_160 (by decide) (fun c_160 => ?_) (fun c_160 => ?_)
                              · refine g_iincN (lv' := [(5, .int (nI (c2 + 1))), (0, .ref (a 0)), (1, .int (nI k)), (2, .int (rMa mt fr k)), (3, .int (rMa mt tt k)), (4, .int (nI b2))]) X 5 dX10_setPath_195 rfl (by decide) rfl ?_
                                refine g_goto (tgt := 130) X dX10_setPath_198 (by decide) ?_
                                refine GG.lv [1, 2, 3, 4, 5, 0] rfl ?_
                                exact ih_130 (c2 + 1) (by omega) (by omega) (nI (c2 + 1)) (by rfl) ((rW4 ss fr tt (rMa mt fr k) (rMa mt tt k) pa (mm 1) b2 c2).1) (by exact congrArg Prod.fst (rW4_f1 (by simp [rC3, c_32, c_38, c_48, c_73, f_c_73, fn_c_73, c_124, f_c_124, fn_c_124, c_138, f_c_138, fn_c_138, c_144, c_150, c_160]))) ((rW4 ss fr tt (rMa mt fr k) (rMa mt tt k) pa (mm 1) b2 c2).2) (by exact congrArg Prod.snd (rW4_f1 (by simp [rC3, c_32, c_38, c_48, c_73, f_c_73, fn_c_73, c_124, f_c_124, fn_c_124, c_138, f_c_138, fn_c_138, c_144, c_150, c_160])))
                              · refine g_aload_n X 0 dX10_setPath_163 rfl ?_
                                refine g_iload X 4 dX10_setPath_164 rfl ?_
                                refine g_iload X 5 dX10_setPath_166 rfl ?_
                                refine g_callVr (st2 := [.int (b2i (rWay ss fr tt (nI b2) (nI c2)))]) (q0 := 0) X (c_X10_isWay E a ((dR s), (dN0 s), (dU s), (dK s), (rW4 ss fr tt (rMa mt fr k) (rMa mt tt k) pa (mm 1) b2 c2).1, (dX s), (dY s), (dS s), (dA s), (dQ s)) ss fr tt (nI b2) (nI c2) (by first | assumption | omega | exact Nat.zero_le _)) cs_X10_162 rfl [0, 2, 3, 4] [1, 5, 6] 7 rfl (by decide) rfl rfl rfl rfl rfl (Nat.le_of_ble_eq_true rfl) dX10_setPath_168 rfl ?_
                                refine g_bif_eq (tgt := 195) X dX10_setPath_171 (by decide) (fun c_171 => ?_) (fun c_171 => ?_)
                                · refine g_iincN (lv' := [(5, .int (nI (c2 + 1))), (0, .ref (a 0)), (1, .int (nI k)), (2, .int (rMa mt fr k)), (3, .int (rMa mt tt k)), (4, .int (nI b2))]) X 5 dX10_setPath_195 rfl (by decide) rfl ?_
                                  refine g_goto (tgt := 130) X dX10_setPath_198 (by decide) ?_
                                  refine GG.lv [1, 2, 3, 4, 5, 0] rfl ?_
                                  exact ih_130 (c2 + 1) (by omega) (by omega) (nI (c2 + 1)) (by rfl) ((rW4 ss fr tt (rMa mt fr k) (rMa mt tt k) pa (mm 1) b2 c2).1) (by exact congrArg Prod.fst (rW4_f1 (by simp [rC3, c_32, c_38, c_48, c_73, f_c_73, fn_c_73, c_124, f_c_124, fn_c_124, c_138, f_c_138, fn_c_138, c_144, c_150, c_160, c_171]))) ((rW4 ss fr tt (rMa mt fr k) (rMa mt tt k) pa (mm 1) b2 c2).2) (by exact congrArg Prod.snd (rW4_f1 (by simp [rC3, c_32, c_38, c_48, c_73, f_c_73, fn_c_73, c_124, f_c_124, fn_c_124, c_138, f_c_138, fn_c_138, c_144, c_150, c_160, c_171])))
                                · refine g_aload_n X 0 dX10_setPath_174 rfl ?_
                                  refine g_iload X 5 dX10_setPath_175 rfl ?_
                                  refine g_iload_n X 3 dX10_setPath_177 rfl ?_
                                  refine g_callVr (st2 := [.int (b2i (rWay ss fr tt (nI c2) (rMa mt tt k)))]) (q0 := 0) X (c_X10_isWay E a ((dR s), (dN0 s), (dU s), (dK s), (rW4 ss fr tt (rMa mt fr k) (rMa mt tt k) pa (mm 1) b2 c2).1, (dX s), (dY s), (dS s), (dA s), (dQ s)) ss fr tt (nI c2) (rMa mt tt k) (by first | assumption | omega | exact Nat.zero_le _)) cs_X10_162 rfl [0, 2, 3, 4] [1, 5, 6] 7 rfl (by decide) rfl rfl rfl rfl rfl (Nat.le_of_ble_eq_true rfl) dX10_setPath_178 rfl ?_
                                  refine g_bif_eq (tgt := 195) X dX10_setPath_181 (by decide) (fun c_181 => ?_) (fun c_181 => ?_)
                                  · refine g_iincN (lv' := [(5, .int (nI (c2 + 1))), (0, .ref (a 0)), (1, .int (nI k)), (2, .int (rMa mt fr k)), (3, .int (rMa mt tt k)), (4, .int (nI b2))]) X 5 dX10_setPath_195 rfl (by decide) rfl ?_
                                    refine g_goto (tgt := 130) X dX10_setPath_198 (by decide) ?_
                                    refine GG.lv [1, 2, 3, 4, 5, 0] rfl ?_
                                    exact ih_130 (c2 + 1) (by omega) (by omega) (nI (c2 + 1)) (by rfl) ((rW4 ss fr tt (rMa mt fr k) (rMa mt tt k) pa (mm 1) b2 c2).1) (by exact congrArg Prod.fst (rW4_f1 (by simp [rC3, c_32, c_38, c_48, c_73, f_c_73, fn_c_73, c_124, f_c_124, fn_c_124, c_138, f_c_138, fn_c_138, c_144, c_150, c_160, c_171, c_181]))) ((rW4 ss fr tt (rMa mt fr k) (rMa mt tt k) pa (mm 1) b2 c2).2) (by exact congrArg Prod.snd (rW4_f1 (by simp [rC3, c_32, c_38, c_48, c_73, f_c_73, fn_c_73, c_124, f_c_124, fn_c_124, c_138, f_c_138, fn_c_138, c_144, c_150, c_160, c_171, c_181])))
                                  · refine g_aload_n X 0 dX10_setPath_184 rfl ?_
                                    refine g_iconst (v := (nI 3)) X dX10_setPath_185 rfl ?_
                                    refine g_iload_n X 2 dX10_setPath_186 rfl ?_
                                    refine g_iload X 4 dX10_setPath_187 rfl ?_
                                    refine g_iload X 5 dX10_setPath_189 rfl ?_
                                    refine g_iload_n X 3 dX10_setPath_191 rfl ?_
                                    refine g_callV (st2 := []) (S' := [wMd E a ((dR s), (dN0 s), (dU s), (dK s), if ((rW4 ss fr tt (rMa mt fr k) (rMa mt tt k) pa (mm 1) b2 c2).1) = 0 then 3 else ((rW4 ss fr tt (rMa mt fr k) (rMa mt tt k) pa (mm 1) b2 c2).1), (dX s), (dY s), (dS s), (dA s), (dQ s)), wAn E (a 2) 2 mm, wAn E (a 3) 2 ss, wAr E (a 7) 16 fr, wAr E (a 8) 16 tt, wAr E (a 17) 16 mt, wAr E (a 20) 4 (if ((rW4 ss fr tt (rMa mt fr k) (rMa mt tt k) pa (mm 1) b2 c2).1) = 0 then upd (upd (upd (upd ((rW4 ss fr tt (rMa mt fr k) (rMa mt tt k) pa (mm 1) b2 c2).2) 0 (rMa mt fr k)) 1 (nI b2)) 2 (nI c2)) 3 (rMa mt tt k) else ((rW4 ss fr tt (rMa mt fr k) (rMa mt tt k) pa (mm 1) b2 c2).2))]) (q0 := 0) X (c_X10_goes E a ((dR s), (dN0 s), (dU s), (dK s), (rW4 ss fr tt (rMa mt fr k) (rMa mt tt k) pa (mm 1) b2 c2).1, (dX s), (dY s), (dS s), (dA s), (dQ s)) ((rW4 ss fr tt (rMa mt fr k) (rMa mt tt k) pa (mm 1) b2 c2).2) 3 (rMa mt fr k) (nI b2) (nI c2) (rMa mt tt k) (by first | assumption | omega | exact Nat.zero_le _)) cs_X10_165 rfl [0, 6] [1, 2, 3, 4, 5] 7 rfl rfl (by decide) [wAn E (a 2) 2 mm, wAn E (a 3) 2 ss, wAr E (a 7) 16 fr, wAr E (a 8) 16 tt, wAr E (a 17) 16 mt] rfl rfl rfl rfl (by simp only [List.map_cons, List.map_nil, fsAn, fsAr, fsMd]) rfl rfl rfl rfl (Nat.le_of_ble_eq_true rfl) dX10_setPath_192 rfl ?_
                                    refine g_iincN (lv' := [(5, .int (nI (c2 + 1))), (0, .ref (a 0)), (1, .int (nI k)), (2, .int (rMa mt fr k)), (3, .int (rMa mt tt k)), (4, .int (nI b2))]) X 5 dX10_setPath_195 rfl (by decide) rfl ?_
                                    refine g_goto (tgt := 130) X dX10_setPath_198 (by decide) ?_
                                    refine GG.lv [1, 2, 3, 4, 5, 0] rfl ?_
                                    exact ih_130 (c2 + 1) (by omega) (by omega) (nI (c2 + 1)) (by rfl) (if ((rW4 ss fr tt (rMa mt fr k) (rMa mt tt k) pa (mm 1) b2 c2).1) = 0 then 3 else ((rW4 ss fr tt (rMa mt fr k) (rMa mt tt k) pa (mm 1) b2 c2).1)) (by exact congrArg Prod.fst (rW4_t1 (by simp [rC3, c_32, c_38, c_48, c_73, f_c_73, fn_c_73, c_124, f_c_124, fn_c_124, c_138, f_c_138, fn_c_138, c_144, c_150, c_160, c_171, c_181]))) (if ((rW4 ss fr tt (rMa mt fr k) (rMa mt tt k) pa (mm 1) b2 c2).1) = 0 then upd (upd (upd (upd ((rW4 ss fr tt (rMa mt fr k) (rMa mt tt k) pa (mm 1) b2 c2).2) 0 (rMa mt fr k)) 1 (nI b2)) 2 (nI c2)) 3 (rMa mt tt k) else ((rW4 ss fr tt (rMa mt fr k) (rMa mt tt k) pa (mm 1) b2 c2).2)) (by exact congrArg Prod.snd (rW4_t1 (by simp [rC3, c_32, c_38, c_48, c_73, f_c_73, fn_c_73, c_124, f_c_124, fn_c_124, c_138, f_c_138, fn_c_138, c_144, c_150, c_160, c_171, c_181])))
                    refine GG.lv [1, 2, 3, 4, 5, 0] rfl ?_
                    exact L_130 (mm 1 + 1) 0 (by omega) (by omega) (nI 0) (by rfl) ((rW3 ss fr tt (rMa mt fr k) (rMa mt tt k) pa (mm 1) b2).1) (by rfl) ((rW3 ss fr tt (rMa mt fr k) (rMa mt tt k) pa (mm 1) b2).2) (by rfl)
              refine GG.lv [1, 2, 3, 4, 0] rfl ?_
              exact L_116 (mm 1 + 1) 0 (by omega) (by omega) (nI 0) (by rfl) ((rW2 ss fr tt (rMa mt fr k) (rMa mt tt k) pa (mm 1)).1) (by rfl) ((rW2 ss fr tt (rMa mt fr k) (rMa mt tt k) pa (mm 1)).2) (by rfl)
            · have f_c_73 : b < mm 1 := n_nle (by omega) (by omega) c_73
              have fn_c_73 := Nat.not_le.mpr f_c_73
              refine g_aload_n X 0 dX10_setPath_76 rfl ?_
              refine g_iload_n X 2 dX10_setPath_77 rfl ?_
              refine g_iload X 4 dX10_setPath_78 rfl ?_
              refine g_callVr (st2 := [.int (b2i (rWay ss fr tt (rMa mt fr k) (nI b)))]) (q0 := 0) X (c_X10_isWay E a ((dR s), (dN0 s), (dU s), (dK s), (rW2 ss fr tt (rMa mt fr k) (rMa mt tt k) pa b).1, (dX s), (dY s), (dS s), (dA s), (dQ s)) ss fr tt (rMa mt fr k) (nI b) (by first | assumption | omega | exact Nat.zero_le _)) cs_X10_162 rfl [0, 2, 3, 4] [1, 5, 6] 7 rfl (by decide) rfl rfl rfl rfl rfl (Nat.le_of_ble_eq_true rfl) dX10_setPath_80 rfl ?_
              refine g_bif_eq (tgt := 107) X dX10_setPath_83 (by decide) (fun c_83 => ?_) (fun c_83 => ?_)
              · refine g_iincN (lv' := [(4, .int (nI (b + 1))), (0, .ref (a 0)), (1, .int (nI k)), (2, .int (rMa mt fr k)), (3, .int (rMa mt tt k))]) X 4 dX10_setPath_107 rfl (by decide) rfl ?_
                refine g_goto (tgt := 65) X dX10_setPath_110 (by decide) ?_
                refine GG.lv [1, 2, 3, 4, 0] rfl ?_
                exact ih_65 (b + 1) (by omega) (by omega) (nI (b + 1)) (by rfl) ((rW2 ss fr tt (rMa mt fr k) (rMa mt tt k) pa b).1) (by exact congrArg Prod.fst (rW2_f1 (by simp [c_32, c_38, c_48, c_73, f_c_73, fn_c_73, c_83]))) ((rW2 ss fr tt (rMa mt fr k) (rMa mt tt k) pa b).2) (by exact congrArg Prod.snd (rW2_f1 (by simp [c_32, c_38, c_48, c_73, f_c_73, fn_c_73, c_83])))
              · refine g_aload_n X 0 dX10_setPath_86 rfl ?_
                refine g_iload X 4 dX10_setPath_87 rfl ?_
                refine g_iload_n X 3 dX10_setPath_89 rfl ?_
                refine g_callVr (st2 := [.int (b2i (rWay ss fr tt (nI b) (rMa mt tt k)))]) (q0 := 0) X (c_X10_isWay E a ((dR s), (dN0 s), (dU s), (dK s), (rW2 ss fr tt (rMa mt fr k) (rMa mt tt k) pa b).1, (dX s), (dY s), (dS s), (dA s), (dQ s)) ss fr tt (nI b) (rMa mt tt k) (by first | assumption | omega | exact Nat.zero_le _)) cs_X10_162 rfl [0, 2, 3, 4] [1, 5, 6] 7 rfl (by decide) rfl rfl rfl rfl rfl (Nat.le_of_ble_eq_true rfl) dX10_setPath_90 rfl ?_
                refine g_bif_eq (tgt := 107) X dX10_setPath_93 (by decide) (fun c_93 => ?_) (fun c_93 => ?_)
                · refine g_iincN (lv' := [(4, .int (nI (b + 1))), (0, .ref (a 0)), (1, .int (nI k)), (2, .int (rMa mt fr k)), (3, .int (rMa mt tt k))]) X 4 dX10_setPath_107 rfl (by decide) rfl ?_
                  refine g_goto (tgt := 65) X dX10_setPath_110 (by decide) ?_
                  refine GG.lv [1, 2, 3, 4, 0] rfl ?_
                  exact ih_65 (b + 1) (by omega) (by omega) (nI (b + 1)) (by rfl) ((rW2 ss fr tt (rMa mt fr k) (rMa mt tt k) pa b).1) (by exact congrArg Prod.fst (rW2_f1 (by simp [c_32, c_38, c_48, c_73, f_c_73, fn_c_73, c_83, c_93]))) ((rW2 ss fr tt (rMa mt fr k) (rMa mt tt k) pa b).2) (by exact congrArg Prod.snd (rW2_f1 (by simp [c_32, c_38, c_48, c_73, f_c_73, fn_c_73, c_83, c_93])))
                · refine g_aload_n X 0 dX10_setPath_96 rfl ?_
                  refine g_iconst (v := (nI 2)) X dX10_setPath_97 rfl ?_
                  refine g_iload_n X 2 dX10_setPath_98 rfl ?_
                  refine g_iload X 4 dX10_setPath_99 rfl ?_
                  refine g_iload_n X 3 dX10_setPath_101 rfl ?_
                  refine g_bipush (v := (-4)) X dX10_setPath_102 rfl ?_
                  refine g_callV (st2 := []) (S' := [wMd E a ((dR s), (dN0 s), (dU s), (dK s), if ((rW2 ss fr tt (rMa mt fr k) (rMa mt tt k) pa b).1) = 0 then 2 else ((rW2 ss fr tt (rMa mt fr k) (rMa mt tt k) pa b).1), (dX s), (dY s), (dS s), (dA s), (dQ s)), wAn E (a 2) 2 mm, wAn E (a 3) 2 ss, wAr E (a 7) 16 fr, wAr E (a 8) 16 tt, wAr E (a 17) 16 mt, wAr E (a 20) 4 (if ((rW2 ss fr tt (rMa mt fr k) (rMa mt tt k) pa b).1) = 0 then upd (upd (upd (upd ((rW2 ss fr tt (rMa mt fr k) (rMa mt tt k) pa b).2) 0 (rMa mt fr k)) 1 (nI b)) 2 (rMa mt tt k)) 3 (-4) else ((rW2 ss fr tt (rMa mt fr k) (rMa mt tt k) pa b).2))]) (q0 := 0) X (c_X10_goes E a ((dR s), (dN0 s), (dU s), (dK s), (rW2 ss fr tt (rMa mt fr k) (rMa mt tt k) pa b).1, (dX s), (dY s), (dS s), (dA s), (dQ s)) ((rW2 ss fr tt (rMa mt fr k) (rMa mt tt k) pa b).2) 2 (rMa mt fr k) (nI b) (rMa mt tt k) (-4) (by first | assumption | omega | exact Nat.zero_le _)) cs_X10_165 rfl [0, 6] [1, 2, 3, 4, 5] 7 rfl rfl (by decide) [wAn E (a 2) 2 mm, wAn E (a 3) 2 ss, wAr E (a 7) 16 fr, wAr E (a 8) 16 tt, wAr E (a 17) 16 mt] rfl rfl rfl rfl (by simp only [List.map_cons, List.map_nil, fsAn, fsAr, fsMd]) rfl rfl rfl rfl (Nat.le_of_ble_eq_true rfl) dX10_setPath_104 rfl ?_
                  refine g_iincN (lv' := [(4, .int (nI (b + 1))), (0, .ref (a 0)), (1, .int (nI k)), (2, .int (rMa mt fr k)), (3, .int (rMa mt tt k))]) X 4 dX10_setPath_107 rfl (by decide) rfl ?_
                  refine g_goto (tgt := 65) X dX10_setPath_110 (by decide) ?_
                  refine GG.lv [1, 2, 3, 4, 0] rfl ?_
                  exact ih_65 (b + 1) (by omega) (by omega) (nI (b + 1)) (by rfl) (if ((rW2 ss fr tt (rMa mt fr k) (rMa mt tt k) pa b).1) = 0 then 2 else ((rW2 ss fr tt (rMa mt fr k) (rMa mt tt k) pa b).1)) (by exact congrArg Prod.fst (rW2_t1 (by simp [c_32, c_38, c_48, c_73, f_c_73, fn_c_73, c_83, c_93]))) (if ((rW2 ss fr tt (rMa mt fr k) (rMa mt tt k) pa b).1) = 0 then upd (upd (upd (upd ((rW2 ss fr tt (rMa mt fr k) (rMa mt tt k) pa b).2) 0 (rMa mt fr k)) 1 (nI b)) 2 (rMa mt tt k)) 3 (-4) else ((rW2 ss fr tt (rMa mt fr k) (rMa mt tt k) pa b).2)) (by exact congrArg Prod.snd (rW2_t1 (by simp [c_32, c_38, c_48, c_73, f_c_73, fn_c_73, c_83, c_93])))
        refine GG.lv [3, 4, 2, 1, 0] rfl ?_
        exact L_65 (mm 1 + 1) 0 (by omega) (by omega) (nI 0) (by rfl) (if 0 = 0 then 1 else 0) (by first | (unfold rW2 rW1 rP1; rw [if_pos c_48]; rfl) | (unfold rW2 rW1 rP1; rw [if_neg (by rw [c_48]; decide)]; rfl)) (if 0 = 0 then upd (upd (upd (upd pa 0 (rMa mt fr k)) 1 (rMa mt tt k)) 2 (-4)) 3 (-4) else pa) (by first | (unfold rW2 rW1 rP1; rw [if_pos c_48]; rfl) | (unfold rW2 rW1 rP1; rw [if_neg (by rw [c_48]; decide)]; rfl))
    · exact g_vret X hx rfl rfl (by rw [show rPt mm ss fr tt mt k pa = (0, pa) by unfold rPt rPth; exact if_pos (Or.inr c_38)]) dX10_setPath_41
set_option maxHeartbeats 4000000 in
set_option maxRecDepth 100000 in
theorem c_X10_told (E : GE) (a : Nat → Nat) (s : MD0) (mm : Nat → Nat) (ss : Nat → Nat) (kd : Nat → Int32) (xo : Nat → Int32) (yo : Nat → Int32) (fr : Nat → Int32) (tt : Nat → Int32) (be : Nat → Int32) (nx : Nat → Int32) (mt : Nat → Int32) (pa : Nat → Int32) (z : Int32) (k : Int32) (hmm : ∀ g, g < 2 → mm g ≤ 8) (hss : ∀ g, g < 2 → ss g ≤ 8) (hE : okE ss fr tt) (hN : dN0 s ≤ 3) : CT E m_X10_told [.ref (a 0), .int z, .int k] ([wMd E a s, wAn E (a 2) 2 mm, wAn E (a 3) 2 ss, wAr E (a 4) 16 kd, wAr E (a 5) 16 xo, wAr E (a 6) 16 yo, wAr E (a 7) 16 fr, wAr E (a 8) 16 tt, wAr E (a 15) 64 be, wAr E (a 16) 64 nx, wAr E (a 17) 16 mt, wAr E (a 20) 4 pa].flatten) (some (.int (if rTolA ss z k then rTol (rPt mm ss fr tt (rMts false (rBelAll (dR s) (dN0 s) mm ss kd xo yo fr tt (be, nx)).1 mt) z.toNatClampNeg pa) k else -1))) ([wMd E a (dR s, dN0 s, dU s, dK s, if rTolA ss z k then (rPt mm ss fr tt (rMts false (rBelAll (dR s) (dN0 s) mm ss kd xo yo fr tt (be, nx)).1 mt) z.toNatClampNeg pa).1 else dP s, dX s, dY s, dS s, dA s, dQ s), wAn E (a 2) 2 mm, wAn E (a 3) 2 ss, wAr E (a 4) 16 kd, wAr E (a 5) 16 xo, wAr E (a 6) 16 yo, wAr E (a 7) 16 fr, wAr E (a 8) 16 tt, wAr E (a 15) 64 (if rTolA ss z k then (rBelAll (dR s) (dN0 s) mm ss kd xo yo fr tt (be, nx)).1 else be), wAr E (a 16) 64 (if rTolA ss z k then (rBelAll (dR s) (dN0 s) mm ss kd xo yo fr tt (be, nx)).2 else nx), wAr E (a 17) 16 (if rTolA ss z k then rMts false (rBelAll (dR s) (dN0 s) mm ss kd xo yo fr tt (be, nx)).1 mt else mt), wAr E (a 20) 4 (if rTolA ss z k then (rPt mm ss fr tt (rMts false (rBelAll (dR s) (dN0 s) mm ss kd xo yo fr tt (be, nx)).1 mt) z.toNatClampNeg pa).2 else pa)].flatten) := by
  refine CT.intro (by decide +kernel) (Nat.le_of_ble_eq_true rfl) (fun Γ X hx => ?_)
  refine GG.lv [0, 1, 2] (lv' := [(0, .ref (a 0)), (1, .int z), (2, .int k)]) rfl ?_
  have hm0 := hmm 0 (by decide)
  have hm1 := hmm 1 (by decide)
  have hs0 := hss 0 (by decide)
  have hs1 := hss 1 (by decide)
  refine g_aload_n X 0 dX10_told_0 rfl ?_
  refine g_iconst (v := (nI 0)) X dX10_told_1 rfl ?_
  refine g_iload_n X 1 dX10_told_2 rfl ?_
  refine g_callVr (st2 := [.int (b2i (hasR ss (nI 0) z))]) (q0 := 0) X (c_X10_isStreet E a s ss (nI 0) z) cs_X10_104 rfl [0, 2] [1, 3, 4, 5, 6, 7, 8, 9, 10, 11] 12 rfl (by decide) rfl rfl rfl rfl rfl (Nat.le_of_ble_eq_true rfl) dX10_told_3 rfl ?_
  refine g_bif_eq (tgt := 14) X dX10_told_6 (by decide) (fun c_6 => ?_) (fun c_6 => ?_)
  · refine g_iconst (v := (-1)) X dX10_told_14 rfl ?_
    exact g_iretv (r := (-1)) X hx rfl (by simp only [rTolA, c_6, decide_true, decide_false, not_true_eq_false, not_false_eq_true, Bool.true_and, Bool.false_and, Bool.and_true, Bool.and_false, Bool.true_or, Bool.false_or, Bool.or_true, Bool.or_false, and_true, true_and, and_false, false_and, or_true, true_or, or_false, false_or, if_true, if_false, Bool.false_eq_true, decide_eq_true_eq]) (by simp only [rTolA, c_6, decide_true, decide_false, not_true_eq_false, not_false_eq_true, Bool.true_and, Bool.false_and, Bool.and_true, Bool.and_false, Bool.true_or, Bool.false_or, Bool.or_true, Bool.or_false, and_true, true_and, and_false, false_and, or_true, true_or, or_false, false_or, if_true, if_false, Bool.false_eq_true, decide_eq_true_eq]) dX10_told_15
  · refine g_iload_n X 2 dX10_told_9 rfl ?_
    refine g_iconst (v := (-1)) X dX10_told_10 rfl ?_
    refine g_icmp_ge (tgt := 16) X dX10_told_11 (by decide) (fun c_11 => ?_) (fun c_11 => ?_)
    · obtain ⟨j, hj, rfl⟩ := hasR_0 hss c_6
      refine g_aload_n X 0 dX10_told_16 rfl ?_
      refine g_callV (st2 := []) (S' := [wMd E a s, wAn E (a 2) 2 mm, wAn E (a 3) 2 ss, wAr E (a 4) 16 kd, wAr E (a 5) 16 xo, wAr E (a 6) 16 yo, wAr E (a 7) 16 fr, wAr E (a 8) 16 tt, wAr E (a 15) 64 ((rBelAll (dR s) (dN0 s) mm ss kd xo yo fr tt (be, nx)).1), wAr E (a 16) 64 ((rBelAll (dR s) (dN0 s) mm ss kd xo yo fr tt (be, nx)).2), wAr E (a 17) 16 (rMts false (rBelAll (dR s) (dN0 s) mm ss kd xo yo fr tt (be, nx)).1 mt), wAr E (a 20) 4 pa]) (q0 := 0) X (c_X10_setMatches E a s mm ss kd xo yo fr tt be nx mt (by first | assumption | omega | exact Nat.zero_le _) (by first | assumption | omega | exact Nat.zero_le _) (by first | assumption | omega | exact Nat.zero_le _) (by first | assumption | omega | exact Nat.zero_le _)) cs_X10_156 rfl [0, 1, 2, 3, 4, 5, 6, 7, 8, 9, 10] [11] 12 rfl rfl (by decide) [wAr E (a 20) 4 pa] rfl rfl rfl rfl (by simp only [List.map_cons, List.map_nil, fsAn, fsAr, fsMd]) rfl rfl rfl rfl (Nat.le_of_ble_eq_true rfl) dX10_told_17 rfl ?_
      refine g_aload_n X 0 dX10_told_20 rfl ?_
      refine g_iload_n X 1 dX10_told_21 rfl ?_
      refine g_callV (st2 := []) (S' := [wMd E a (dR s, dN0 s, dU s, dK s, (rPt mm ss fr tt (rMts false (rBelAll (dR s) (dN0 s) mm ss kd xo yo fr tt (be, nx)).1 mt) j pa).1, dX s, dY s, dS s, dA s, dQ s), wAn E (a 2) 2 mm, wAn E (a 3) 2 ss, wAr E (a 4) 16 kd, wAr E (a 5) 16 xo, wAr E (a 6) 16 yo, wAr E (a 7) 16 fr, wAr E (a 8) 16 tt, wAr E (a 15) 64 ((rBelAll (dR s) (dN0 s) mm ss kd xo yo fr tt (be, nx)).1), wAr E (a 16) 64 ((rBelAll (dR s) (dN0 s) mm ss kd xo yo fr tt (be, nx)).2), wAr E (a 17) 16 (rMts false (rBelAll (dR s) (dN0 s) mm ss kd xo yo fr tt (be, nx)).1 mt), wAr E (a 20) 4 ((rPt mm ss fr tt (rMts false (rBelAll (dR s) (dN0 s) mm ss kd xo yo fr tt (be, nx)).1 mt) j pa).2)]) (q0 := 0) X (c_X10_setPath E a s mm ss fr tt (rMts false (rBelAll (dR s) (dN0 s) mm ss kd xo yo fr tt (be, nx)).1 mt) pa j (by first | assumption | omega | exact Nat.zero_le _) (by first | assumption | omega | exact Nat.zero_le _) (by first | assumption | omega | exact Nat.zero_le _) (by first | assumption | omega | exact Nat.zero_le _)) cs_X10_169 rfl [0, 1, 2, 6, 7, 10, 11] [3, 4, 5, 8, 9] 12 rfl rfl (by decide) [wAr E (a 4) 16 kd, wAr E (a 5) 16 xo, wAr E (a 6) 16 yo, wAr E (a 15) 64 ((rBelAll (dR s) (dN0 s) mm ss kd xo yo fr tt (be, nx)).1), wAr E (a 16) 64 ((rBelAll (dR s) (dN0 s) mm ss kd xo yo fr tt (be, nx)).2)] rfl rfl rfl rfl (by simp only [List.map_cons, List.map_nil, fsAn, fsAr, fsMd]) rfl rfl rfl rfl (Nat.le_of_ble_eq_true rfl) dX10_told_22 rfl ?_
      have hle := rPt_le mm ss fr tt (rMts false (rBelAll (dR s) (dN0 s) mm ss kd xo yo fr tt (be, nx)).1 mt) j pa
      refine g_aload_n X 0 dX10_told_25 rfl ?_
      refine g_getf (v := .int (nI ((rPt mm ss fr tt (rMts false (rBelAll (dR s) (dN0 s) mm ss kd xo yo fr tt (be, nx)).1 mt) j pa).1))) X fs_X10_159 0 rfl rfl dX10_told_26 ?_
      refine g_if_ne (tgt := 35) X dX10_told_29 (by decide) (fun c_29 => ?_) (fun c_29 => ?_)
      · have f_c_29 : ¬ ((rPt mm ss fr tt (rMts false (rBelAll (dR s) (dN0 s) mm ss kd xo yo fr tt (be, nx)).1 mt) j pa).1) = 0 := n_ne (by omega) (by omega) c_29
        refine g_iload_n X 2 dX10_told_35 rfl ?_
        refine g_iconst (v := (-1)) X dX10_told_36 rfl ?_
        refine g_icmp_ne (tgt := 47) X dX10_told_37 (by decide) (fun c_37 => ?_) (fun c_37 => ?_)
        · refine g_iload_n X 2 dX10_told_47 rfl ?_
          refine g_aload_n X 0 dX10_told_48 rfl ?_
          refine g_getf (v := .int (nI ((rPt mm ss fr tt (rMts false (rBelAll (dR s) (dN0 s) mm ss kd xo yo fr tt (be, nx)).1 mt) j pa).1))) X fs_X10_159 0 rfl rfl dX10_told_49 ?_
          refine g_icmp_gt (tgt := 64) X dX10_told_52 (by decide) (fun c_52 => ?_) (fun c_52 => ?_)
          · refine g_bipush (v := (-4)) X dX10_told_64 rfl ?_
            exact g_iretv (r := (-4)) X hx rfl (by simp only [rTolA, rTol, eq_true (show (-1 : Int32) ≤ -1 by decide), nI_clamp (show j < 2 ^ 31 by omega), c_6, c_11, c_29, f_c_29, c_37, c_52, decide_true, decide_false, not_true_eq_false, not_false_eq_true, Bool.true_and, Bool.false_and, Bool.and_true, Bool.and_false, Bool.true_or, Bool.false_or, Bool.or_true, Bool.or_false, and_true, true_and, and_false, false_and, or_true, true_or, or_false, false_or, if_true, if_false, Bool.false_eq_true, decide_eq_true_eq]) (by simp only [rTolA, eq_true (show (-1 : Int32) ≤ -1 by decide), nI_clamp (show j < 2 ^ 31 by omega), c_6, c_11, c_29, f_c_29, c_37, c_52, decide_true, decide_false, not_true_eq_false, not_false_eq_true, Bool.true_and, Bool.false_and, Bool.and_true, Bool.and_false, Bool.true_or, Bool.false_or, Bool.or_true, Bool.or_false, and_true, true_and, and_false, false_and, or_true, true_or, or_false, false_or, if_true, if_false, Bool.false_eq_true, decide_eq_true_eq]) dX10_told_66
          · refine g_aload_n X 0 dX10_told_55 rfl ?_
            refine g_getf (v := .ref (a 20)) X fs_X10_62 0 rfl rfl dX10_told_56 ?_
            refine g_iload_n X 2 dX10_told_59 rfl ?_
            refine g_iald X 11 rfl k.toNatClampNeg (told_ix c_11 c_37 c_52 hle) dX10_told_60 ?_
            refine g_goto (tgt := 66) X dX10_told_61 (by decide) ?_
            exact g_iretv (r := (((rPt mm ss fr tt (rMts false (rBelAll (dR s) (dN0 s) mm ss kd xo yo fr tt (be, nx)).1 mt) j pa).2) k.toNatClampNeg)) X hx rfl (by simp only [rTolA, rTol, eq_true (show (-1 : Int32) ≤ -1 by decide), nI_clamp (show j < 2 ^ 31 by omega), c_6, c_11, c_29, f_c_29, c_37, c_52, decide_true, decide_false, not_true_eq_false, not_false_eq_true, Bool.true_and, Bool.false_and, Bool.and_true, Bool.and_false, Bool.true_or, Bool.false_or, Bool.or_true, Bool.or_false, and_true, true_and, and_false, false_and, or_true, true_or, or_false, false_or, if_true, if_false, Bool.false_eq_true, decide_eq_true_eq]) (by simp only [rTolA, eq_true (show (-1 : Int32) ≤ -1 by decide), nI_clamp (show j < 2 ^ 31 by omega), c_6, c_11, c_29, f_c_29, c_37, c_52, decide_true, decide_false, not_true_eq_false, not_false_eq_true, Bool.true_and, Bool.false_and, Bool.and_true, Bool.and_false, Bool.true_or, Bool.false_or, Bool.or_true, Bool.or_false, and_true, true_and, and_false, false_and, or_true, true_or, or_false, false_or, if_true, if_false, Bool.false_eq_true, decide_eq_true_eq]) dX10_told_66
        · refine g_aload_n X 0 dX10_told_40 rfl ?_
          refine g_getf (v := .int (nI ((rPt mm ss fr tt (rMts false (rBelAll (dR s) (dN0 s) mm ss kd xo yo fr tt (be, nx)).1 mt) j pa).1))) X fs_X10_159 0 rfl rfl dX10_told_41 ?_
          refine g_goto (tgt := 66) X dX10_told_44 (by decide) ?_
          exact g_iretv (r := (nI ((rPt mm ss fr tt (rMts false (rBelAll (dR s) (dN0 s) mm ss kd xo yo fr tt (be, nx)).1 mt) j pa).1))) X hx rfl (by simp only [rTolA, rTol, eq_true (show (-1 : Int32) ≤ -1 by decide), nI_clamp (show j < 2 ^ 31 by omega), c_6, c_11, c_29, f_c_29, c_37, decide_true, decide_false, not_true_eq_false, not_false_eq_true, Bool.true_and, Bool.false_and, Bool.and_true, Bool.and_false, Bool.true_or, Bool.false_or, Bool.or_true, Bool.or_false, and_true, true_and, and_false, false_and, or_true, true_or, or_false, false_or, if_true, if_false, Bool.false_eq_true, decide_eq_true_eq]) (by simp only [rTolA, eq_true (show (-1 : Int32) ≤ -1 by decide), nI_clamp (show j < 2 ^ 31 by omega), c_6, c_11, c_29, f_c_29, c_37, decide_true, decide_false, not_true_eq_false, not_false_eq_true, Bool.true_and, Bool.false_and, Bool.and_true, Bool.and_false, Bool.true_or, Bool.false_or, Bool.or_true, Bool.or_false, and_true, true_and, and_false, false_and, or_true, true_or, or_false, false_or, if_true, if_false, Bool.false_eq_true, decide_eq_true_eq]) dX10_told_66
      · have f_c_29 : ((rPt mm ss fr tt (rMts false (rBelAll (dR s) (dN0 s) mm ss kd xo yo fr tt (be, nx)).1 mt) j pa).1) = 0 := n_eq (by omega) (by omega) c_29
        refine g_bipush (v := (-4)) X dX10_told_32 rfl ?_
        exact g_iretv (r := (-4)) X hx rfl (by simp only [rTolA, rTol, eq_true (show (-1 : Int32) ≤ -1 by decide), nI_clamp (show j < 2 ^ 31 by omega), c_6, c_11, c_29, f_c_29, decide_true, decide_false, not_true_eq_false, not_false_eq_true, Bool.true_and, Bool.false_and, Bool.and_true, Bool.and_false, Bool.true_or, Bool.false_or, Bool.or_true, Bool.or_false, and_true, true_and, and_false, false_and, or_true, true_or, or_false, false_or, if_true, if_false, Bool.false_eq_true, decide_eq_true_eq]) (by simp only [rTolA, eq_true (show (-1 : Int32) ≤ -1 by decide), nI_clamp (show j < 2 ^ 31 by omega), c_6, c_11, c_29, f_c_29, decide_true, decide_false, not_true_eq_false, not_false_eq_true, Bool.true_and, Bool.false_and, Bool.and_true, Bool.and_false, Bool.true_or, Bool.false_or, Bool.or_true, Bool.or_false, and_true, true_and, and_false, false_and, or_true, true_or, or_false, false_or, if_true, if_false, Bool.false_eq_true, decide_eq_true_eq]) dX10_told_34
    · refine g_iconst (v := (-1)) X dX10_told_14 rfl ?_
      exact g_iretv (r := (-1)) X hx rfl (by simp only [rTolA, c_6, c_11, decide_true, decide_false, not_true_eq_false, not_false_eq_true, Bool.true_and, Bool.false_and, Bool.and_true, Bool.and_false, Bool.true_or, Bool.false_or, Bool.or_true, Bool.or_false, and_true, true_and, and_false, false_and, or_true, true_or, or_false, false_or, if_true, if_false, Bool.false_eq_true, decide_eq_true_eq]) (by simp only [rTolA, c_6, c_11, decide_true, decide_false, not_true_eq_false, not_false_eq_true, Bool.true_and, Bool.false_and, Bool.and_true, Bool.and_false, Bool.true_or, Bool.false_or, Bool.or_true, Bool.or_false, and_true, true_and, and_false, false_and, or_true, true_or, or_false, false_or, if_true, if_false, Bool.false_eq_true, decide_eq_true_eq]) dX10_told_15
set_option maxHeartbeats 4000000 in
set_option maxRecDepth 100000 in
theorem c_X10_nameBy (E : GE) (a : Nat → Nat) (s : MD0) (ss : Nat → Nat) (fr : Nat → Int32) (tt : Nat → Int32) (nm : Nat → Int32) (pa : Nat → Int32) (hss : ∀ g, g < 2 → ss g ≤ 8) (hP1 : 1 ≤ dP s) (hP : dP s ≤ 3) (hway : ∀ k, k < dP s → ∃ j, j < ss 1 ∧ rBet ss fr tt 1 (pa k) (pa (k + 1)) = nI j) : CT E m_X10_nameBy [.ref (a 0)] ([wMd E a s, wAn E (a 3) 2 ss, wAr E (a 7) 16 fr, wAr E (a 8) 16 tt, wAr E (a 9) 16 nm, wAr E (a 20) 4 pa].flatten) (some (.int (rNmF ss fr tt nm pa (dP s - 1)))) ([wMd E a s, wAn E (a 3) 2 ss, wAr E (a 7) 16 fr, wAr E (a 8) 16 tt, wAr E (a 9) 16 nm, wAr E (a 20) 4 pa].flatten) := by
  refine CT.intro (by decide +kernel) (Nat.le_of_ble_eq_true rfl) (fun Γ X hx => ?_)
  refine GG.lv [0] (lv' := [(0, .ref (a 0))]) rfl ?_
  have hs0 := hss 0 (by decide)
  have hs1 := hss 1 (by decide)
  refine g_aload_n X 0 dX10_nameBy_0 rfl ?_
  refine g_getf (v := .ref (a 9)) X fs_X10_38 0 rfl rfl dX10_nameBy_1 ?_
  refine g_bipush (v := (nI 8)) X dX10_nameBy_4 rfl ?_
  refine g_aload_n X 0 dX10_nameBy_6 rfl ?_
  refine g_iconst (v := (nI 1)) X dX10_nameBy_7 rfl ?_
  refine g_aload_n X 0 dX10_nameBy_8 rfl ?_
  refine g_getf (v := .ref (a 20)) X fs_X10_62 0 rfl rfl dX10_nameBy_9 ?_
  refine g_iconst (v := (nI 0)) X dX10_nameBy_12 rfl ?_
  refine g_iald X 5 rfl 0 (ix_nI (by omega) (by decide)) dX10_nameBy_13 ?_
  refine g_aload_n X 0 dX10_nameBy_14 rfl ?_
  refine g_getf (v := .ref (a 20)) X fs_X10_62 0 rfl rfl dX10_nameBy_15 ?_
  refine g_iconst (v := (nI 1)) X dX10_nameBy_18 rfl ?_
  refine g_iald X 5 rfl 1 (ix_nI (by omega) (by decide)) dX10_nameBy_19 ?_
  refine g_callVr (st2 := [.int (rBet ss fr tt 1 (pa 0) (pa 1)), .int (nI 8), .ref (a 9)]) (q0 := 0) X (c_X10_between E a s ss fr tt 1 (pa 0) (pa 1) (by first | assumption | omega | exact Nat.zero_le _) (by first | assumption | omega | exact Nat.zero_le _)) cs_X10_121 rfl [0, 1, 2, 3] [4, 5] 6 rfl (by decide) rfl rfl rfl rfl rfl (Nat.le_of_ble_eq_true rfl) dX10_nameBy_20 rfl ?_
  obtain ⟨j0, hj0, ej0⟩ := hway 0 (by omega)
  have ej0 : rBet ss fr tt 1 (pa 0) (pa 1) = nI j0 := ej0
  rw [ej0]
  refine g_iaddN X dX10_nameBy_23 ?_
  refine g_iald X 4 rfl (8 + j0) (ix_nI (by omega) (by decide)) dX10_nameBy_24 ?_
  refine g_istore_n (lv' := [(1, .int (nm (8 + j0))), (0, .ref (a 0))]) X dX10_nameBy_25 (by decide) rfl ?_
  refine g_iconst (v := (nI 1)) X dX10_nameBy_26 rfl ?_
  refine g_istore_n (lv' := [(2, .int (nI 1)), (1, .int (nm (8 + j0))), (0, .ref (a 0))]) X dX10_nameBy_27 (by decide) rfl ?_
  have L_28 : ∀ (n_28 : Nat) (k : Nat) (hk : k ≤ dP s) (hk1 : 1 ≤ k) (hm_28 : dP s - k < n_28) (x_1 : Int32) (ex_1 : x_1 = (rNmF ss fr tt nm pa (k - 1))) (x_2 : Int32) (ex_2 : x_2 = (nI k)), GG E m_X10_nameBy Γ 0 0 ([wMd E a s, wAn E (a 3) 2 ss, wAr E (a 7) 16 fr, wAr E (a 8) 16 tt, wAr E (a 9) 16 nm, wAr E (a 20) 4 pa].flatten) [(0, .ref (a 0)), (1, .int x_1), (2, .int x_2)] 28 [] := by
    intro n_28
    induction n_28 with
    | zero => intro k hk hk1 hm_28; exact absurd hm_28 (Nat.not_lt_zero _)
    | succ n_28 ih_28 =>
      intro k hk hk1 hm_28 x_1 ex_1 x_2 ex_2
      subst ex_1
      subst ex_2
      refine g_iload_n X 2 dX10_nameBy_28 rfl ?_
      refine g_aload_n X 0 dX10_nameBy_29 rfl ?_
      refine g_getf (v := .int (nI (dP s))) X fs_X10_159 0 rfl rfl dX10_nameBy_30 ?_
      refine g_icmp_ge (tgt := 79) X dX10_nameBy_33 (by decide) (fun c_33 => ?_) (fun c_33 => ?_)
      · have f_c_33 : dP s ≤ k := n_le (by omega) (by omega) c_33
        have fn_c_33 := Nat.not_lt.mpr f_c_33
        refine g_iload_n X 1 dX10_nameBy_79 rfl ?_
        exact g_iretv (r := (rNmF ss fr tt nm pa (k - 1))) X hx rfl (by rw [show dP s = k by omega]) (by rfl) dX10_nameBy_80
      · have f_c_33 : k < dP s := n_nle (by omega) (by omega) c_33
        have fn_c_33 := Nat.not_le.mpr f_c_33
        refine g_aload_n X 0 dX10_nameBy_36 rfl ?_
        refine g_getf (v := .ref (a 9)) X fs_X10_38 0 rfl rfl dX10_nameBy_37 ?_
        refine g_bipush (v := (nI 8)) X dX10_nameBy_40 rfl ?_
        refine g_aload_n X 0 dX10_nameBy_42 rfl ?_
        refine g_iconst (v := (nI 1)) X dX10_nameBy_43 rfl ?_
        refine g_aload_n X 0 dX10_nameBy_44 rfl ?_
        refine g_getf (v := .ref (a 20)) X fs_X10_62 0 rfl rfl dX10_nameBy_45 ?_
        refine g_iload_n X 2 dX10_nameBy_48 rfl ?_
        refine g_iald X 5 rfl k (ix_nI (by omega) (by decide)) dX10_nameBy_49 ?_
        refine g_aload_n X 0 dX10_nameBy_50 rfl ?_
        refine g_getf (v := .ref (a 20)) X fs_X10_62 0 rfl rfl dX10_nameBy_51 ?_
        refine g_iload_n X 2 dX10_nameBy_54 rfl ?_
        refine g_iconst (v := (nI 1)) X dX10_nameBy_55 rfl ?_
        refine g_iaddN X dX10_nameBy_56 ?_
        refine g_iald X 5 rfl (k + 1) (ix_nI (by omega) (by decide)) dX10_nameBy_57 ?_
        refine g_callVr (st2 := [.int (rBet ss fr tt 1 (pa k) (pa (k + 1))), .int (nI 8), .ref (a 9)]) (q0 := 0) X (c_X10_between E a s ss fr tt 1 (pa k) (pa (k + 1)) (by first | assumption | omega | exact Nat.zero_le _) (by first | assumption | omega | exact Nat.zero_le _)) cs_X10_121 rfl [0, 1, 2, 3] [4, 5] 6 rfl (by decide) rfl rfl rfl rfl rfl (Nat.le_of_ble_eq_true rfl) dX10_nameBy_58 rfl ?_
        obtain ⟨j1, hj1, ej1⟩ := hway k (by omega)
        rw [ej1]
        refine g_iaddN X dX10_nameBy_61 ?_
        refine g_iald X 4 rfl (8 + j1) (ix_nI (by omega) (by decide)) dX10_nameBy_62 ?_
        refine g_iload_n X 1 dX10_nameBy_63 rfl ?_
        refine g_icmp_ne (tgt := 71) X dX10_nameBy_64 (by decide) (fun c_64 => ?_) (fun c_64 => ?_)
        · refine g_iconst (v := (nI 0)) X dX10_nameBy_71 rfl ?_
          refine g_istore_n (lv' := [(1, .int (nI 0)), (0, .ref (a 0)), (2, .int (nI k))]) X dX10_nameBy_72 (by decide) rfl ?_
          refine g_iincN (lv' := [(2, .int (nI (k + 1))), (1, .int (nI 0)), (0, .ref (a 0))]) X 2 dX10_nameBy_73 rfl (by decide) rfl ?_
          refine g_goto (tgt := 28) X dX10_nameBy_76 (by decide) ?_
          refine GG.lv [2, 1, 0] rfl ?_
          exact ih_28 (k + 1) (by omega) (by omega) (by omega) (nI 0) (by rw [show k + 1 - 1 = (k - 1) + 1 by omega, rNmF_s, show k - 1 + 1 = k by omega]; unfold rNm; rw [ej1, nI_clamp (by omega)]; exact (if_neg c_64).symm) (nI (k + 1)) (by rfl)
        · refine g_iload_n X 1 dX10_nameBy_67 rfl ?_
          refine g_goto (tgt := 72) X dX10_nameBy_68 (by decide) ?_
          refine g_istore_n (lv' := [(1, .int (rNmF ss fr tt nm pa (k - 1))), (0, .ref (a 0)), (2, .int (nI k))]) X dX10_nameBy_72 (by decide) rfl ?_
          refine g_iincN (lv' := [(2, .int (nI (k + 1))), (1, .int (rNmF ss fr tt nm pa (k - 1))), (0, .ref (a 0))]) X 2 dX10_nameBy_73 rfl (by decide) rfl ?_
          refine g_goto (tgt := 28) X dX10_nameBy_76 (by decide) ?_
          refine GG.lv [2, 1, 0] rfl ?_
          exact ih_28 (k + 1) (by omega) (by omega) (by omega) (rNmF ss fr tt nm pa (k - 1)) (by rw [show k + 1 - 1 = (k - 1) + 1 by omega, rNmF_s, show k - 1 + 1 = k by omega]; unfold rNm; rw [ej1, nI_clamp (by omega)]; exact (if_pos c_64).symm) (nI (k + 1)) (by rfl)
  refine GG.lv [2, 1, 0] rfl ?_
  exact L_28 (dP s + 1) 1 (by omega) (by omega) (by omega) (nm (8 + j0)) (by show nm (8 + j0) = rNm ss fr tt nm pa 0; unfold rNm; rw [ej0, nI_clamp (by omega)]) (nI 1) (by rfl)
set_option maxHeartbeats 4000000 in
set_option maxRecDepth 100000 in
theorem c_X10_named (E : GE) (a : Nat → Nat) (s : MD0) (mm : Nat → Nat) (ss : Nat → Nat) (kd : Nat → Int32) (xo : Nat → Int32) (yo : Nat → Int32) (fr : Nat → Int32) (tt : Nat → Int32) (nm : Nat → Int32) (be : Nat → Int32) (nx : Nat → Int32) (mt : Nat → Int32) (pa : Nat → Int32) (z : Int32) (hmm : ∀ g, g < 2 → mm g ≤ 8) (hss : ∀ g, g < 2 → ss g ≤ 8) (hE : okE ss fr tt) (hN : dN0 s ≤ 3) : CT E m_X10_named [.ref (a 0), .int z] ([wMd E a s, wAn E (a 2) 2 mm, wAn E (a 3) 2 ss, wAr E (a 4) 16 kd, wAr E (a 5) 16 xo, wAr E (a 6) 16 yo, wAr E (a 7) 16 fr, wAr E (a 8) 16 tt, wAr E (a 9) 16 nm, wAr E (a 15) 64 be, wAr E (a 16) 64 nx, wAr E (a 17) 16 mt, wAr E (a 20) 4 pa].flatten) (some (.int (if hasR ss (nI 0) z then (if ¬ nm z.toNatClampNeg = 0 ∨ (rPt mm ss fr tt (rMts false (rBelAll (dR s) (dN0 s) mm ss kd xo yo fr tt (be, nx)).1 mt) z.toNatClampNeg pa).1 = 0 then nm z.toNatClampNeg else rNmF ss fr tt nm (rPt mm ss fr tt (rMts false (rBelAll (dR s) (dN0 s) mm ss kd xo yo fr tt (be, nx)).1 mt) z.toNatClampNeg pa).2 ((rPt mm ss fr tt (rMts false (rBelAll (dR s) (dN0 s) mm ss kd xo yo fr tt (be, nx)).1 mt) z.toNatClampNeg pa).1 - 1)) else -1))) ([wMd E a (dR s, dN0 s, dU s, dK s, if hasR ss (nI 0) z then (rPt mm ss fr tt (rMts false (rBelAll (dR s) (dN0 s) mm ss kd xo yo fr tt (be, nx)).1 mt) z.toNatClampNeg pa).1 else dP s, dX s, dY s, dS s, dA s, dQ s), wAn E (a 2) 2 mm, wAn E (a 3) 2 ss, wAr E (a 4) 16 kd, wAr E (a 5) 16 xo, wAr E (a 6) 16 yo, wAr E (a 7) 16 fr, wAr E (a 8) 16 tt, wAr E (a 9) 16 nm, wAr E (a 15) 64 (if hasR ss (nI 0) z then (rBelAll (dR s) (dN0 s) mm ss kd xo yo fr tt (be, nx)).1 else be), wAr E (a 16) 64 (if hasR ss (nI 0) z then (rBelAll (dR s) (dN0 s) mm ss kd xo yo fr tt (be, nx)).2 else nx), wAr E (a 17) 16 (if hasR ss (nI 0) z then rMts false (rBelAll (dR s) (dN0 s) mm ss kd xo yo fr tt (be, nx)).1 mt else mt), wAr E (a 20) 4 (if hasR ss (nI 0) z then (rPt mm ss fr tt (rMts false (rBelAll (dR s) (dN0 s) mm ss kd xo yo fr tt (be, nx)).1 mt) z.toNatClampNeg pa).2 else pa)].flatten) := by
  refine CT.intro (by decide +kernel) (Nat.le_of_ble_eq_true rfl) (fun Γ X hx => ?_)
  refine GG.lv [0, 1] (lv' := [(0, .ref (a 0)), (1, .int z)]) rfl ?_
  have hm0 := hmm 0 (by decide)
  have hm1 := hmm 1 (by decide)
  have hs0 := hss 0 (by decide)
  have hs1 := hss 1 (by decide)
  refine g_aload_n X 0 dX10_named_0 rfl ?_
  refine g_iconst (v := (nI 0)) X dX10_named_1 rfl ?_
  refine g_iload_n X 1 dX10_named_2 rfl ?_
  refine g_callVr (st2 := [.int (b2i (hasR ss (nI 0) z))]) (q0 := 0) X (c_X10_isStreet E a s ss (nI 0) z) cs_X10_104 rfl [0, 2] [1, 3, 4, 5, 6, 7, 8, 9, 10, 11, 12] 13 rfl (by decide) rfl rfl rfl rfl rfl (Nat.le_of_ble_eq_true rfl) dX10_named_3 rfl ?_
  refine g_bif_ne (tgt := 11) X dX10_named_6 (by decide) (fun c_6 => ?_) (fun c_6 => ?_)
  · obtain ⟨j, hj, rfl⟩ := hasR_0 hss c_6
    refine g_aload_n X 0 dX10_named_11 rfl ?_
    refine g_callV (st2 := []) (S' := [wMd E a s, wAn E (a 2) 2 mm, wAn E (a 3) 2 ss, wAr E (a 4) 16 kd, wAr E (a 5) 16 xo, wAr E (a 6) 16 yo, wAr E (a 7) 16 fr, wAr E (a 8) 16 tt, wAr E (a 9) 16 nm, wAr E (a 15) 64 ((rBelAll (dR s) (dN0 s) mm ss kd xo yo fr tt (be, nx)).1), wAr E (a 16) 64 ((rBelAll (dR s) (dN0 s) mm ss kd xo yo fr tt (be, nx)).2), wAr E (a 17) 16 (rMts false (rBelAll (dR s) (dN0 s) mm ss kd xo yo fr tt (be, nx)).1 mt), wAr E (a 20) 4 pa]) (q0 := 0) X (c_X10_setMatches E a s mm ss kd xo yo fr tt be nx mt (by first | assumption | omega | exact Nat.zero_le _) (by first | assumption | omega | exact Nat.zero_le _) (by first | assumption | omega | exact Nat.zero_le _) (by first | assumption | omega | exact Nat.zero_le _)) cs_X10_156 rfl [0, 1, 2, 3, 4, 5, 6, 7, 9, 10, 11] [8, 12] 13 rfl rfl (by decide) [wAr E (a 9) 16 nm, wAr E (a 20) 4 pa] rfl rfl rfl rfl (by simp only [List.map_cons, List.map_nil, fsAn, fsAr, fsMd]) rfl rfl rfl rfl (Nat.le_of_ble_eq_true rfl) dX10_named_12 rfl ?_
    refine g_aload_n X 0 dX10_named_15 rfl ?_
    refine g_iload_n X 1 dX10_named_16 rfl ?_
    refine g_callV (st2 := []) (S' := [wMd E a (dR s, dN0 s, dU s, dK s, (rPt mm ss fr tt (rMts false (rBelAll (dR s) (dN0 s) mm ss kd xo yo fr tt (be, nx)).1 mt) j pa).1, dX s, dY s, dS s, dA s, dQ s), wAn E (a 2) 2 mm, wAn E (a 3) 2 ss, wAr E (a 4) 16 kd, wAr E (a 5) 16 xo, wAr E (a 6) 16 yo, wAr E (a 7) 16 fr, wAr E (a 8) 16 tt, wAr E (a 9) 16 nm, wAr E (a 15) 64 ((rBelAll (dR s) (dN0 s) mm ss kd xo yo fr tt (be, nx)).1), wAr E (a 16) 64 ((rBelAll (dR s) (dN0 s) mm ss kd xo yo fr tt (be, nx)).2), wAr E (a 17) 16 (rMts false (rBelAll (dR s) (dN0 s) mm ss kd xo yo fr tt (be, nx)).1 mt), wAr E (a 20) 4 ((rPt mm ss fr tt (rMts false (rBelAll (dR s) (dN0 s) mm ss kd xo yo fr tt (be, nx)).1 mt) j pa).2)]) (q0 := 0) X (c_X10_setPath E a s mm ss fr tt (rMts false (rBelAll (dR s) (dN0 s) mm ss kd xo yo fr tt (be, nx)).1 mt) pa j (by first | assumption | omega | exact Nat.zero_le _) (by first | assumption | omega | exact Nat.zero_le _) (by first | assumption | omega | exact Nat.zero_le _) (by first | assumption | omega | exact Nat.zero_le _)) cs_X10_169 rfl [0, 1, 2, 6, 7, 11, 12] [3, 4, 5, 8, 9, 10] 13 rfl rfl (by decide) [wAr E (a 4) 16 kd, wAr E (a 5) 16 xo, wAr E (a 6) 16 yo, wAr E (a 9) 16 nm, wAr E (a 15) 64 ((rBelAll (dR s) (dN0 s) mm ss kd xo yo fr tt (be, nx)).1), wAr E (a 16) 64 ((rBelAll (dR s) (dN0 s) mm ss kd xo yo fr tt (be, nx)).2)] rfl rfl rfl rfl (by simp only [List.map_cons, List.map_nil, fsAn, fsAr, fsMd]) rfl rfl rfl rfl (Nat.le_of_ble_eq_true rfl) dX10_named_17 rfl ?_
    have hle := rPt_le mm ss fr tt (rMts false (rBelAll (dR s) (dN0 s) mm ss kd xo yo fr tt (be, nx)).1 mt) j pa
    refine g_aload_n X 0 dX10_named_20 rfl ?_
    refine g_getf (v := .ref (a 9)) X fs_X10_38 0 rfl rfl dX10_named_21 ?_
    refine g_iload_n X 1 dX10_named_24 rfl ?_
    refine g_iald X 8 rfl j (ix_nI (by omega) (by decide)) dX10_named_25 ?_
    refine g_if_ne (tgt := 36) X dX10_named_26 (by decide) (fun c_26 => ?_) (fun c_26 => ?_)
    · refine g_aload_n X 0 dX10_named_36 rfl ?_
      refine g_getf (v := .ref (a 9)) X fs_X10_38 0 rfl rfl dX10_named_37 ?_
      refine g_iload_n X 1 dX10_named_40 rfl ?_
      refine g_iald X 8 rfl j (ix_nI (by omega) (by decide)) dX10_named_41 ?_
      refine g_goto (tgt := 49) X dX10_named_42 (by decide) ?_
      exact g_iretv (r := (nm j)) X hx rfl (by simp only [nI_clamp (show j < 2 ^ 31 by omega), c_6, c_26, decide_true, decide_false, not_true_eq_false, not_false_eq_true, Bool.true_and, Bool.false_and, Bool.and_true, Bool.and_false, Bool.true_or, Bool.false_or, Bool.or_true, Bool.or_false, and_true, true_and, and_false, false_and, or_true, true_or, or_false, false_or, if_true, if_false, Bool.false_eq_true, decide_eq_true_eq]) (by simp only [nI_clamp (show j < 2 ^ 31 by omega), c_6, c_26, decide_true, decide_false, not_true_eq_false, not_false_eq_true, Bool.true_and, Bool.false_and, Bool.and_true, Bool.and_false, Bool.true_or, Bool.false_or, Bool.or_true, Bool.or_false, and_true, true_and, and_false, false_and, or_true, true_or, or_false, false_or, if_true, if_false, Bool.false_eq_true, decide_eq_true_eq]) dX10_named_49
    · refine g_aload_n X 0 dX10_named_29 rfl ?_
      refine g_getf (v := .int (nI ((rPt mm ss fr tt (rMts false (rBelAll (dR s) (dN0 s) mm ss kd xo yo fr tt (be, nx)).1 mt) j pa).1))) X fs_X10_159 0 rfl rfl dX10_named_30 ?_
      refine g_if_ne (tgt := 45) X dX10_named_33 (by decide) (fun c_33 => ?_) (fun c_33 => ?_)
      · have f_c_33 : ¬ ((rPt mm ss fr tt (rMts false (rBelAll (dR s) (dN0 s) mm ss kd xo yo fr tt (be, nx)).1 mt) j pa).1) = 0 := n_ne (by omega) (by omega) c_33
        refine g_aload_n X 0 dX10_named_45 rfl ?_
        refine g_callVr (st2 := [.int (rNmF ss fr tt nm ((rPt mm ss fr tt (rMts false (rBelAll (dR s) (dN0 s) mm ss kd xo yo fr tt (be, nx)).1 mt) j pa).2) (((rPt mm ss fr tt (rMts false (rBelAll (dR s) (dN0 s) mm ss kd xo yo fr tt (be, nx)).1 mt) j pa).1) - 1))]) (q0 := 0) X (c_X10_nameBy E a (dR s, dN0 s, dU s, dK s, (rPt mm ss fr tt (rMts false (rBelAll (dR s) (dN0 s) mm ss kd xo yo fr tt (be, nx)).1 mt) j pa).1, dX s, dY s, dS s, dA s, dQ s) ss fr tt nm ((rPt mm ss fr tt (rMts false (rBelAll (dR s) (dN0 s) mm ss kd xo yo fr tt (be, nx)).1 mt) j pa).2) (by first | assumption | omega | exact Nat.zero_le _) (Nat.one_le_iff_ne_zero.mpr f_c_33) (rPt_le _ _ _ _ _ _ _) (rPt_ok _ _ _ _ _ _ _).2) cs_X10_173 rfl [0, 2, 6, 7, 8, 12] [1, 3, 4, 5, 9, 10, 11] 13 rfl (by decide) rfl rfl rfl rfl rfl (Nat.le_of_ble_eq_true rfl) dX10_named_46 rfl ?_
        exact g_iretv (r := (rNmF ss fr tt nm ((rPt mm ss fr tt (rMts false (rBelAll (dR s) (dN0 s) mm ss kd xo yo fr tt (be, nx)).1 mt) j pa).2) (((rPt mm ss fr tt (rMts false (rBelAll (dR s) (dN0 s) mm ss kd xo yo fr tt (be, nx)).1 mt) j pa).1) - 1))) X hx rfl (by simp only [nI_clamp (show j < 2 ^ 31 by omega), c_6, c_26, c_33, f_c_33, decide_true, decide_false, not_true_eq_false, not_false_eq_true, Bool.true_and, Bool.false_and, Bool.and_true, Bool.and_false, Bool.true_or, Bool.false_or, Bool.or_true, Bool.or_false, and_true, true_and, and_false, false_and, or_true, true_or, or_false, false_or, if_true, if_false, Bool.false_eq_true, decide_eq_true_eq]) (by simp only [nI_clamp (show j < 2 ^ 31 by omega), c_6, c_26, c_33, f_c_33, decide_true, decide_false, not_true_eq_false, not_false_eq_true, Bool.true_and, Bool.false_and, Bool.and_true, Bool.and_false, Bool.true_or, Bool.false_or, Bool.or_true, Bool.or_false, and_true, true_and, and_false, false_and, or_true, true_or, or_false, false_or, if_true, if_false, Bool.false_eq_true, decide_eq_true_eq]) dX10_named_49
      · have f_c_33 : ((rPt mm ss fr tt (rMts false (rBelAll (dR s) (dN0 s) mm ss kd xo yo fr tt (be, nx)).1 mt) j pa).1) = 0 := n_eq (by omega) (by omega) c_33
        refine g_aload_n X 0 dX10_named_36 rfl ?_
        refine g_getf (v := .ref (a 9)) X fs_X10_38 0 rfl rfl dX10_named_37 ?_
        refine g_iload_n X 1 dX10_named_40 rfl ?_
        refine g_iald X 8 rfl j (ix_nI (by omega) (by decide)) dX10_named_41 ?_
        refine g_goto (tgt := 49) X dX10_named_42 (by decide) ?_
        exact g_iretv (r := (nm j)) X hx rfl (by simp only [nI_clamp (show j < 2 ^ 31 by omega), c_6, c_26, c_33, f_c_33, decide_true, decide_false, not_true_eq_false, not_false_eq_true, Bool.true_and, Bool.false_and, Bool.and_true, Bool.and_false, Bool.true_or, Bool.false_or, Bool.or_true, Bool.or_false, and_true, true_and, and_false, false_and, or_true, true_or, or_false, false_or, if_true, if_false, Bool.false_eq_true, decide_eq_true_eq]) (by simp only [nI_clamp (show j < 2 ^ 31 by omega), c_6, c_26, c_33, f_c_33, decide_true, decide_false, not_true_eq_false, not_false_eq_true, Bool.true_and, Bool.false_and, Bool.and_true, Bool.and_false, Bool.true_or, Bool.false_or, Bool.or_true, Bool.or_false, and_true, true_and, and_false, false_and, or_true, true_or, or_false, false_or, if_true, if_false, Bool.false_eq_true, decide_eq_true_eq]) dX10_named_49
  · refine g_iconst (v := (-1)) X dX10_named_9 rfl ?_
    exact g_iretv (r := (-1)) X hx rfl (by simp only [c_6, decide_true, decide_false, not_true_eq_false, not_false_eq_true, Bool.true_and, Bool.false_and, Bool.and_true, Bool.and_false, Bool.true_or, Bool.false_or, Bool.or_true, Bool.or_false, and_true, true_and, and_false, false_and, or_true, true_or, or_false, false_or, if_true, if_false, Bool.false_eq_true, decide_eq_true_eq]) (by simp only [c_6, decide_true, decide_false, not_true_eq_false, not_false_eq_true, Bool.true_and, Bool.false_and, Bool.and_true, Bool.and_false, Bool.true_or, Bool.false_or, Bool.or_true, Bool.or_false, and_true, true_and, and_false, false_and, or_true, true_or, or_false, false_or, if_true, if_false, Bool.false_eq_true, decide_eq_true_eq]) dX10_named_10
set_option maxHeartbeats 4000000 in
set_option maxRecDepth 100000 in
theorem c_X10_toldMany (E : GE) (a : Nat → Nat) (s : MD0) (mm : Nat → Nat) (ss : Nat → Nat) (fr : Nat → Int32) (tt : Nat → Int32) (mt : Nat → Int32) (pa : Nat → Int32) (hmm : ∀ g, g < 2 → mm g ≤ 8) (hss : ∀ g, g < 2 → ss g ≤ 8) (hE : okE ss fr tt) : CT E m_X10_toldMany [.ref (a 0)] ([wMd E a s, wAn E (a 2) 2 mm, wAn E (a 3) 2 ss, wAr E (a 7) 16 fr, wAr E (a 8) 16 tt, wAr E (a 17) 16 mt, wAr E (a 20) 4 pa].flatten) (some (.int (nI ((rXs mm ss fr tt mt (dP s, pa) (ss 0)).1)))) ([wMd E a (dR s, dN0 s, dU s, dK s, (rXs mm ss fr tt mt (dP s, pa) (ss 0)).2.1, dX s, dY s, dS s, dA s, dQ s), wAn E (a 2) 2 mm, wAn E (a 3) 2 ss, wAr E (a 7) 16 fr, wAr E (a 8) 16 tt, wAr E (a 17) 16 mt, wAr E (a 20) 4 ((rXs mm ss fr tt mt (dP s, pa) (ss 0)).2.2)].flatten) := by
  refine CT.intro (by decide +kernel) (Nat.le_of_ble_eq_true rfl) (fun Γ X hx => ?_)
  refine GG.lv [0] (lv' := [(0, .ref (a 0))]) rfl ?_
  have hm0 := hmm 0 (by decide)
  have hm1 := hmm 1 (by decide)
  have hs0 := hss 0 (by decide)
  have hs1 := hss 1 (by decide)
  refine g_iconst (v := (nI 0)) X dX10_toldMany_0 rfl ?_
  refine g_istore_n (lv' := [(1, .int (nI 0)), (0, .ref (a 0))]) X dX10_toldMany_1 (by decide) rfl ?_
  refine g_iconst (v := (nI 0)) X dX10_toldMany_2 rfl ?_
  refine g_istore_n (lv' := [(2, .int (nI 0)), (1, .int (nI 0)), (0, .ref (a 0))]) X dX10_toldMany_3 (by decide) rfl ?_
  have L_4 : ∀ (n_4 : Nat) (k : Nat) (hk : k ≤ ss 0) (hm_4 : ss 0 - k < n_4) (x_1 : Int32) (ex_1 : x_1 = (nI ((rXs mm ss fr tt mt (dP s, pa) k).1))) (x_2 : Int32) (ex_2 : x_2 = (nI k)) (u_0 : Nat) (eu_0 : u_0 = (rXs mm ss fr tt mt (dP s, pa) k).2.1) (u_1 : Nat → Int32) (eu_1 : u_1 = (rXs mm ss fr tt mt (dP s, pa) k).2.2), GG E m_X10_toldMany Γ 0 0 ([wMd E a (dR s, dN0 s, dU s, dK s, u_0, dX s, dY s, dS s, dA s, dQ s), wAn E (a 2) 2 mm, wAn E (a 3) 2 ss, wAr E (a 7) 16 fr, wAr E (a 8) 16 tt, wAr E (a 17) 16 mt, wAr E (a 20) 4 u_1].flatten) [(0, .ref (a 0)), (1, .int x_1), (2, .int x_2)] 4 [] := by
    intro n_4
    induction n_4 with
    | zero => intro k hk hm_4; exact absurd hm_4 (Nat.not_lt_zero _)
    | succ n_4 ih_4 =>
      intro k hk hm_4 x_1 ex_1 x_2 ex_2 u_0 eu_0 u_1 eu_1
      subst ex_1
      subst ex_2
      subst eu_0
      subst eu_1
      have hcl := rXs_le mm ss fr tt mt (dP s, pa) k
      have hle := rPt_le mm ss fr tt mt k (rXs mm ss fr tt mt (dP s, pa) k).2.2
      refine g_iload_n X 2 dX10_toldMany_4 rfl ?_
      refine g_aload_n X 0 dX10_toldMany_5 rfl ?_
      refine g_getf (v := .ref (a 3)) X fs_X10_20 0 rfl rfl dX10_toldMany_6 ?_
      refine g_iconst (v := (nI 0)) X dX10_toldMany_9 rfl ?_
      refine g_anld (f := ss) X 2 rfl 0 (ix_nI (by omega) (by decide)) dX10_toldMany_10 ?_
      refine g_icmp_ge (tgt := 40) X dX10_toldMany_11 (by decide) (fun c_11 => ?_) (fun c_11 => ?_)
      · have f_c_11 : ss 0 ≤ k := n_le (by omega) (by omega) c_11
        have fn_c_11 := Nat.not_lt.mpr f_c_11
        refine g_iload_n X 1 dX10_toldMany_40 rfl ?_
        exact g_iretv (r := (nI ((rXs mm ss fr tt mt (dP s, pa) k).1))) X hx rfl (by rw [show ss 0 = k by omega]) (by rw [show ss 0 = k by omega]) dX10_toldMany_41
      · have f_c_11 : k < ss 0 := n_nle (by omega) (by omega) c_11
        have fn_c_11 := Nat.not_le.mpr f_c_11
        refine g_aload_n X 0 dX10_toldMany_14 rfl ?_
        refine g_iload_n X 2 dX10_toldMany_15 rfl ?_
        refine g_callV (st2 := []) (S' := [wMd E a ((dR s), (dN0 s), (dU s), (dK s), (rPt mm ss fr tt mt k ((rXs mm ss fr tt mt (dP s, pa) k).2.2)).1, (dX s), (dY s), (dS s), (dA s), (dQ s)), wAn E (a 2) 2 mm, wAn E (a 3) 2 ss, wAr E (a 7) 16 fr, wAr E (a 8) 16 tt, wAr E (a 17) 16 mt, wAr E (a 20) 4 ((rPt mm ss fr tt mt k ((rXs mm ss fr tt mt (dP s, pa) k).2.2)).2)]) (q0 := 0) X (c_X10_setPath E a (dR s, dN0 s, dU s, dK s, (rXs mm ss fr tt mt (dP s, pa) k).2.1, dX s, dY s, dS s, dA s, dQ s) mm ss fr tt mt ((rXs mm ss fr tt mt (dP s, pa) k).2.2) k (by first | assumption | omega | exact Nat.zero_le _) (by first | assumption | omega | exact Nat.zero_le _) (by first | assumption | omega | exact Nat.zero_le _) (by first | assumption | omega | exact Nat.zero_le _)) cs_X10_169 rfl [0, 1, 2, 3, 4, 5, 6] [] 7 rfl rfl (by decide) [] rfl rfl rfl rfl (by simp only [List.map_cons, List.map_nil, fsAn, fsAr, fsMd]) rfl rfl rfl rfl (Nat.le_of_ble_eq_true rfl) dX10_toldMany_16 rfl ?_
        refine g_iload_n X 1 dX10_toldMany_19 rfl ?_
        refine g_aload_n X 0 dX10_toldMany_20 rfl ?_
        refine g_getf (v := .int (nI ((rPt mm ss fr tt mt k ((rXs mm ss fr tt mt (dP s, pa) k).2.2)).1))) X fs_X10_159 0 rfl rfl dX10_toldMany_21 ?_
        refine g_if_le (tgt := 31) X dX10_toldMany_24 (by decide) (fun c_24 => ?_) (fun c_24 => ?_)
        · have f_c_24 : ((rPt mm ss fr tt mt k ((rXs mm ss fr tt mt (dP s, pa) k).2.2)).1) ≤ 0 := n_le (by omega) (by omega) c_24
          have fn_c_24 := Nat.not_lt.mpr f_c_24
          refine g_iconst (v := (nI 0)) X dX10_toldMany_31 rfl ?_
          refine g_iaddN X dX10_toldMany_32 ?_
          refine g_istore_n (lv' := [(1, .int (nI (((rXs mm ss fr tt mt (dP s, pa) k).1) + 0))), (0, .ref (a 0)), (2, .int (nI k))]) X dX10_toldMany_33 (by decide) rfl ?_
          refine g_iincN (lv' := [(2, .int (nI (k + 1))), (1, .int (nI (((rXs mm ss fr tt mt (dP s, pa) k).1) + 0))), (0, .ref (a 0))]) X 2 dX10_toldMany_34 rfl (by decide) rfl ?_
          refine g_goto (tgt := 4) X dX10_toldMany_37 (by decide) ?_
          refine GG.lv [2, 1, 0] rfl ?_
          exact ih_4 (k + 1) (by omega) (by omega) (nI (((rXs mm ss fr tt mt (dP s, pa) k).1) + 0)) (by show _ = nI ((rXs mm ss fr tt mt (dP s, pa) k).1 + (if 0 < (rPt mm ss fr tt mt k (rXs mm ss fr tt mt (dP s, pa) k).2.2).1 then 1 else 0)); rw [if_neg (by omega)]) (nI (k + 1)) (by rfl) ((rPt mm ss fr tt mt k ((rXs mm ss fr tt mt (dP s, pa) k).2.2)).1) (by rfl) ((rPt mm ss fr tt mt k ((rXs mm ss fr tt mt (dP s, pa) k).2.2)).2) (by rfl)
        · have f_c_24 : 0 < ((rPt mm ss fr tt mt k ((rXs mm ss fr tt mt (dP s, pa) k).2.2)).1) := n_nle (by omega) (by omega) c_24
          have fn_c_24 := Nat.not_le.mpr f_c_24
          refine g_iconst (v := (nI 1)) X dX10_toldMany_27 rfl ?_
          refine g_goto (tgt := 32) X dX10_toldMany_28 (by decide) ?_
          refine g_iaddN X dX10_toldMany_32 ?_
          refine g_istore_n (lv' := [(1, .int (nI (((rXs mm ss fr tt mt (dP s, pa) k).1) + 1))), (0, .ref (a 0)), (2, .int (nI k))]) X dX10_toldMany_33 (by decide) rfl ?_
          refine g_iincN (lv' := [(2, .int (nI (k + 1))), (1, .int (nI (((rXs mm ss fr tt mt (dP s, pa) k).1) + 1))), (0, .ref (a 0))]) X 2 dX10_toldMany_34 rfl (by decide) rfl ?_
          refine g_goto (tgt := 4) X dX10_toldMany_37 (by decide) ?_
          refine GG.lv [2, 1, 0] rfl ?_
          exact ih_4 (k + 1) (by omega) (by omega) (nI (((rXs mm ss fr tt mt (dP s, pa) k).1) + 1)) (by show _ = nI ((rXs mm ss fr tt mt (dP s, pa) k).1 + (if 0 < (rPt mm ss fr tt mt k (rXs mm ss fr tt mt (dP s, pa) k).2.2).1 then 1 else 0)); rw [if_pos (by omega)]) (nI (k + 1)) (by rfl) ((rPt mm ss fr tt mt k ((rXs mm ss fr tt mt (dP s, pa) k).2.2)).1) (by rfl) ((rPt mm ss fr tt mt k ((rXs mm ss fr tt mt (dP s, pa) k).2.2)).2) (by rfl)
  refine GG.lv [2, 1, 0] rfl ?_
  exact L_4 (ss 0 + 1) 0 (by omega) (by omega) (nI 0) (by rfl) (nI 0) (by rfl) (dP s) (by rfl) pa (by rfl)
