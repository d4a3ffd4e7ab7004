set_option maxHeartbeats 4000000 in
set_option maxRecDepth 100000 in
theorem c_X10_lays (E : GE) (a : Nat → Nat) (s : MD0) (mm : Nat → Nat) (ss : Nat → Nat) (kd : Nat → Int32) (xo : Nat → Int32) (yo : Nat → Int32) (fr : Nat → Int32) (tt : Nat → Int32) (nm : Nat → Int32) (ta : Nat) (ln : Nat) (f : Nat → Int32) (q : Nat) (hq : q + 102 ≤ ln) (hl : ln < 2 ^ 31) : CT E m_X10_lays [.ref (a 0), .ref ta, .int (nI q)] ([wMd E a s, wAn E (a 2) 2 mm, wAn E (a 3) 2 ss, wAr E (a 4) 16 kd, wAr E (a 5) 16 xo, wAr E (a 6) 16 yo, wAr E (a 7) 16 fr, wAr E (a 8) 16 tt, wAr E (a 9) 16 nm, wAr E ta ln f].flatten) none ([wMd E a s, wAn E (a 2) 2 mm, wAn E (a 3) 2 ss, wAr E (a 4) 16 kd, wAr E (a 5) 16 xo, wAr E (a 6) 16 yo, wAr E (a 7) 16 fr, wAr E (a 8) 16 tt, wAr E (a 9) 16 nm, wAr E ta ln (lyF (snp (dR s, dN0 s, mm, ss, kd, xo, yo, fr, tt, nm)) f q)].flatten) := by
  refine CT.intro (by decide +kernel) (Nat.le_of_ble_eq_true rfl) (fun Γ X hx => ?_)
  refine GG.lv [0, 1, 2] (lv' := [(0, .ref (a 0)), (1, .ref ta), (2, .int (nI q))]) rfl ?_
  refine g_aload_n X 1 dX10_lays_0 rfl ?_
  refine g_iload_n X 2 dX10_lays_1 rfl ?_
  refine g_aload_n X 0 dX10_lays_2 rfl ?_
  refine g_getf (v := .int (dR s)) X fs_X10_7 0 rfl rfl dX10_lays_3 ?_
  refine g_iast (ws' := [wMd E a s, wAn E (a 2) 2 mm, wAn E (a 3) 2 ss, wAr E (a 4) 16 kd, wAr E (a 5) 16 xo, wAr E (a 6) 16 yo, wAr E (a 7) 16 fr, wAr E (a 8) 16 tt, wAr E (a 9) 16 nm, wAr E ta ln (upd f q (dR s))].flatten) X 9 rfl q (ix_nI (by omega) (by omega)) rfl dX10_lays_6 ?_
  refine g_aload_n X 1 dX10_lays_7 rfl ?_
  refine g_iload_n X 2 dX10_lays_8 rfl ?_
  refine g_iconst (v := (nI 1)) X dX10_lays_9 rfl ?_
  refine g_iaddN X dX10_lays_10 ?_
  refine g_aload_n X 0 dX10_lays_11 rfl ?_
  refine g_getf (v := .int (nI (dN0 s))) X fs_X10_13 0 rfl rfl dX10_lays_12 ?_
  refine g_iast (ws' := [wMd E a s, wAn E (a 2) 2 mm, wAn E (a 3) 2 ss, wAr E (a 4) 16 kd, wAr E (a 5) 16 xo, wAr E (a 6) 16 yo, wAr E (a 7) 16 fr, wAr E (a 8) 16 tt, wAr E (a 9) 16 nm, wAr E ta ln (upd (upd f q (dR s)) (q + 1) (nI (dN0 s)))].flatten) X 9 rfl (q + 1) (ix_nI (by omega) (by omega)) rfl dX10_lays_15 ?_
  refine g_iconst (v := (nI 0)) X dX10_lays_16 rfl ?_
  refine g_istore_n (lv' := [(3, .int (nI 0)), (0, .ref (a 0)), (1, .ref ta), (2, .int (nI q))]) X dX10_lays_17 (by decide) rfl ?_
  have L_18 : ∀ (n_18 : Nat) (k : Nat) (hk : k ≤ 2) (hm_18 : 2 - k < n_18) (x_3 : Int32) (ex_3 : x_3 = (nI k)) (u_0 : Nat → Int32) (eu_0 : u_0 = lyK (snp (dR s, dN0 s, mm, ss, kd, xo, yo, fr, tt, nm)) f q k 0), GG E m_X10_lays Γ 0 0 ([wMd E a s, wAn E (a 2) 2 mm, wAn E (a 3) 2 ss, wAr E (a 4) 16 kd, wAr E (a 5) 16 xo, wAr E (a 6) 16 yo, wAr E (a 7) 16 fr, wAr E (a 8) 16 tt, wAr E (a 9) 16 nm, wAr E ta ln u_0].flatten) [(0, .ref (a 0)), (1, .ref ta), (2, .int (nI q)), (3, .int x_3)] 18 [] := by
    intro n_18
    induction n_18 with
    | zero => intro k hk hm_18; exact absurd hm_18 (Nat.not_lt_zero _)
    | succ n_18 ih_18 =>
      intro k hk hm_18 x_3 ex_3 u_0 eu_0
      subst ex_3
      subst eu_0
      refine g_iload_n X 3 dX10_lays_18 rfl ?_
      refine g_iconst (v := (nI 2)) X dX10_lays_19 rfl ?_
      refine g_icmp_ge (tgt := 55) X dX10_lays_20 (by decide) (fun c_20 => ?_) (fun c_20 => ?_)
      · have f_c_20 : 2 ≤ k := n_le (by omega) (by omega) c_20
        have fn_c_20 := Nat.not_lt.mpr f_c_20
        have ek : k = 2 := by omega
        subst ek
        refine g_iconst (v := (nI 0)) X dX10_lays_55 rfl ?_
        refine g_istore_n (lv' := [(3, .int (nI 0)), (0, .ref (a 0)), (1, .ref ta), (2, .int (nI q))]) X dX10_lays_56 (by decide) rfl ?_
        have L_57 : ∀ (n_57 : Nat) (k2 : Nat) (hk2 : k2 ≤ 16) (hm_57 : 16 - k2 < n_57) (x_3 : Int32) (ex_3 : x_3 = (nI k2)) (u_0 : Nat → Int32) (eu_0 : u_0 = lyK (snp (dR s, dN0 s, mm, ss, kd, xo, yo, fr, tt, nm)) f q 2 k2), GG E m_X10_lays Γ 0 0 ([wMd E a s, wAn E (a 2) 2 mm, wAn E (a 3) 2 ss, wAr E (a 4) 16 kd, wAr E (a 5) 16 xo, wAr E (a 6) 16 yo, wAr E (a 7) 16 fr, wAr E (a 8) 16 tt, wAr E (a 9) 16 nm, wAr E ta ln u_0].flatten) [(0, .ref (a 0)), (1, .ref ta), (2, .int (nI q)), (3, .int x_3)] 57 [] := by
          intro n_57
          induction n_57 with
          | zero => intro k2 hk2 hm_57; exact absurd hm_57 (Nat.not_lt_zero _)
          | succ n_57 ih_57 =>
            intro k2 hk2 hm_57 x_3 ex_3 u_0 eu_0
            subst ex_3
            subst eu_0
            refine g_iload_n X 3 dX10_lays_57 rfl ?_
            refine g_bipush (v := (nI 16)) X dX10_lays_58 rfl ?_
            refine g_icmp_ge (tgt := 153) X dX10_lays_60 (by decide) (fun c_60 => ?_) (fun c_60 => ?_)
            · have f_c_60 : 16 ≤ k2 := n_le (by omega) (by omega) c_60
              have fn_c_60 := Nat.not_lt.mpr f_c_60
              exact g_vret X hx rfl rfl (by rw [show k2 = 16 by omega, lyK_3]) dX10_lays_153
            · have f_c_60 : k2 < 16 := n_nle (by omega) (by omega) c_60
              have fn_c_60 := Nat.not_le.mpr f_c_60
              refine g_aload_n X 1 dX10_lays_63 rfl ?_
              refine g_iload_n X 2 dX10_lays_64 rfl ?_
              refine g_bipush (v := (nI 6)) X dX10_lays_65 rfl ?_
              refine g_iaddN X dX10_lays_67 ?_
              refine g_iload_n X 3 dX10_lays_68 rfl ?_
              refine g_iaddN X dX10_lays_69 ?_
              refine g_aload_n X 0 dX10_lays_70 rfl ?_
              refine g_getf (v := .ref (a 4)) X fs_X10_23 0 rfl rfl dX10_lays_71 ?_
              refine g_iload_n X 3 dX10_lays_74 rfl ?_
              refine g_iald X 3 rfl k2 (ix_nI (by omega) (by decide)) dX10_lays_75 ?_
              refine g_iast (ws' := [wMd E a s, wAn E (a 2) 2 mm, wAn E (a 3) 2 ss, wAr E (a 4) 16 kd, wAr E (a 5) 16 xo, wAr E (a 6) 16 yo, wAr E (a 7) 16 fr, wAr E (a 8) 16 tt, wAr E (a 9) 16 nm, wAr E ta ln (upd (lyK (snp (dR s, dN0 s, mm, ss, kd, xo, yo, fr, tt, nm)) f q 2 k2) ((q + 6) + k2) (kd k2))].flatten) X 9 rfl ((q + 6) + k2) (ix_nI (by omega) (by omega)) rfl dX10_lays_76 ?_
              refine g_aload_n X 1 dX10_lays_77 rfl ?_
              refine g_iload_n X 2 dX10_lays_78 rfl ?_
              refine g_bipush (v := (nI 22)) X dX10_lays_79 rfl ?_
              refine g_iaddN X dX10_lays_81 ?_
              refine g_iload_n X 3 dX10_lays_82 rfl ?_
              refine g_iaddN X dX10_lays_83 ?_
              refine g_aload_n X 0 dX10_lays_84 rfl ?_
              refine g_getf (v := .ref (a 5)) X fs_X10_26 0 rfl rfl dX10_lays_85 ?_
              refine g_iload_n X 3 dX10_lays_88 rfl ?_
              refine g_iald X 4 rfl k2 (ix_nI (by omega) (by decide)) dX10_lays_89 ?_
              refine g_iast (ws' := [wMd E a s, wAn E (a 2) 2 mm, wAn E (a 3) 2 ss, wAr E (a 4) 16 kd, wAr E (a 5) 16 xo, wAr E (a 6) 16 yo, wAr E (a 7) 16 fr, wAr E (a 8) 16 tt, wAr E (a 9) 16 nm, wAr E ta ln (upd (upd (lyK (snp (dR s, dN0 s, mm, ss, kd, xo, yo, fr, tt, nm)) f q 2 k2) ((q + 6) + k2) (kd k2)) ((q + 22) + k2) (xo k2))].flatten) X 9 rfl ((q + 22) + k2) (ix_nI (by omega) (by omega)) rfl dX10_lays_90 ?_
              refine g_aload_n X 1 dX10_lays_91 rfl ?_
              refine g_iload_n X 2 dX10_lays_92 rfl ?_
              refine g_bipush (v := (nI 38)) X dX10_lays_93 rfl ?_
              refine g_iaddN X dX10_lays_95 ?_
              refine g_iload_n X 3 dX10_lays_96 rfl ?_
              refine g_iaddN X dX10_lays_97 ?_
              refine g_aload_n X 0 dX10_lays_98 rfl ?_
              refine g_getf (v := .ref (a 6)) X fs_X10_29 0 rfl rfl dX10_lays_99 ?_
              refine g_iload_n X 3 dX10_lays_102 rfl ?_
              refine g_iald X 5 rfl k2 (ix_nI (by omega) (by decide)) dX10_lays_103 ?_
              refine g_iast (ws' := [wMd E a s, wAn E (a 2) 2 mm, wAn E (a 3) 2 ss, wAr E (a 4) 16 kd, wAr E (a 5) 16 xo, wAr E (a 6) 16 yo, wAr E (a 7) 16 fr, wAr E (a 8) 16 tt, wAr E (a 9) 16 nm, wAr E ta ln (upd (upd (upd (lyK (snp (dR s, dN0 s, mm, ss, kd, xo, yo, fr, tt, nm)) f q 2 k2) ((q + 6) + k2) (kd k2)) ((q + 22) + k2) (xo k2)) ((q + 38) + k2) (yo k2))].flatten) X 9 rfl ((q + 38) + k2) (ix_nI (by omega) (by omega)) rfl dX10_lays_104 ?_
              refine g_aload_n X 1 dX10_lays_105 rfl ?_
              refine g_iload_n X 2 dX10_lays_106 rfl ?_
              refine g_bipush (v := (nI 54)) X dX10_lays_107 rfl ?_
              refine g_iaddN X dX10_lays_109 ?_
              refine g_iload_n X 3 dX10_lays_110 rfl ?_
              refine g_iaddN X dX10_lays_111 ?_
              refine g_aload_n X 0 dX10_lays_112 rfl ?_
              refine g_getf (v := .ref (a 7)) X fs_X10_32 0 rfl rfl dX10_lays_113 ?_
              refine g_iload_n X 3 dX10_lays_116 rfl ?_
              refine g_iald X 6 rfl k2 (ix_nI (by omega) (by decide)) dX10_lays_117 ?_
              refine g_iast (ws' := [wMd E a s, wAn E (a 2) 2 mm, wAn E (a 3) 2 ss, wAr E (a 4) 16 kd, wAr E (a 5) 16 xo, wAr E (a 6) 16 yo, wAr E (a 7) 16 fr, wAr E (a 8) 16 tt, wAr E (a 9) 16 nm, wAr E ta ln (upd (upd (upd (upd (lyK (snp (dR s, dN0 s, mm, ss, kd, xo, yo, fr, tt, nm)) f q 2 k2) ((q + 6) + k2) (kd k2)) ((q + 22) + k2) (xo k2)) ((q + 38) + k2) (yo k2)) ((q + 54) + k2) (fr k2))].flatten) X 9 rfl ((q + 54) + k2) (ix_nI (by omega) (by omega)) rfl dX10_lays_118 ?_
              refine g_aload_n X 1 dX10_lays_119 rfl ?_
              refine g_iload_n X 2 dX10_lays_120 rfl ?_
              refine g_bipush (v := (nI 70)) X dX10_lays_121 rfl ?_
              refine g_iaddN X dX10_lays_123 ?_
              refine g_iload_n X 3 dX10_lays_124 rfl ?_
              refine g_iaddN X dX10_lays_125 ?_
              refine g_aload_n X 0 dX10_lays_126 rfl ?_
              refine g_getf (v := .ref (a 8)) X fs_X10_35 0 rfl rfl dX10_lays_127 ?_
              refine g_iload_n X 3 dX10_lays_130 rfl ?_
              refine g_iald X 7 rfl k2 (ix_nI (by omega) (by decide)) dX10_lays_131 ?_
              refine g_iast (ws' := [wMd E a s, wAn E (a 2) 2 mm, wAn E (a 3) 2 ss, wAr E (a 4) 16 kd, wAr E (a 5) 16 xo, wAr E (a 6) 16 yo, wAr E (a 7) 16 fr, wAr E (a 8) 16 tt, wAr E (a 9) 16 nm, wAr E ta ln (upd (upd (upd (upd (upd (lyK (snp (dR s, dN0 s, mm, ss, kd, xo, yo, fr, tt, nm)) f q 2 k2) ((q + 6) + k2) (kd k2)) ((q + 22) + k2) (xo k2)) ((q + 38) + k2) (yo k2)) ((q + 54) + k2) (fr k2)) ((q + 70) + k2) (tt k2))].flatten) X 9 rfl ((q + 70) + k2) (ix_nI (by omega) (by omega)) rfl dX10_lays_132 ?_
              refine g_aload_n X 1 dX10_lays_133 rfl ?_
              refine g_iload_n X 2 dX10_lays_134 rfl ?_
              refine g_bipush (v := (nI 86)) X dX10_lays_135 rfl ?_
              refine g_iaddN X dX10_lays_137 ?_
              refine g_iload_n X 3 dX10_lays_138 rfl ?_
              refine g_iaddN X dX10_lays_139 ?_
              refine g_aload_n X 0 dX10_lays_140 rfl ?_
              refine g_getf (v := .ref (a 9)) X fs_X10_38 0 rfl rfl dX10_lays_141 ?_
              refine g_iload_n X 3 dX10_lays_144 rfl ?_
              refine g_iald X 8 rfl k2 (ix_nI (by omega) (by decide)) dX10_lays_145 ?_
              refine g_iast (ws' := [wMd E a s, wAn E (a 2) 2 mm, wAn E (a 3) 2 ss, wAr E (a 4) 16 kd, wAr E (a 5) 16 xo, wAr E (a 6) 16 yo, wAr E (a 7) 16 fr, wAr E (a 8) 16 tt, wAr E (a 9) 16 nm, wAr E ta ln (upd (upd (upd (upd (upd (upd (lyK (snp (dR s, dN0 s, mm, ss, kd, xo, yo, fr, tt, nm)) f q 2 k2) ((q + 6) + k2) (kd k2)) ((q + 22) + k2) (xo k2)) ((q + 38) + k2) (yo k2)) ((q + 54) + k2) (fr k2)) ((q + 70) + k2) (tt k2)) ((q + 86) + k2) (nm k2))].flatten) X 9 rfl ((q + 86) + k2) (ix_nI (by omega) (by omega)) rfl dX10_lays_146 ?_
              refine g_iincN (lv' := [(3, .int (nI (k2 + 1))), (0, .ref (a 0)), (1, .ref ta), (2, .int (nI q))]) X 3 dX10_lays_147 rfl (by decide) rfl ?_
              refine g_goto (tgt := 57) X dX10_lays_150 (by decide) ?_
              refine GG.lv [1, 2, 3, 0] rfl ?_
              exact ih_57 (k2 + 1) (by omega) (by omega) (nI (k2 + 1)) (by rfl) (upd (upd (upd (upd (upd (upd (lyK (snp (dR s, dN0 s, mm, ss, kd, xo, yo, fr, tt, nm)) f q 2 k2) ((q + 6) + k2) (kd k2)) ((q + 22) + k2) (xo k2)) ((q + 38) + k2) (yo k2)) ((q + 54) + k2) (fr k2)) ((q + 70) + k2) (tt k2)) ((q + 86) + k2) (nm k2)) (by exact lyK_2 (dR s, dN0 s, mm, ss, kd, xo, yo, fr, tt, nm) f q (by omega))
        refine GG.lv [1, 2, 3, 0] rfl ?_
        exact L_57 (17) 0 (by omega) (by omega) (nI 0) (by rfl) (lyK (snp (dR s, dN0 s, mm, ss, kd, xo, yo, fr, tt, nm)) f q 2 0) (by rfl)
      · have f_c_20 : k < 2 := n_nle (by omega) (by omega) c_20
        have fn_c_20 := Nat.not_le.mpr f_c_20
        refine g_aload_n X 1 dX10_lays_23 rfl ?_
        refine g_iload_n X 2 dX10_lays_24 rfl ?_
        refine g_iconst (v := (nI 2)) X dX10_lays_25 rfl ?_
        refine g_iaddN X dX10_lays_26 ?_
        refine g_iload_n X 3 dX10_lays_27 rfl ?_
        refine g_iaddN X dX10_lays_28 ?_
        refine g_aload_n X 0 dX10_lays_29 rfl ?_
        refine g_getf (v := .ref (a 2)) X fs_X10_16 0 rfl rfl dX10_lays_30 ?_
        refine g_iload_n X 3 dX10_lays_33 rfl ?_
        refine g_anld (f := mm) X 1 rfl k (ix_nI (by omega) (by decide)) dX10_lays_34 ?_
        refine g_iast (ws' := [wMd E a s, wAn E (a 2) 2 mm, wAn E (a 3) 2 ss, wAr E (a 4) 16 kd, wAr E (a 5) 16 xo, wAr E (a 6) 16 yo, wAr E (a 7) 16 fr, wAr E (a 8) 16 tt, wAr E (a 9) 16 nm, wAr E ta ln (upd (lyK (snp (dR s, dN0 s, mm, ss, kd, xo, yo, fr, tt, nm)) f q k 0) ((q + 2) + k) (nI (mm k)))].flatten) X 9 rfl ((q + 2) + k) (ix_nI (by omega) (by omega)) rfl dX10_lays_35 ?_
        refine g_aload_n X 1 dX10_lays_36 rfl ?_
        refine g_iload_n X 2 dX10_lays_37 rfl ?_
        refine g_iconst (v := (nI 4)) X dX10_lays_38 rfl ?_
        refine g_iaddN X dX10_lays_39 ?_
        refine g_iload_n X 3 dX10_lays_40 rfl ?_
        refine g_iaddN X dX10_lays_41 ?_
        refine g_aload_n X 0 dX10_lays_42 rfl ?_
        refine g_getf (v := .ref (a 3)) X fs_X10_20 0 rfl rfl dX10_lays_43 ?_
        refine g_iload_n X 3 dX10_lays_46 rfl ?_
        refine g_anld (f := ss) X 2 rfl k (ix_nI (by omega) (by decide)) dX10_lays_47 ?_
        refine g_iast (ws' := [wMd E a s, wAn E (a 2) 2 mm, wAn E (a 3) 2 ss, wAr E (a 4) 16 kd, wAr E (a 5) 16 xo, wAr E (a 6) 16 yo, wAr E (a 7) 16 fr, wAr E (a 8) 16 tt, wAr E (a 9) 16 nm, wAr E ta ln (upd (upd (lyK (snp (dR s, dN0 s, mm, ss, kd, xo, yo, fr, tt, nm)) f q k 0) ((q + 2) + k) (nI (mm k))) ((q + 4) + k) (nI (ss k)))].flatten) X 9 rfl ((q + 4) + k) (ix_nI (by omega) (by omega)) rfl dX10_lays_48 ?_
        refine g_iincN (lv' := [(3, .int (nI (k + 1))), (0, .ref (a 0)), (1, .ref ta), (2, .int (nI q))]) X 3 dX10_lays_49 rfl (by decide) rfl ?_
        refine g_goto (tgt := 18) X dX10_lays_52 (by decide) ?_
        refine GG.lv [1, 2, 3, 0] rfl ?_
        exact ih_18 (k + 1) (by omega) (by omega) (nI (k + 1)) (by rfl) (upd (upd (lyK (snp (dR s, dN0 s, mm, ss, kd, xo, yo, fr, tt, nm)) f q k 0) ((q + 2) + k) (nI (mm k))) ((q + 4) + k) (nI (ss k))) (by exact lyK_1 (dR s, dN0 s, mm, ss, kd, xo, yo, fr, tt, nm) f q (by omega))
  refine GG.lv [1, 2, 3, 0] rfl ?_
  exact L_18 (3) 0 (by omega) (by omega) (nI 0) (by rfl) (upd (upd f q (dR s)) (q + 1) (nI (dN0 s))) (by exact lyK_0 (dR s, dN0 s, mm, ss, kd, xo, yo, fr, tt, nm) f q)
set_option maxHeartbeats 4000000 in
set_option maxRecDepth 100000 in
theorem c_X10_takes (E : GE) (a : Nat → Nat) (s : MD0) (mm : Nat → Nat) (ss : Nat → Nat) (kd : Nat → Int32) (xo : Nat → Int32) (yo : Nat → Int32) (fr : Nat → Int32) (tt : Nat → Int32) (nm : Nat → Int32) (ta : Nat) (ln : Nat) (f : Nat → Int32) (q : Nat) (T : SN) (hq : q + 102 ≤ ln) (hl : ln < 2 ^ 31) (hF : okSn f q T) : CT E m_X10_takes [.ref (a 0), .ref ta, .int (nI q)] ([wMd E a s, wAn E (a 2) 2 mm, wAn E (a 3) 2 ss, wAr E (a 4) 16 kd, wAr E (a 5) 16 xo, wAr E (a 6) 16 yo, wAr E (a 7) 16 fr, wAr E (a 8) 16 tt, wAr E (a 9) 16 nm, wAr E ta ln f].flatten) none ([wMd E a (T.1, T.2.1, dU s, dK s, dP s, dX s, dY s, dS s, dA s, dQ s), wAn E (a 2) 2 (tkF T.2.2.1 mm 2), wAn E (a 3) 2 (tkF T.2.2.2.1 ss 2), wAr E (a 4) 16 (tkF T.2.2.2.2.1 kd 16), wAr E (a 5) 16 (tkF T.2.2.2.2.2.1 xo 16), wAr E (a 6) 16 (tkF T.2.2.2.2.2.2.1 yo 16), wAr E (a 7) 16 (tkF T.2.2.2.2.2.2.2.1 fr 16), wAr E (a 8) 16 (tkF T.2.2.2.2.2.2.2.2.1 tt 16), wAr E (a 9) 16 (tkF T.2.2.2.2.2.2.2.2.2 nm 16), wAr E ta ln f].flatten) := by
  refine CT.intro (by decide +kernel) (Nat.le_of_ble_eq_true rfl) (fun Γ X hx => ?_)
  refine GG.lv [0, 1, 2] (lv' := [(0, .ref (a 0)), (1, .ref ta), (2, .int (nI q))]) rfl ?_
  obtain ⟨e0, e1, e2, e4, e6, e22, e38, e54, e70, e86⟩ := hF
  refine g_aload_n X 0 dX10_takes_0 rfl ?_
  refine g_aload_n X 1 dX10_takes_1 rfl ?_
  refine g_iload_n X 2 dX10_takes_2 rfl ?_
  refine g_iald X 9 rfl q (ix_nI (by omega) (by omega)) dX10_takes_3 ?_
  rw [e0]
  refine g_putf (ws' := [wMd E a (T.1, dN0 s, dU s, dK s, dP s, dX s, dY s, dS s, dA s, dQ s), wAn E (a 2) 2 mm, wAn E (a 3) 2 ss, wAr E (a 4) 16 kd, wAr E (a 5) 16 xo, wAr E (a 6) 16 yo, wAr E (a 7) 16 fr, wAr E (a 8) 16 tt, wAr E (a 9) 16 nm, wAr E ta ln f].flatten) X ps_X10_7 0 rfl rfl rfl (Nat.le_of_ble_eq_true rfl) rfl dX10_takes_4 ?_
  refine g_aload_n X 0 dX10_takes_7 rfl ?_
  refine g_aload_n X 1 dX10_takes_8 rfl ?_
  refine g_iload_n X 2 dX10_takes_9 rfl ?_
  refine g_iconst (v := (nI 1)) X dX10_takes_10 rfl ?_
  refine g_iaddN X dX10_takes_11 ?_
  refine g_iald X 9 rfl (q + 1) (ix_nI (by omega) (by omega)) dX10_takes_12 ?_
  rw [e1]
  refine g_putf (ws' := [wMd E a (T.1, T.2.1, dU s, dK s, dP s, dX s, dY s, dS s, dA s, dQ s), wAn E (a 2) 2 mm, wAn E (a 3) 2 ss, wAr E (a 4) 16 kd, wAr E (a 5) 16 xo, wAr E (a 6) 16 yo, wAr E (a 7) 16 fr, wAr E (a 8) 16 tt, wAr E (a 9) 16 nm, wAr E ta ln f].flatten) X ps_X10_13 0 rfl rfl rfl (Nat.le_of_ble_eq_true rfl) rfl dX10_takes_13 ?_
  refine g_iconst (v := (nI 0)) X dX10_takes_16 rfl ?_
  refine g_istore_n (lv' := [(3, .int (nI 0)), (0, .ref (a 0)), (1, .ref ta), (2, .int (nI q))]) X dX10_takes_17 (by decide) rfl ?_
  have L_18 : ∀ (n_18 : Nat) (k : Nat) (hk : k ≤ 2) (hm_18 : 2 - k < n_18) (x_3 : Int32) (ex_3 : x_3 = (nI k)) (u_0 : Nat → Nat) (eu_0 : u_0 = tkF T.2.2.1 mm k) (u_1 : Nat → Nat) (eu_1 : u_1 = tkF T.2.2.2.1 ss k), GG E m_X10_takes Γ 0 0 ([wMd E a (T.1, T.2.1, dU s, dK s, dP s, dX s, dY s, dS s, dA s, dQ s), wAn E (a 2) 2 u_0, wAn E (a 3) 2 u_1, wAr E (a 4) 16 kd, wAr E (a 5) 16 xo, wAr E (a 6) 16 yo, wAr E (a 7) 16 fr, wAr E (a 8) 16 tt, wAr E (a 9) 16 nm, wAr E ta ln f].flatten) [(0, .ref (a 0)), (1, .ref ta), (2, .int (nI q)), (3, .int x_3)] 18 [] := by
    intro n_18
    induction n_18 with
    | zero => intro k hk hm_18; exact absurd hm_18 (Nat.not_lt_zero _)
    | succ n_18 ih_18 =>
      intro k hk hm_18 x_3 ex_3 u_0 eu_0 u_1 eu_1
      subst ex_3
      subst eu_0
      subst eu_1
      refine g_iload_n X 3 dX10_takes_18 rfl ?_
      refine g_iconst (v := (nI 2)) X dX10_takes_19 rfl ?_
      refine g_icmp_ge (tgt := 55) X dX10_takes_20 (by decide) (fun c_20 => ?_) (fun c_20 => ?_)
      · have f_c_20 : 2 ≤ k := n_le (by omega) (by omega) c_20
        have fn_c_20 := Nat.not_lt.mpr f_c_20
        have ek : k = 2 := by omega
        subst ek
        refine g_iconst (v := (nI 0)) X dX10_takes_55 rfl ?_
        refine g_istore_n (lv' := [(3, .int (nI 0)), (0, .ref (a 0)), (1, .ref ta), (2, .int (nI q))]) X dX10_takes_56 (by decide) rfl ?_
        have L_57 : ∀ (n_57 : Nat) (k2 : Nat) (hk2 : k2 ≤ 16) (hm_57 : 16 - k2 < n_57) (x_3 : Int32) (ex_3 : x_3 = (nI k2)) (u_0 : Nat → Int32) (eu_0 : u_0 = tkF T.2.2.2.2.1 kd k2) (u_1 : Nat → Int32) (eu_1 : u_1 = tkF T.2.2.2.2.2.1 xo k2) (u_2 : Nat → Int32) (eu_2 : u_2 = tkF T.2.2.2.2.2.2.1 yo k2) (u_3 : Nat → Int32) (eu_3 : u_3 = tkF T.2.2.2.2.2.2.2.1 fr k2) (u_4 : Nat → Int32) (eu_4 : u_4 = tkF T.2.2.2.2.2.2.2.2.1 tt k2) (u_5 : Nat → Int32) (eu_5 : u_5 = tkF T.2.2.2.2.2.2.2.2.2 nm k2), GG E m_X10_takes Γ 0 0 ([wMd E a (T.1, T.2.1, dU s, dK s, dP s, dX s, dY s, dS s, dA s, dQ s), wAn E (a 2) 2 (tkF T.2.2.1 mm 2), wAn E (a 3) 2 (tkF T.2.2.2.1 ss 2), wAr E (a 4) 16 u_0, wAr E (a 5) 16 u_1, wAr E (a 6) 16 u_2, wAr E (a 7) 16 u_3, wAr E (a 8) 16 u_4, wAr E (a 9) 16 u_5, wAr E ta ln f].flatten) [(0, .ref (a 0)), (1, .ref ta), (2, .int (nI q)), (3, .int x_3)] 57 [] := by
          intro n_57
          induction n_57 with
          | zero => intro k2 hk2 hm_57; exact absurd hm_57 (Nat.not_lt_zero _)
          | succ n_57 ih_57 =>
            intro k2 hk2 hm_57 x_3 ex_3 u_0 eu_0 u_1 eu_1 u_2 eu_2 u_3 eu_3 u_4 eu_4 u_5 eu_5
            subst ex_3
            subst eu_0
            subst eu_1
            subst eu_2
            subst eu_3
            subst eu_4
            subst eu_5
            refine g_iload_n X 3 dX10_takes_57 rfl ?_
            refine g_bipush (v := (nI 16)) X dX10_takes_58 rfl ?_
            refine g_icmp_ge (tgt := 153) X dX10_takes_60 (by decide) (fun c_60 => ?_) (fun c_60 => ?_)
            · have f_c_60 : 16 ≤ k2 := n_le (by omega) (by omega) c_60
              have fn_c_60 := Nat.not_lt.mpr f_c_60
              exact g_vret X hx rfl rfl (by rw [show k2 = 16 by omega]) dX10_takes_153
            · have f_c_60 : k2 < 16 := n_nle (by omega) (by omega) c_60
              have fn_c_60 := Nat.not_le.mpr f_c_60
              refine g_aload_n X 0 dX10_takes_63 rfl ?_
              refine g_getf (v := .ref (a 4)) X fs_X10_23 0 rfl rfl dX10_takes_64 ?_
              refine g_iload_n X 3 dX10_takes_67 rfl ?_
              refine g_aload_n X 1 dX10_takes_68 rfl ?_
              refine g_iload_n X 2 dX10_takes_69 rfl ?_
              refine g_bipush (v := (nI 6)) X dX10_takes_70 rfl ?_
              refine g_iaddN X dX10_takes_72 ?_
              refine g_iload_n X 3 dX10_takes_73 rfl ?_
              refine g_iaddN X dX10_takes_74 ?_
              refine g_iald X 9 rfl ((q + 6) + k2) (ix_nI (by omega) (by omega)) dX10_takes_75 ?_
              refine g_iast (ws' := [wMd E a (T.1, T.2.1, dU s, dK s, dP s, dX s, dY s, dS s, dA s, dQ s), wAn E (a 2) 2 (tkF T.2.2.1 mm 2), wAn E (a 3) 2 (tkF T.2.2.2.1 ss 2), wAr E (a 4) 16 (upd (tkF T.2.2.2.2.1 kd k2) k2 (f ((q + 6) + k2))), wAr E (a 5) 16 (tkF T.2.2.2.2.2.1 xo k2), wAr E (a 6) 16 (tkF T.2.2.2.2.2.2.1 yo k2), wAr E (a 7) 16 (tkF T.2.2.2.2.2.2.2.1 fr k2), wAr E (a 8) 16 (tkF T.2.2.2.2.2.2.2.2.1 tt k2), wAr E (a 9) 16 (tkF T.2.2.2.2.2.2.2.2.2 nm k2), wAr E ta ln f].flatten) X 3 rfl k2 (ix_nI (by omega) (by decide)) rfl dX10_takes_76 ?_
              refine g_aload_n X 0 dX10_takes_77 rfl ?_
              refine g_getf (v := .ref (a 5)) X fs_X10_26 0 rfl rfl dX10_takes_78 ?_
              refine g_iload_n X 3 dX10_takes_81 rfl ?_
              refine g_aload_n X 1 dX10_takes_82 rfl ?_
              refine g_iload_n X 2 dX10_takes_83 rfl ?_
              refine g_bipush (v := (nI 22)) X dX10_takes_84 rfl ?_
              refine g_iaddN X dX10_takes_86 ?_
              refine g_iload_n X 3 dX10_takes_87 rfl ?_
              refine g_iaddN X dX10_takes_88 ?_
              refine g_iald X 9 rfl ((q + 22) + k2) (ix_nI (by omega) (by omega)) dX10_takes_89 ?_
              refine g_iast (ws' := [wMd E a (T.1, T.2.1, dU s, dK s, dP s, dX s, dY s, dS s, dA s, dQ s), wAn E (a 2) 2 (tkF T.2.2.1 mm 2), wAn E (a 3) 2 (tkF T.2.2.2.1 ss 2), wAr E (a 4) 16 (upd (tkF T.2.2.2.2.1 kd k2) k2 (f ((q + 6) + k2))), wAr E (a 5) 16 (upd (tkF T.2.2.2.2.2.1 xo k2) k2 (f ((q + 22) + k2))), wAr E (a 6) 16 (tkF T.2.2.2.2.2.2.1 yo k2), wAr E (a 7) 16 (tkF T.2.2.2.2.2.2.2.1 fr k2), wAr E (a 8) 16 (tkF T.2.2.2.2.2.2.2.2.1 tt k2), wAr E (a 9) 16 (tkF T.2.2.2.2.2.2.2.2.2 nm k2), wAr E ta ln f].flatten) X 4 rfl k2 (ix_nI (by omega) (by decide)) rfl dX10_takes_90 ?_
              refine g_aload_n X 0 dX10_takes_91 rfl ?_
              refine g_getf (v := .ref (a 6)) X fs_X10_29 0 rfl rfl dX10_takes_92 ?_
              refine g_iload_n X 3 dX10_takes_95 rfl ?_
              refine g_aload_n X 1 dX10_takes_96 rfl ?_
              refine g_iload_n X 2 dX10_takes_97 rfl ?_
              refine g_bipush (v := (nI 38)) X dX10_takes_98 rfl ?_
              refine g_iaddN X dX10_takes_100 ?_
              refine g_iload_n X 3 dX10_takes_101 rfl ?_
              refine g_iaddN X dX10_takes_102 ?_
              refine g_iald X 9 rfl ((q + 38) + k2) (ix_nI (by omega) (by omega)) dX10_takes_103 ?_
              refine g_iast (ws' := [wMd E a (T.1, T.2.1, dU s, dK s, dP s, dX s, dY s, dS s, dA s, dQ s), wAn E (a 2) 2 (tkF T.2.2.1 mm 2), wAn E (a 3) 2 (tkF T.2.2.2.1 ss 2), wAr E (a 4) 16 (upd (tkF T.2.2.2.2.1 kd k2) k2 (f ((q + 6) + k2))), wAr E (a 5) 16 (upd (tkF T.2.2.2.2.2.1 xo k2) k2 (f ((q + 22) + k2))), wAr E (a 6) 16 (upd (tkF T.2.2.2.2.2.2.1 yo k2) k2 (f ((q + 38) + k2))), wAr E (a 7) 16 (tkF T.2.2.2.2.2.2.2.1 fr k2), wAr E (a 8) 16 (tkF T.2.2.2.2.2.2.2.2.1 tt k2), wAr E (a 9) 16 (tkF T.2.2.2.2.2.2.2.2.2 nm k2), wAr E ta ln f].flatten) X 5 rfl k2 (ix_nI (by omega) (by decide)) rfl dX10_takes_104 ?_
              refine g_aload_n X 0 dX10_takes_105 rfl ?_
              refine g_getf (v := .ref (a 7)) X fs_X10_32 0 rfl rfl dX10_takes_106 ?_
              refine g_iload_n X 3 dX10_takes_109 rfl ?_
              refine g_aload_n X 1 dX10_takes_110 rfl ?_
              refine g_iload_n X 2 dX10_takes_111 rfl ?_
              refine g_bipush (v := (nI 54)) X dX10_takes_112 rfl ?_
              refine g_iaddN X dX10_takes_114 ?_
              refine g_iload_n X 3 dX10_takes_115 rfl ?_
              refine g_iaddN X dX10_takes_116 ?_
              refine g_iald X 9 rfl ((q + 54) + k2) (ix_nI (by omega) (by omega)) dX10_takes_117 ?_
              refine g_iast (ws' := [wMd E a (T.1, T.2.1, dU s, dK s, dP s, dX s, dY s, dS s, dA s, dQ s), wAn E (a 2) 2 (tkF T.2.2.1 mm 2), wAn E (a 3) 2 (tkF T.2.2.2.1 ss 2), wAr E (a 4) 16 (upd (tkF T.2.2.2.2.1 kd k2) k2 (f ((q + 6) + k2))), wAr E (a 5) 16 (upd (tkF T.2.2.2.2.2.1 xo k2) k2 (f ((q + 22) + k2))), wAr E (a 6) 16 (upd (tkF T.2.2.2.2.2.2.1 yo k2) k2 (f ((q + 38) + k2))), wAr E (a 7) 16 (upd (tkF T.2.2.2.2.2.2.2.1 fr k2) k2 (f ((q + 54) + k2))), wAr E (a 8) 16 (tkF T.2.2.2.2.2.2.2.2.1 tt k2), wAr E (a 9) 16 (tkF T.2.2.2.2.2.2.2.2.2 nm k2), wAr E ta ln f].flatten) X 6 rfl k2 (ix_nI (by omega) (by decide)) rfl dX10_takes_118 ?_
              refine g_aload_n X 0 dX10_takes_119 rfl ?_
              refine g_getf (v := .ref (a 8)) X fs_X10_35 0 rfl rfl dX10_takes_120 ?_
              refine g_iload_n X 3 dX10_takes_123 rfl ?_
              refine g_aload_n X 1 dX10_takes_124 rfl ?_
              refine g_iload_n X 2 dX10_takes_125 rfl ?_
              refine g_bipush (v := (nI 70)) X dX10_takes_126 rfl ?_
              refine g_iaddN X dX10_takes_128 ?_
              refine g_iload_n X 3 dX10_takes_129 rfl ?_
              refine g_iaddN X dX10_takes_130 ?_
              refine g_iald X 9 rfl ((q + 70) + k2) (ix_nI (by omega) (by omega)) dX10_takes_131 ?_
              refine g_iast (ws' := [wMd E a (T.1, T.2.1, dU s, dK s, dP s, dX s, dY s, dS s, dA s, dQ s), wAn E (a 2) 2 (tkF T.2.2.1 mm 2), wAn E (a 3) 2 (tkF T.2.2.2.1 ss 2), wAr E (a 4) 16 (upd (tkF T.2.2.2.2.1 kd k2) k2 (f ((q + 6) + k2))), wAr E (a 5) 16 (upd (tkF T.2.2.2.2.2.1 xo k2) k2 (f ((q + 22) + k2))), wAr E (a 6) 16 (upd (tkF T.2.2.2.2.2.2.1 yo k2) k2 (f ((q + 38) + k2))), wAr E (a 7) 16 (upd (tkF T.2.2.2.2.2.2.2.1 fr k2) k2 (f ((q + 54) + k2))), wAr E (a 8) 16 (upd (tkF T.2.2.2.2.2.2.2.2.1 tt k2) k2 (f ((q + 70) + k2))), wAr E (a 9) 16 (tkF T.2.2.2.2.2.2.2.2.2 nm k2), wAr E ta ln f].flatten) X 7 rfl k2 (ix_nI (by omega) (by decide)) rfl dX10_takes_132 ?_
              refine g_aload_n X 0 dX10_takes_133 rfl ?_
              refine g_getf (v := .ref (a 9)) X fs_X10_38 0 rfl rfl dX10_takes_134 ?_
              refine g_iload_n X 3 dX10_takes_137 rfl ?_
              refine g_aload_n X 1 dX10_takes_138 rfl ?_
              refine g_iload_n X 2 dX10_takes_139 rfl ?_
              refine g_bipush (v := (nI 86)) X dX10_takes_140 rfl ?_
              refine g_iaddN X dX10_takes_142 ?_
              refine g_iload_n X 3 dX10_takes_143 rfl ?_
              refine g_iaddN X dX10_takes_144 ?_
              refine g_iald X 9 rfl ((q + 86) + k2) (ix_nI (by omega) (by omega)) dX10_takes_145 ?_
              refine g_iast (ws' := [wMd E a (T.1, T.2.1, dU s, dK s, dP s, dX s, dY s, dS s, dA s, dQ s), wAn E (a 2) 2 (tkF T.2.2.1 mm 2), wAn E (a 3) 2 (tkF T.2.2.2.1 ss 2), wAr E (a 4) 16 (upd (tkF T.2.2.2.2.1 kd k2) k2 (f ((q + 6) + k2))), wAr E (a 5) 16 (upd (tkF T.2.2.2.2.2.1 xo k2) k2 (f ((q + 22) + k2))), wAr E (a 6) 16 (upd (tkF T.2.2.2.2.2.2.1 yo k2) k2 (f ((q + 38) + k2))), wAr E (a 7) 16 (upd (tkF T.2.2.2.2.2.2.2.1 fr k2) k2 (f ((q + 54) + k2))), wAr E (a 8) 16 (upd (tkF T.2.2.2.2.2.2.2.2.1 tt k2) k2 (f ((q + 70) + k2))), wAr E (a 9) 16 (upd (tkF T.2.2.2.2.2.2.2.2.2 nm k2) k2 (f ((q + 86) + k2))), wAr E ta ln f].flatten) X 8 rfl k2 (ix_nI (by omega) (by decide)) rfl dX10_takes_146 ?_
              refine g_iincN (lv' := [(3, .int (nI (k2 + 1))), (0, .ref (a 0)), (1, .ref ta), (2, .int (nI q))]) X 3 dX10_takes_147 rfl (by decide) rfl ?_
              refine g_goto (tgt := 57) X dX10_takes_150 (by decide) ?_
              refine GG.lv [1, 2, 3, 0] rfl ?_
              exact ih_57 (k2 + 1) (by omega) (by omega) (nI (k2 + 1)) (by rfl) (upd (tkF T.2.2.2.2.1 kd k2) k2 (f ((q + 6) + k2))) (by exact tkF_s _ _ _ (e6 k2 (by omega))) (upd (tkF T.2.2.2.2.2.1 xo k2) k2 (f ((q + 22) + k2))) (by exact tkF_s _ _ _ (e22 k2 (by omega))) (upd (tkF T.2.2.2.2.2.2.1 yo k2) k2 (f ((q + 38) + k2))) (by exact tkF_s _ _ _ (e38 k2 (by omega))) (upd (tkF T.2.2.2.2.2.2.2.1 fr k2) k2 (f ((q + 54) + k2))) (by exact tkF_s _ _ _ (e54 k2 (by omega))) (upd (tkF T.2.2.2.2.2.2.2.2.1 tt k2) k2 (f ((q + 70) + k2))) (by exact tkF_s _ _ _ (e70 k2 (by omega))) (upd (tkF T.2.2.2.2.2.2.2.2.2 nm k2) k2 (f ((q + 86) + k2))) (by exact tkF_s _ _ _ (e86 k2 (by omega)))
        refine GG.lv [1, 2, 3, 0] rfl ?_
        exact L_57 (17) 0 (by omega) (by omega) (nI 0) (by rfl) kd (by exact (tkF_0 _ _).symm) xo (by exact (tkF_0 _ _).symm) yo (by exact (tkF_0 _ _).symm) fr (by exact (tkF_0 _ _).symm) tt (by exact (tkF_0 _ _).symm) nm (by exact (tkF_0 _ _).symm)
      · have f_c_20 : k < 2 := n_nle (by omega) (by omega) c_20
        have fn_c_20 := Nat.not_le.mpr f_c_20
        refine g_aload_n X 0 dX10_takes_23 rfl ?_
        refine g_getf (v := .ref (a 2)) X fs_X10_16 0 rfl rfl dX10_takes_24 ?_
        refine g_iload_n X 3 dX10_takes_27 rfl ?_
        refine g_aload_n X 1 dX10_takes_28 rfl ?_
        refine g_iload_n X 2 dX10_takes_29 rfl ?_
        refine g_iconst (v := (nI 2)) X dX10_takes_30 rfl ?_
        refine g_iaddN X dX10_takes_31 ?_
        refine g_iload_n X 3 dX10_takes_32 rfl ?_
        refine g_iaddN X dX10_takes_33 ?_
        refine g_iald X 9 rfl ((q + 2) + k) (ix_nI (by omega) (by omega)) dX10_takes_34 ?_
        rw [e2 k (by omega)]
        refine g_anst (S' := [wMd E a (T.1, T.2.1, dU s, dK s, dP s, dX s, dY s, dS s, dA s, dQ s), wAn E (a 2) 2 (upN (tkF T.2.2.1 mm k) k (T.2.2.1 k)), wAn E (a 3) 2 (tkF T.2.2.2.1 ss k), wAr E (a 4) 16 kd, wAr E (a 5) 16 xo, wAr E (a 6) 16 yo, wAr E (a 7) 16 fr, wAr E (a 8) 16 tt, wAr E (a 9) 16 nm, wAr E ta ln f]) X 1 rfl k (ix_nI (by omega) (by decide)) rfl dX10_takes_35 ?_
        refine g_aload_n X 0 dX10_takes_36 rfl ?_
        refine g_getf (v := .ref (a 3)) X fs_X10_20 0 rfl rfl dX10_takes_37 ?_
        refine g_iload_n X 3 dX10_takes_40 rfl ?_
        refine g_aload_n X 1 dX10_takes_41 rfl ?_
        refine g_iload_n X 2 dX10_takes_42 rfl ?_
        refine g_iconst (v := (nI 4)) X dX10_takes_43 rfl ?_
        refine g_iaddN X dX10_takes_44 ?_
        refine g_iload_n X 3 dX10_takes_45 rfl ?_
        refine g_iaddN X dX10_takes_46 ?_
        refine g_iald X 9 rfl ((q + 4) + k) (ix_nI (by omega) (by omega)) dX10_takes_47 ?_
        rw [e4 k (by omega)]
        refine g_anst (S' := [wMd E a (T.1, T.2.1, dU s, dK s, dP s, dX s, dY s, dS s, dA s, dQ s), wAn E (a 2) 2 (upN (tkF T.2.2.1 mm k) k (T.2.2.1 k)), wAn E (a 3) 2 (upN (tkF T.2.2.2.1 ss k) k (T.2.2.2.1 k)), wAr E (a 4) 16 kd, wAr E (a 5) 16 xo, wAr E (a 6) 16 yo, wAr E (a 7) 16 fr, wAr E (a 8) 16 tt, wAr E (a 9) 16 nm, wAr E ta ln f]) X 2 rfl k (ix_nI (by omega) (by decide)) rfl dX10_takes_48 ?_
        refine g_iincN (lv' := [(3, .int (nI (k + 1))), (0, .ref (a 0)), (1, .ref ta), (2, .int (nI q))]) X 3 dX10_takes_49 rfl (by decide) rfl ?_
        refine g_goto (tgt := 18) X dX10_takes_52 (by decide) ?_
        refine GG.lv [1, 2, 3, 0] rfl ?_
        exact ih_18 (k + 1) (by omega) (by omega) (nI (k + 1)) (by rfl) (upN (tkF T.2.2.1 mm k) k (T.2.2.1 k)) (by exact tkN_s _ _ _) (upN (tkF T.2.2.2.1 ss k) k (T.2.2.2.1 k)) (by exact tkN_s _ _ _)
  refine GG.lv [1, 2, 3, 0] rfl ?_
  exact L_18 (3) 0 (by omega) (by omega) (nI 0) (by rfl) mm (by exact (tkF_0 _ _).symm) ss (by exact (tkF_0 _ _).symm)
set_option maxHeartbeats 4000000 in
set_option maxRecDepth 100000 in
theorem c_X10_notes (E : GE) (a : Nat → Nat) (s : MD0) (mm : Nat → Nat) (ss : Nat → Nat) (kd : Nat → Int32) (xo : Nat → Int32) (yo : Nat → Int32) (fr : Nat → Int32) (tt : Nat → Int32) (nm : Nat → Int32) (ah : Nat → Int32) (hU : dU s ≤ 8) : CT E m_X10_notes [.ref (a 0)] ([wMd E a s, wAn E (a 2) 2 mm, wAn E (a 3) 2 ss, wAr E (a 4) 16 kd, wAr E (a 5) 16 xo, wAr E (a 6) 16 yo, wAr E (a 7) 16 fr, wAr E (a 8) 16 tt, wAr E (a 9) 16 nm, wAr E (a 10) 816 ah].flatten) none ([wMd E a (dR s, dN0 s, ntU (dU s), dK s, dP s, dX s, dY s, dS s, dA s, dQ s), wAn E (a 2) 2 mm, wAn E (a 3) 2 ss, wAr E (a 4) 16 kd, wAr E (a 5) 16 xo, wAr E (a 6) 16 yo, wAr E (a 7) 16 fr, wAr E (a 8) 16 tt, wAr E (a 9) 16 nm, wAr E (a 10) 816 (lyF (snp (dR s, dN0 s, mm, ss, kd, xo, yo, fr, tt, nm)) (ntF ah (dU s)) (ntQ (dU s)))].flatten) := by
  refine CT.intro (by decide +kernel) (Nat.le_of_ble_eq_true rfl) (fun Γ X hx => ?_)
  refine GG.lv [0] (lv' := [(0, .ref (a 0))]) rfl ?_
  refine g_aload_n X 0 dX10_notes_0 rfl ?_
  refine g_getf (v := .int (nI (dU s))) X fs_X10_107 0 rfl rfl dX10_notes_1 ?_
  refine g_bipush (v := (nI 8)) X dX10_notes_4 rfl ?_
  refine g_icmp_ne (tgt := 49) X dX10_notes_6 (by decide) (fun c_6 => ?_) (fun c_6 => ?_)
  · have f_c_6 : ¬ dU s = 8 := n_ne (by omega) (by omega) c_6
    refine g_aload_n X 0 dX10_notes_49 rfl ?_
    refine g_aload_n X 0 dX10_notes_50 rfl ?_
    refine g_getf (v := .ref (a 10)) X fs_X10_41 0 rfl rfl dX10_notes_51 ?_
    refine g_bipush (v := (nI 102)) X dX10_notes_54 rfl ?_
    refine g_aload_n X 0 dX10_notes_56 rfl ?_
    refine g_getf (v := .int (nI (dU s))) X fs_X10_107 0 rfl rfl dX10_notes_57 ?_
    refine g_imulN X dX10_notes_60 ?_
    refine g_callV (st2 := []) (S' := [wMd E a s, wAn E (a 2) 2 mm, wAn E (a 3) 2 ss, wAr E (a 4) 16 kd, wAr E (a 5) 16 xo, wAr E (a 6) 16 yo, wAr E (a 7) 16 fr, wAr E (a 8) 16 tt, wAr E (a 9) 16 nm, wAr E (a 10) 816 (lyF (snp (dR s, dN0 s, mm, ss, kd, xo, yo, fr, tt, nm)) ah (102 * (dU s)))]) (q0 := 0) X (c_X10_lays E a s mm ss kd xo yo fr tt nm (a 10) 816 ah (102 * (dU s)) (by first | assumption | omega) (by first | assumption | omega)) cs_X10_110 rfl [0, 1, 2, 3, 4, 5, 6, 7, 8, 9] [] 10 rfl rfl (by decide) [] rfl rfl rfl rfl (by simp only [List.map_cons, List.map_nil, fsAn, fsAr, fsMd]) rfl rfl rfl rfl (Nat.le_of_ble_eq_true rfl) dX10_notes_61 rfl ?_
    refine g_aload_n X 0 dX10_notes_64 rfl ?_
    refine g_dup X dX10_notes_65 rfl ?_
    refine g_getf (v := .int (nI (dU s))) X fs_X10_107 0 rfl rfl dX10_notes_66 ?_
    refine g_iconst (v := (nI 1)) X dX10_notes_69 rfl ?_
    refine g_iaddN X dX10_notes_70 ?_
    refine g_putf (ws' := [wMd E a (dR s, dN0 s, (dU s) + 1, dK s, dP s, dX s, dY s, dS s, dA s, dQ s), wAn E (a 2) 2 mm, wAn E (a 3) 2 ss, wAr E (a 4) 16 kd, wAr E (a 5) 16 xo, wAr E (a 6) 16 yo, wAr E (a 7) 16 fr, wAr E (a 8) 16 tt, wAr E (a 9) 16 nm, wAr E (a 10) 816 (lyF (snp (dR s, dN0 s, mm, ss, kd, xo, yo, fr, tt, nm)) ah (102 * (dU s)))].flatten) X ps_X10_107 0 rfl rfl rfl (Nat.le_of_ble_eq_true rfl) rfl dX10_notes_71 ?_
    exact g_vret X hx rfl rfl (by simp only [ntU, ntQ, ntF, if_neg f_c_6]) dX10_notes_74
  · have f_c_6 : dU s = 8 := n_eq (by omega) (by omega) c_6
    refine g_iconst (v := (nI 0)) X dX10_notes_9 rfl ?_
    refine g_istore_n (lv' := [(1, .int (nI 0)), (0, .ref (a 0))]) X dX10_notes_10 (by decide) rfl ?_
    have L_11 : ∀ (n_11 : Nat) (k : Nat) (hk : k ≤ 714) (hm_11 : 714 - k < n_11) (x_1 : Int32) (ex_1 : x_1 = (nI k)) (u_0 : Nat → Int32) (eu_0 : u_0 = shD ah k), GG E m_X10_notes Γ 0 0 ([wMd E a s, wAn E (a 2) 2 mm, wAn E (a 3) 2 ss, wAr E (a 4) 16 kd, wAr E (a 5) 16 xo, wAr E (a 6) 16 yo, wAr E (a 7) 16 fr, wAr E (a 8) 16 tt, wAr E (a 9) 16 nm, wAr E (a 10) 816 u_0].flatten) [(0, .ref (a 0)), (1, .int x_1)] 11 [] := by
      intro n_11
      induction n_11 with
      | zero => intro k hk hm_11; exact absurd hm_11 (Nat.not_lt_zero _)
      | succ n_11 ih_11 =>
        intro k hk hm_11 x_1 ex_1 u_0 eu_0
        subst ex_1
        subst eu_0
        refine g_iload_n X 1 dX10_notes_11 rfl ?_
        refine g_sipush (v := (nI 714)) X dX10_notes_12 rfl ?_
        refine g_icmp_ge (tgt := 39) X dX10_notes_15 (by decide) (fun c_15 => ?_) (fun c_15 => ?_)
        · have f_c_15 : 714 ≤ k := n_le (by omega) (by omega) c_15
          have fn_c_15 := Nat.not_lt.mpr f_c_15
          have ek : k = 714 := by omega
          subst ek
          refine g_aload_n X 0 dX10_notes_39 rfl ?_
          refine g_dup X dX10_notes_40 rfl ?_
          refine g_getf (v := .int (nI (dU s))) X fs_X10_107 0 rfl rfl dX10_notes_41 ?_
          refine g_iconst (v := (nI 1)) X dX10_notes_44 rfl ?_
          refine g_isubN X (by omega) dX10_notes_45 ?_
          refine g_putf (ws' := [wMd E a (dR s, dN0 s, (dU s) - 1, dK s, dP s, dX s, dY s, dS s, dA s, dQ s), wAn E (a 2) 2 mm, wAn E (a 3) 2 ss, wAr E (a 4) 16 kd, wAr E (a 5) 16 xo, wAr E (a 6) 16 yo, wAr E (a 7) 16 fr, wAr E (a 8) 16 tt, wAr E (a 9) 16 nm, wAr E (a 10) 816 (shD ah 714)].flatten) X ps_X10_107 0 rfl rfl rfl (Nat.le_of_ble_eq_true rfl) rfl dX10_notes_46 ?_
          refine g_aload_n X 0 dX10_notes_49 rfl ?_
          refine g_aload_n X 0 dX10_notes_50 rfl ?_
          refine g_getf (v := .ref (a 10)) X fs_X10_41 0 rfl rfl dX10_notes_51 ?_
          refine g_bipush (v := (nI 102)) X dX10_notes_54 rfl ?_
          refine g_aload_n X 0 dX10_notes_56 rfl ?_
          refine g_getf (v := .int (nI ((dU s) - 1))) X fs_X10_107 0 rfl rfl dX10_notes_57 ?_
          refine g_imulN X dX10_notes_60 ?_
          refine g_callV (st2 := []) (S' := [wMd E a (dR s, dN0 s, (dU s) - 1, dK s, dP s, dX s, dY s, dS s, dA s, dQ s), wAn E (a 2) 2 mm, wAn E (a 3) 2 ss, wAr E (a 4) 16 kd, wAr E (a 5) 16 xo, wAr E (a 6) 16 yo, wAr E (a 7) 16 fr, wAr E (a 8) 16 tt, wAr E (a 9) 16 nm, wAr E (a 10) 816 (lyF (snp (dR (dR s, dN0 s, (dU s) - 1, dK s, dP s, dX s, dY s, dS s, dA s, dQ s), dN0 (dR s, dN0 s, (dU s) - 1, dK s, dP s, dX s, dY s, dS s, dA s, dQ s), mm, ss, kd, xo, yo, fr, tt, nm)) (shD ah 714) (102 * ((dU s) - 1)))]) (q0 := 0) X (c_X10_lays E a (dR s, dN0 s, (dU s) - 1, dK s, dP s, dX s, dY s, dS s, dA s, dQ s) mm ss kd xo yo fr tt nm (a 10) 816 (shD ah 714) (102 * ((dU s) - 1)) (by first | assumption | omega) (by first | assumption | omega)) cs_X10_110 rfl [0, 1, 2, 3, 4, 5, 6, 7, 8, 9] [] 10 rfl rfl (by decide) [] rfl rfl rfl rfl (by simp only [List.map_cons, List.map_nil, fsAn, fsAr, fsMd]) rfl rfl rfl rfl (Nat.le_of_ble_eq_true rfl) dX10_notes_61 rfl ?_
          refine g_aload_n X 0 dX10_notes_64 rfl ?_
          refine g_dup X dX10_notes_65 rfl ?_
          refine g_getf (v := .int (nI ((dU s) - 1))) X fs_X10_107 0 rfl rfl dX10_notes_66 ?_
          refine g_iconst (v := (nI 1)) X dX10_notes_69 rfl ?_
          refine g_iaddN X dX10_notes_70 ?_
          refine g_putf (ws' := [wMd E a (dR s, dN0 s, ((dU s) - 1) + 1, dK s, dP s, dX s, dY s, dS s, dA s, dQ s), wAn E (a 2) 2 mm, wAn E (a 3) 2 ss, wAr E (a 4) 16 kd, wAr E (a 5) 16 xo, wAr E (a 6) 16 yo, wAr E (a 7) 16 fr, wAr E (a 8) 16 tt, wAr E (a 9) 16 nm, wAr E (a 10) 816 (lyF (snp (dR (dR s, dN0 s, (dU s) - 1, dK s, dP s, dX s, dY s, dS s, dA s, dQ s), dN0 (dR s, dN0 s, (dU s) - 1, dK s, dP s, dX s, dY s, dS s, dA s, dQ s), mm, ss, kd, xo, yo, fr, tt, nm)) (shD ah 714) (102 * ((dU s) - 1)))].flatten) X ps_X10_107 0 rfl rfl rfl (Nat.le_of_ble_eq_true rfl) rfl dX10_notes_71 ?_
          exact g_vret X hx rfl rfl (by simp only [ntU, ntQ, ntF, if_pos f_c_6, show 102 * (dU s - 1) = 714 by omega, show dU s - 1 + 1 = 8 by omega]) dX10_notes_74
        · have f_c_15 : k < 714 := n_nle (by omega) (by omega) c_15
          have fn_c_15 := Nat.not_le.mpr f_c_15
          refine g_aload_n X 0 dX10_notes_18 rfl ?_
          refine g_getf (v := .ref (a 10)) X fs_X10_41 0 rfl rfl dX10_notes_19 ?_
          refine g_iload_n X 1 dX10_notes_22 rfl ?_
          refine g_aload_n X 0 dX10_notes_23 rfl ?_
          refine g_getf (v := .ref (a 10)) X fs_X10_41 0 rfl rfl dX10_notes_24 ?_
          refine g_iload_n X 1 dX10_notes_27 rfl ?_
          refine g_bipush (v := (nI 102)) X dX10_notes_28 rfl ?_
          refine g_iaddN X dX10_notes_30 ?_
          refine g_iald X 9 rfl (k + 102) (ix_nI (by omega) (by decide)) dX10_notes_31 ?_
          refine g_iast (ws' := [wMd E a s, wAn E (a 2) 2 mm, wAn E (a 3) 2 ss, wAr E (a 4) 16 kd, wAr E (a 5) 16 xo, wAr E (a 6) 16 yo, wAr E (a 7) 16 fr, wAr E (a 8) 16 tt, wAr E (a 9) 16 nm, wAr E (a 10) 816 (upd (shD ah k) k ((shD ah k) (k + 102)))].flatten) X 9 rfl k (ix_nI (by omega) (by decide)) rfl dX10_notes_32 ?_
          refine g_iincN (lv' := [(1, .int (nI (k + 1))), (0, .ref (a 0))]) X 1 dX10_notes_33 rfl (by decide) rfl ?_
          refine g_goto (tgt := 11) X dX10_notes_36 (by decide) ?_
          refine GG.lv [1, 0] rfl ?_
          exact ih_11 (k + 1) (by omega) (by omega) (nI (k + 1)) (by rfl) (upd (shD ah k) k ((shD ah k) (k + 102))) (by exact shD_s _ _)
    refine GG.lv [1, 0] rfl ?_
    exact L_11 (715) 0 (by omega) (by omega) (nI 0) (by rfl) ah (by exact (shD_0 _).symm)
set_option maxHeartbeats 4000000 in
set_option maxRecDepth 100000 in
theorem c_X10_meets (E : GE) (a : Nat → Nat) (s : MD0) (mm : Nat → Nat) (kd : Nat → Int32) (xo : Nat → Int32) (yo : Nat → Int32) (g : Nat) (k : Int32) (x : Int32) (y : Int32) (hg : g < 2) (h8 : mm g < 8) : CT E m_X10_meets [.ref (a 0), .int (nI g), .int k, .int x, .int y] ([wMd E a s, wAn E (a 2) 2 mm, wAr E (a 4) 16 kd, wAr E (a 5) 16 xo, wAr E (a 6) 16 yo].flatten) none ([wMd E a s, wAn E (a 2) 2 (upN mm g (mm g + 1)), wAr E (a 4) 16 (upd kd (8 * g + mm g) k), wAr E (a 5) 16 (upd xo (8 * g + mm g) x), wAr E (a 6) 16 (upd yo (8 * g + mm g) y)].flatten) := by
  refine CT.intro (by decide +kernel) (Nat.le_of_ble_eq_true rfl) (fun Γ X hx => ?_)
  refine GG.lv [0, 1, 2, 3, 4] (lv' := [(0, .ref (a 0)), (1, .int (nI g)), (2, .int k), (3, .int x), (4, .int y)]) rfl ?_
  refine g_bipush (v := (nI 8)) X dX10_meets_0 rfl ?_
  refine g_iload_n X 1 dX10_meets_2 rfl ?_
  refine g_imulN X dX10_meets_3 ?_
  refine g_aload_n X 0 dX10_meets_4 rfl ?_
  refine g_getf (v := .ref (a 2)) X fs_X10_16 0 rfl rfl dX10_meets_5 ?_
  refine g_iload_n X 1 dX10_meets_8 rfl ?_
  refine g_anld (f := mm) X 1 rfl g (ix_nI (by omega) (by decide)) dX10_meets_9 ?_
  refine g_iaddN X dX10_meets_10 ?_
  refine g_istore (lv' := [(5, .int (nI ((8 * g) + (mm g)))), (0, .ref (a 0)), (1, .int (nI g)), (2, .int k), (3, .int x), (4, .int y)]) X dX10_meets_11 (by decide) rfl ?_
  refine g_aload_n X 1 dX10_meets_13 rfl ?_
  refine g_getf (v := .ref (a 4)) X fs_X10_23 0 rfl rfl dX10_meets_14 ?_
  refine g_iload X 0 dX10_meets_17 rfl ?_
  refine g_iload_n X 3 dX10_meets_19 rfl ?_
  refine g_iast (ws' := [wMd E a s, wAn E (a 2) 2 mm, wAr E (a 4) 16 (upd kd ((8 * g) + (mm g)) k), wAr E (a 5) 16 xo, wAr E (a 6) 16 yo].flatten) X 2 rfl ((8 * g) + (mm g)) (ix_nI (by omega) (by decide)) rfl dX10_meets_20 ?_
  refine g_aload_n X 1 dX10_meets_21 rfl ?_
  refine g_getf (v := .ref (a 5)) X fs_X10_26 0 rfl rfl dX10_meets_22 ?_
  refine g_iload X 0 dX10_meets_25 rfl ?_
  refine g_iload_n X 4 dX10_meets_27 rfl ?_
  refine g_iast (ws' := [wMd E a s, wAn E (a 2) 2 mm, wAr E (a 4) 16 (upd kd ((8 * g) + (mm g)) k), wAr E (a 5) 16 (upd xo ((8 * g) + (mm g)) x), wAr E (a 6) 16 yo].flatten) X 3 rfl ((8 * g) + (mm g)) (ix_nI (by omega) (by decide)) rfl dX10_meets_28 ?_
  refine g_aload_n X 1 dX10_meets_29 rfl ?_
  refine g_getf (v := .ref (a 6)) X fs_X10_29 0 rfl rfl dX10_meets_30 ?_
  refine g_iload X 0 dX10_meets_33 rfl ?_
  refine g_iload X 5 dX10_meets_35 rfl ?_
  refine g_iast (ws' := [wMd E a s, wAn E (a 2) 2 mm, wAr E (a 4) 16 (upd kd ((8 * g) + (mm g)) k), wAr E (a 5) 16 (upd xo ((8 * g) + (mm g)) x), wAr E (a 6) 16 (upd yo ((8 * g) + (mm g)) y)].flatten) X 4 rfl ((8 * g) + (mm g)) (ix_nI (by omega) (by decide)) rfl dX10_meets_37 ?_
  refine g_aload_n X 1 dX10_meets_38 rfl ?_
  refine g_getf (v := .ref (a 2)) X fs_X10_16 0 rfl rfl dX10_meets_39 ?_
  refine g_iload_n X 2 dX10_meets_42 rfl ?_
  refine g_dup2 X dX10_meets_43 rfl rfl ?_
  refine g_anld (f := mm) X 1 rfl g (ix_nI (by omega) (by decide)) dX10_meets_44 ?_
  refine g_iconst (v := (nI 1)) X dX10_meets_45 rfl ?_
  refine g_iaddN X dX10_meets_46 ?_
  refine g_anst (S' := [wMd E a s, wAn E (a 2) 2 (upN mm g ((mm g) + 1)), wAr E (a 4) 16 (upd kd ((8 * g) + (mm g)) k), wAr E (a 5) 16 (upd xo ((8 * g) + (mm g)) x), wAr E (a 6) 16 (upd yo ((8 * g) + (mm g)) y)]) X 1 rfl g (ix_nI (by omega) (by decide)) rfl dX10_meets_47 ?_
  exact g_vret X hx rfl rfl (by rfl) dX10_meets_48
set_option maxHeartbeats 4000000 in
set_option maxRecDepth 100000 in
theorem c_X10_joins (E : GE) (a : Nat → Nat) (s : MD0) (ss : Nat → Nat) (fr : Nat → Int32) (tt : Nat → Int32) (nm : Nat → Int32) (g : Nat) (k : Int32) (x : Int32) (y : Int32) (hg : g < 2) (h8 : ss g < 8) : CT E m_X10_joins [.ref (a 0), .int (nI g), .int k, .int x, .int y] ([wMd E a s, wAn E (a 3) 2 ss, wAr E (a 7) 16 fr, wAr E (a 8) 16 tt, wAr E (a 9) 16 nm].flatten) none ([wMd E a s, wAn E (a 3) 2 (upN ss g (ss g + 1)), wAr E (a 7) 16 (upd fr (8 * g + ss g) k), wAr E (a 8) 16 (upd tt (8 * g + ss g) x), wAr E (a 9) 16 (upd nm (8 * g + ss g) y)].flatten) := by
  refine CT.intro (by decide +kernel) (Nat.le_of_ble_eq_true rfl) (fun Γ X hx => ?_)
  refine GG.lv [0, 1, 2, 3, 4] (lv' := [(0, .ref (a 0)), (1, .int (nI g)), (2, .int k), (3, .int x), (4, .int y)]) rfl ?_
  refine g_bipush (v := (nI 8)) X dX10_joins_0 rfl ?_
  refine g_iload_n X 1 dX10_joins_2 rfl ?_
  refine g_imulN X dX10_joins_3 ?_
  refine g_aload_n X 0 dX10_joins_4 rfl ?_
  refine g_getf (v := .ref (a 3)) X fs_X10_20 0 rfl rfl dX10_joins_5 ?_
  refine g_iload_n X 1 dX10_joins_8 rfl ?_
  refine g_anld (f := ss) X 1 rfl g (ix_nI (by omega) (by decide)) dX10_joins_9 ?_
  refine g_iaddN X dX10_joins_10 ?_
  refine g_istore (lv' := [(5, .int (nI ((8 * g) + (ss g)))), (0, .ref (a 0)), (1, .int (nI g)), (2, .int k), (3, .int x), (4, .int y)]) X dX10_joins_11 (by decide) rfl ?_
  refine g_aload_n X 1 dX10_joins_13 rfl ?_
  refine g_getf (v := .ref (a 7)) X fs_X10_32 0 rfl rfl dX10_joins_14 ?_
  refine g_iload X 0 dX10_joins_17 rfl ?_
  refine g_iload_n X 3 dX10_joins_19 rfl ?_
  refine g_iast (ws' := [wMd E a s, wAn E (a 3) 2 ss, wAr E (a 7) 16 (upd fr ((8 * g) + (ss g)) k), wAr E (a 8) 16 tt, wAr E (a 9) 16 nm].flatten) X 2 rfl ((8 * g) + (ss g)) (ix_nI (by omega) (by decide)) rfl dX10_joins_20 ?_
  refine g_aload_n X 1 dX10_joins_21 rfl ?_
  refine g_getf (v := .ref (a 8)) X fs_X10_35 0 rfl rfl dX10_joins_22 ?_
  refine g_iload X 0 dX10_joins_25 rfl ?_
  refine g_iload_n X 4 dX10_joins_27 rfl ?_
  refine g_iast (ws' := [wMd E a s, wAn E (a 3) 2 ss, wAr E (a 7) 16 (upd fr ((8 * g) + (ss g)) k), wAr E (a 8) 16 (upd tt ((8 * g) + (ss g)) x), wAr E (a 9) 16 nm].flatten) X 3 rfl ((8 * g) + (ss g)) (ix_nI (by omega) (by decide)) rfl dX10_joins_28 ?_
  refine g_aload_n X 1 dX10_joins_29 rfl ?_
  refine g_getf (v := .ref (a 9)) X fs_X10_38 0 rfl rfl dX10_joins_30 ?_
  refine g_iload X 0 dX10_joins_33 rfl ?_
  refine g_iload X 5 dX10_joins_35 rfl ?_
  refine g_iast (ws' := [wMd E a s, wAn E (a 3) 2 ss, wAr E (a 7) 16 (upd fr ((8 * g) + (ss g)) k), wAr E (a 8) 16 (upd tt ((8 * g) + (ss g)) x), wAr E (a 9) 16 (upd nm ((8 * g) + (ss g)) y)].flatten) X 4 rfl ((8 * g) + (ss g)) (ix_nI (by omega) (by decide)) rfl dX10_joins_37 ?_
  refine g_aload_n X 1 dX10_joins_38 rfl ?_
  refine g_getf (v := .ref (a 3)) X fs_X10_20 0 rfl rfl dX10_joins_39 ?_
  refine g_iload_n X 2 dX10_joins_42 rfl ?_
  refine g_dup2 X dX10_joins_43 rfl rfl ?_
  refine g_anld (f := ss) X 1 rfl g (ix_nI (by omega) (by decide)) dX10_joins_44 ?_
  refine g_iconst (v := (nI 1)) X dX10_joins_45 rfl ?_
  refine g_iaddN X dX10_joins_46 ?_
  refine g_anst (S' := [wMd E a s, wAn E (a 3) 2 (upN ss g ((ss g) + 1)), wAr E (a 7) 16 (upd fr ((8 * g) + (ss g)) k), wAr E (a 8) 16 (upd tt ((8 * g) + (ss g)) x), wAr E (a 9) 16 (upd nm ((8 * g) + (ss g)) y)]) X 1 rfl g (ix_nI (by omega) (by decide)) rfl dX10_joins_47 ?_
  exact g_vret X hx rfl rfl (by rfl) dX10_joins_48
