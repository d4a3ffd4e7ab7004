set_option maxHeartbeats 4000000 in
set_option maxRecDepth 100000 in
theorem c_L_alike (E : GE) (O : Nat → Nat → Nat) (v : TV) (w : (Nat → Int32) × Nat) (f : Nat → Int32) (oa : PO) (ok : PO) (ad : Nat) (d : Nat → Int32) (ae : Nat) (e : Nat → Int32) (hd : DE v d e) : CT E m_L_alike [.ref (O 0 0), .ref ad, .ref ae] ([wTS E O, wTw E (O 3 0) (O 4) (O 5) (tR v) (tN v), wSv E (O 4) (tA v), wSv E (O 5) (tB v), wTx E (O 1) w, wSh E (O 11) f, wPo E (O 9) (O 17) 8 oa, wPo E (O 10) (O 18) 2 ok, wAr E ad 48 d, wAr E ae 54 e].flatten) (some (.int (b2i true))) ([wTS E O, wTw E (O 3 0) (O 4) (O 5) (tR v) (tN v), wSv E (O 4) (tA v), wSv E (O 5) (tB v), wTx E (O 1) w, wSh E (O 11) f, wPo E (O 9) (O 17) 8 oa, wPo E (O 10) (O 18) 2 ok, wAr E ad 48 d, wAr E ae 54 e].flatten) := by
  refine CT.intro (by decide +kernel) (Nat.le_of_ble_eq_true rfl) (fun Γ X hx => ?_)
  refine GG.lv [0, 1, 2] (lv' := [(0, .ref (O 0 0)), (1, .ref ad), (2, .ref ae)]) rfl ?_
  have hv : okT v := hd.ok
  refine g_aload_n X 0 dL_alike_0 rfl ?_
  refine g_iconst (v := (nI 4)) X dL_alike_1 rfl ?_
  refine g_callVr (st2 := [.int (coV v oa ok w f (nI 4))]) (q0 := 0) X (c_X9_count E O v w f oa ok (nI 4)) cs_L_47 rfl [0, 1, 2, 3, 4, 5, 6, 7] [8, 9] 10 rfl (by decide) rfl rfl rfl rfl rfl (Nat.le_of_ble_eq_true rfl) dL_alike_2 rfl ?_
  refine g_aload_n X 2 dL_alike_5 rfl ?_
  refine g_bipush (v := (nI 52)) X dL_alike_6 rfl ?_
  refine g_iald X 25 rfl 52 (ix_nI (by omega) (by decide)) dL_alike_8 ?_
  refine g_icmp_ne (tgt := 28) X dL_alike_9 (by decide) (fun c_9 => absurd (al_c4 hd oa ok w f) c_9) (fun c_9 => ?_)
  refine g_aload_n X 0 dL_alike_12 rfl ?_
  refine g_iconst (v := (nI 5)) X dL_alike_13 rfl ?_
  refine g_callVr (st2 := [.int (coV v oa ok w f (nI 5))]) (q0 := 0) X (c_X9_count E O v w f oa ok (nI 5)) cs_L_47 rfl [0, 1, 2, 3, 4, 5, 6, 7] [8, 9] 10 rfl (by decide) rfl rfl rfl rfl rfl (Nat.le_of_ble_eq_true rfl) dL_alike_14 rfl ?_
  refine g_aload_n X 2 dL_alike_17 rfl ?_
  refine g_bipush (v := (nI 53)) X dL_alike_18 rfl ?_
  refine g_iald X 25 rfl 53 (ix_nI (by omega) (by decide)) dL_alike_20 ?_
  refine g_icmp_ne (tgt := 28) X dL_alike_21 (by decide) (fun c_21 => absurd (al_c5 hd oa ok w f) c_21) (fun c_21 => ?_)
  refine g_iconst (v := (nI 1)) X dL_alike_24 rfl ?_
  refine g_goto (tgt := 29) X dL_alike_25 (by decide) ?_
  refine g_istore_n (lv' := [(3, .int (nI 1)), (0, .ref (O 0 0)), (1, .ref ad), (2, .ref ae)]) X dL_alike_29 (by decide) rfl ?_
  refine g_iconst (v := (nI 0)) X dL_alike_30 rfl ?_
  refine g_istore (lv' := [(4, .int (nI 0)), (3, .int (nI 1)), (0, .ref (O 0 0)), (1, .ref ad), (2, .ref ae)]) X dL_alike_31 (by decide) rfl ?_
  have L_33 : ∀ (n_33 : Nat) (g : Nat) (hg : g ≤ 2) (hm_33 : 2 - g < n_33) (x_4 : Int32) (ex_4 : x_4 = (nI g)), GG E m_L_alike Γ 0 0 ([wTS E O, wTw E (O 3 0) (O 4) (O 5) (tR v) (tN v), wSv E (O 4) (tA v), wSv E (O 5) (tB v), wTx E (O 1) w, wSh E (O 11) f, wPo E (O 9) (O 17) 8 oa, wPo E (O 10) (O 18) 2 ok, wAr E ad 48 d, wAr E ae 54 e].flatten) [(0, .ref (O 0 0)), (1, .ref ad), (2, .ref ae), (3, .int (nI 1)), (4, .int x_4)] 33 [] := by
    intro n_33
    induction n_33 with
    | zero => intro g hg hm_33; exact absurd hm_33 (Nat.not_lt_zero _)
    | succ n_33 ih_33 =>
      intro g hg hm_33 x_4 ex_4
      subst ex_4
      have hm8 := hv.mm g
      have hs8 := hv.ss g
      refine g_iload X 4 dL_alike_33 rfl ?_
      refine g_iconst (v := (nI 2)) X dL_alike_35 rfl ?_
      refine g_icmp_ge (tgt := 239) X dL_alike_36 (by decide) (fun c_36 => ?_) (fun c_36 => ?_)
      · have f_c_36 : 2 ≤ g := n_le (by omega) (by omega) c_36
        have fn_c_36 := Nat.not_lt.mpr f_c_36
        refine g_iload_n X 3 dL_alike_239 rfl ?_
        exact g_zretv (r := (nI 1)) X hx rfl (by rfl) (by rfl) dL_alike_240
      · have f_c_36 : g < 2 := n_nle (by omega) (by omega) c_36
        have fn_c_36 := Nat.not_le.mpr f_c_36
        refine g_iload_n X 3 dL_alike_39 rfl ?_
        refine g_if_eq (tgt := 81) X dL_alike_40 (by decide) (fun c_40 => absurd c_40 (by decide)) (fun c_40 => ?_)
        refine g_aload_n X 0 dL_alike_43 rfl ?_
        refine g_iload X 4 dL_alike_44 rfl ?_
        refine g_callVr (st2 := [.int (coV v oa ok w f (nI g))]) (q0 := 0) X (c_X9_count E O v w f oa ok (nI g)) cs_L_47 rfl [0, 1, 2, 3, 4, 5, 6, 7] [8, 9] 10 rfl (by decide) rfl rfl rfl rfl rfl (Nat.le_of_ble_eq_true rfl) dL_alike_46 rfl ?_
        refine g_aload_n X 2 dL_alike_49 rfl ?_
        refine g_bipush (v := (nI 48)) X dL_alike_50 rfl ?_
        refine g_iload X 4 dL_alike_52 rfl ?_
        refine g_iaddN X dL_alike_54 ?_
        refine g_iald X 25 rfl (48 + g) (ix_nI (by omega) (by decide)) dL_alike_55 ?_
        refine g_icmp_ne (tgt := 81) X dL_alike_56 (by decide) (fun c_56 => absurd (al_cm hd oa ok w f (by omega)) c_56) (fun c_56 => ?_)
        refine g_aload_n X 0 dL_alike_59 rfl ?_
        refine g_iconst (v := (nI 2)) X dL_alike_60 rfl ?_
        refine g_iload X 4 dL_alike_61 rfl ?_
        refine g_iaddN X dL_alike_63 ?_
        refine g_callVr (st2 := [.int (coV v oa ok w f (nI (2 + g)))]) (q0 := 0) X (c_X9_count E O v w f oa ok (nI (2 + g))) cs_L_47 rfl [0, 1, 2, 3, 4, 5, 6, 7] [8, 9] 10 rfl (by decide) rfl rfl rfl rfl rfl (Nat.le_of_ble_eq_true rfl) dL_alike_64 rfl ?_
        refine g_aload_n X 2 dL_alike_67 rfl ?_
        refine g_bipush (v := (nI 50)) X dL_alike_68 rfl ?_
        refine g_iload X 4 dL_alike_70 rfl ?_
        refine g_iaddN X dL_alike_72 ?_
        refine g_iald X 25 rfl (50 + g) (ix_nI (by omega) (by decide)) dL_alike_73 ?_
        refine g_icmp_ne (tgt := 81) X dL_alike_74 (by decide) (fun c_74 => absurd (al_cs hd oa ok w f (by omega)) c_74) (fun c_74 => ?_)
        refine g_iconst (v := (nI 1)) X dL_alike_77 rfl ?_
        refine g_goto (tgt := 82) X dL_alike_78 (by decide) ?_
        refine g_istore_n (lv' := [(3, .int (nI 1)), (0, .ref (O 0 0)), (1, .ref ad), (2, .ref ae), (4, .int (nI g))]) X dL_alike_82 (by decide) rfl ?_
        refine g_iconst (v := (nI 0)) X dL_alike_83 rfl ?_
        refine g_istore (lv' := [(5, .int (nI 0)), (3, .int (nI 1)), (0, .ref (O 0 0)), (1, .ref ad), (2, .ref ae), (4, .int (nI g))]) X dL_alike_84 (by decide) rfl ?_
        have L_86 : ∀ (n_86 : Nat) (i : Nat) (hi : i ≤ mmV v g) (hm_86 : mmV v g - i < n_86) (x_5 : Int32) (ex_5 : x_5 = (nI i)), GG E m_L_alike Γ 0 0 ([wTS E O, wTw E (O 3 0) (O 4) (O 5) (tR v) (tN v), wSv E (O 4) (tA v), wSv E (O 5) (tB v), wTx E (O 1) w, wSh E (O 11) f, wPo E (O 9) (O 17) 8 oa, wPo E (O 10) (O 18) 2 ok, wAr E ad 48 d, wAr E ae 54 e].flatten) [(0, .ref (O 0 0)), (1, .ref ad), (2, .ref ae), (3, .int (nI 1)), (4, .int (nI g)), (5, .int x_5)] 86 [] := by
          intro n_86
          induction n_86 with
          | zero => intro i hi hm_86; exact absurd hm_86 (Nat.not_lt_zero _)
          | succ n_86 ih_86 =>
            intro i hi hm_86 x_5 ex_5
            subst ex_5
            refine g_iload X 5 dL_alike_86 rfl ?_
            refine g_aload_n X 2 dL_alike_88 rfl ?_
            refine g_bipush (v := (nI 48)) X dL_alike_89 rfl ?_
            refine g_iload X 4 dL_alike_91 rfl ?_
            refine g_iaddN X dL_alike_93 ?_
            refine g_iald X 25 rfl (48 + g) (ix_nI (by omega) (by decide)) dL_alike_94 ?_
            rw [(hd.2.1 g (by omega)).1]
            refine g_icmp_ge (tgt := 158) X dL_alike_95 (by decide) (fun c_95 => ?_) (fun c_95 => ?_)
            · have f_c_95 : mmV v g ≤ i := n_le (by omega) (by omega) c_95
              have fn_c_95 := Nat.not_lt.mpr f_c_95
              refine g_iconst (v := (nI 0)) X dL_alike_158 rfl ?_
              refine g_istore (lv' := [(5, .int (nI 0)), (0, .ref (O 0 0)), (1, .ref ad), (2, .ref ae), (3, .int (nI 1)), (4, .int (nI g))]) X dL_alike_159 (by decide) rfl ?_
              have L_161 : ∀ (n_161 : Nat) (i : Nat) (hi : i ≤ ssV v g) (hm_161 : ssV v g - i < n_161) (x_5 : Int32) (ex_5 : x_5 = (nI i)), GG E m_L_alike Γ 0 0 ([wTS E O, wTw E (O 3 0) (O 4) (O 5) (tR v) (tN v), wSv E (O 4) (tA v), wSv E (O 5) (tB v), wTx E (O 1) w, wSh E (O 11) f, wPo E (O 9) (O 17) 8 oa, wPo E (O 10) (O 18) 2 ok, wAr E ad 48 d, wAr E ae 54 e].flatten) [(0, .ref (O 0 0)), (1, .ref ad), (2, .ref ae), (3, .int (nI 1)), (4, .int (nI g)), (5, .int x_5)] 161 [] := by
                intro n_161
                induction n_161 with
                | zero => intro i hi hm_161; exact absurd hm_161 (Nat.not_lt_zero _)
                | succ n_161 ih_161 =>
                  intro i hi hm_161 x_5 ex_5
                  subst ex_5
                  refine g_iload X 5 dL_alike_161 rfl ?_
                  refine g_aload_n X 2 dL_alike_163 rfl ?_
                  refine g_bipush (v := (nI 50)) X dL_alike_164 rfl ?_
                  refine g_iload X 4 dL_alike_166 rfl ?_
                  refine g_iaddN X dL_alike_168 ?_
                  refine g_iald X 25 rfl (50 + g) (ix_nI (by omega) (by decide)) dL_alike_169 ?_
                  rw [(hd.2.1 g (by omega)).2]
                  refine g_icmp_ge (tgt := 233) X dL_alike_170 (by decide) (fun c_170 => ?_) (fun c_170 => ?_)
                  · have f_c_170 : ssV v g ≤ i := n_le (by omega) (by omega) c_170
                    have fn_c_170 := Nat.not_lt.mpr f_c_170
                    refine g_iincN (lv' := [(4, .int (nI (g + 1))), (0, .ref (O 0 0)), (1, .ref ad), (2, .ref ae), (3, .int (nI 1)), (5, .int (nI i))]) X 4 dL_alike_233 rfl (by decide) rfl ?_
                    refine g_goto (tgt := 33) X dL_alike_236 (by decide) ?_
                    refine GG.lv [1, 2, 3, 4, 0] rfl ?_
                    exact ih_33 (g + 1) (by omega) (by omega) (nI (g + 1)) (by rfl)
                  · have f_c_170 : i < ssV v g := n_nle (by omega) (by omega) c_170
                    have fn_c_170 := Nat.not_le.mpr f_c_170
                    refine g_iconst (v := (nI 0)) X dL_alike_173 rfl ?_
                    refine g_istore (lv' := [(6, .int (nI 0)), (0, .ref (O 0 0)), (1, .ref ad), (2, .ref ae), (3, .int (nI 1)), (4, .int (nI g)), (5, .int (nI i))]) X dL_alike_174 (by decide) rfl ?_
                    have L_176 : ∀ (n_176 : Nat) (q : Nat) (hq : q ≤ 3) (hm_176 : 3 - q < n_176) (x_6 : Int32) (ex_6 : x_6 = (nI q)), GG E m_L_alike Γ 0 0 ([wTS E O, wTw E (O 3 0) (O 4) (O 5) (tR v) (tN v), wSv E (O 4) (tA v), wSv E (O 5) (tB v), wTx E (O 1) w, wSh E (O 11) f, wPo E (O 9) (O 17) 8 oa, wPo E (O 10) (O 18) 2 ok, wAr E ad 48 d, wAr E ae 54 e].flatten) [(0, .ref (O 0 0)), (1, .ref ad), (2, .ref ae), (3, .int (nI 1)), (4, .int (nI g)), (5, .int (nI i)), (6, .int x_6)] 176 [] := by
                      intro n_176
                      induction n_176 with
                      | zero => intro q hq hm_176; exact absurd hm_176 (Nat.not_lt_zero _)
                      | succ n_176 ih_176 =>
                        intro q hq hm_176 x_6 ex_6
                        subst ex_6
                        refine g_iload X 6 dL_alike_176 rfl ?_
                        refine g_iconst (v := (nI 3)) X dL_alike_178 rfl ?_
                        refine g_icmp_ge (tgt := 227) X dL_alike_179 (by decide) (fun c_179 => ?_) (fun c_179 => ?_)
                        · have f_c_179 : 3 ≤ q := n_le (by omega) (by omega) c_179
                          have fn_c_179 := Nat.not_lt.mpr f_c_179
                          refine g_iincN (lv' := [(5, .int (nI (i + 1))), (0, .ref (O 0 0)), (1, .ref ad), (2, .ref ae), (3, .int (nI 1)), (4, .int (nI g)), (6, .int (nI q))]) X 5 dL_alike_227 rfl (by decide) rfl ?_
                          refine g_goto (tgt := 161) X dL_alike_230 (by decide) ?_
                          refine GG.lv [1, 2, 3, 4, 5, 0] rfl ?_
                          exact ih_161 (i + 1) (by omega) (by omega) (nI (i + 1)) (by rfl)
                        · have f_c_179 : q < 3 := n_nle (by omega) (by omega) c_179
                          have fn_c_179 := Nat.not_le.mpr f_c_179
                          refine g_iload_n X 3 dL_alike_182 rfl ?_
                          refine g_if_eq (tgt := 219) X dL_alike_183 (by decide) (fun c_183 => absurd c_183 (by decide)) (fun c_183 => ?_)
                          refine g_aload_n X 0 dL_alike_186 rfl ?_
                          refine g_iload X 4 dL_alike_187 rfl ?_
                          refine g_iload X 5 dL_alike_189 rfl ?_
                          refine g_iload X 6 dL_alike_191 rfl ?_
                          refine g_callVr (st2 := [.int (strtV v (nI g) (nI i) (nI q))]) (q0 := 0) X (c_X9_street E O v (nI g) (nI i) (nI q) (by first | assumption | omega | exact Nat.zero_le _)) cs_L_54 rfl [0, 1, 2, 3] [4, 5, 6, 7, 8, 9] 10 rfl (by decide) rfl rfl rfl rfl rfl (Nat.le_of_ble_eq_true rfl) dL_alike_193 rfl ?_
                          refine g_aload_n X 2 dL_alike_196 rfl ?_
                          refine g_bipush (v := (nI 16)) X dL_alike_197 rfl ?_
                          refine g_iload X 6 dL_alike_199 rfl ?_
                          refine g_imulN X dL_alike_201 ?_
                          refine g_bipush (v := (nI 8)) X dL_alike_202 rfl ?_
                          refine g_iload X 4 dL_alike_204 rfl ?_
                          refine g_imulN X dL_alike_206 ?_
                          refine g_iaddN X dL_alike_207 ?_
                          refine g_iload X 5 dL_alike_208 rfl ?_
                          refine g_iaddN X dL_alike_210 ?_
                          refine g_iald X 25 rfl (((16 * q) + (8 * g)) + i) (ix_nI (by omega) (by decide)) dL_alike_211 ?_
                          refine g_icmp_ne (tgt := 219) X dL_alike_212 (by decide) (fun c_212 => absurd (al_st hd (by omega) (by omega) (by omega)) c_212) (fun c_212 => ?_)
                          refine g_iconst (v := (nI 1)) X dL_alike_215 rfl ?_
                          refine g_goto (tgt := 220) X dL_alike_216 (by decide) ?_
                          refine g_istore_n (lv' := [(3, .int (nI 1)), (0, .ref (O 0 0)), (1, .ref ad), (2, .ref ae), (4, .int (nI g)), (5, .int (nI i)), (6, .int (nI q))]) X dL_alike_220 (by decide) rfl ?_
                          refine g_iincN (lv' := [(6, .int (nI (q + 1))), (3, .int (nI 1)), (0, .ref (O 0 0)), (1, .ref ad), (2, .ref ae), (4, .int (nI g)), (5, .int (nI i))]) X 6 dL_alike_221 rfl (by decide) rfl ?_
                          refine g_goto (tgt := 176) X dL_alike_224 (by decide) ?_
                          refine GG.lv [2, 3, 4, 1, 5, 6, 0] rfl ?_
                          exact ih_176 (q + 1) (by omega) (by omega) (nI (q + 1)) (by rfl)
                    refine GG.lv [1, 2, 3, 4, 5, 6, 0] rfl ?_
                    exact L_176 (4) 0 (by omega) (by omega) (nI 0) (by rfl)
              refine GG.lv [1, 2, 3, 4, 5, 0] rfl ?_
              exact L_161 (ssV v g + 1) 0 (by omega) (by omega) (nI 0) (by rfl)
            · have f_c_95 : i < mmV v g := n_nle (by omega) (by omega) c_95
              have fn_c_95 := Nat.not_le.mpr f_c_95
              refine g_iconst (v := (nI 0)) X dL_alike_98 rfl ?_
              refine g_istore (lv' := [(6, .int (nI 0)), (0, .ref (O 0 0)), (1, .ref ad), (2, .ref ae), (3, .int (nI 1)), (4, .int (nI g)), (5, .int (nI i))]) X dL_alike_99 (by decide) rfl ?_
              have L_101 : ∀ (n_101 : Nat) (q : Nat) (hq : q ≤ 3) (hm_101 : 3 - q < n_101) (x_6 : Int32) (ex_6 : x_6 = (nI q)), GG E m_L_alike Γ 0 0 ([wTS E O, wTw E (O 3 0) (O 4) (O 5) (tR v) (tN v), wSv E (O 4) (tA v), wSv E (O 5) (tB v), wTx E (O 1) w, wSh E (O 11) f, wPo E (O 9) (O 17) 8 oa, wPo E (O 10) (O 18) 2 ok, wAr E ad 48 d, wAr E ae 54 e].flatten) [(0, .ref (O 0 0)), (1, .ref ad), (2, .ref ae), (3, .int (nI 1)), (4, .int (nI g)), (5, .int (nI i)), (6, .int x_6)] 101 [] := by
                intro n_101
                induction n_101 with
                | zero => intro q hq hm_101; exact absurd hm_101 (Nat.not_lt_zero _)
                | succ n_101 ih_101 =>
                  intro q hq hm_101 x_6 ex_6
                  subst ex_6
                  refine g_iload X 6 dL_alike_101 rfl ?_
                  refine g_iconst (v := (nI 3)) X dL_alike_103 rfl ?_
                  refine g_icmp_ge (tgt := 152) X dL_alike_104 (by decide) (fun c_104 => ?_) (fun c_104 => ?_)
                  · have f_c_104 : 3 ≤ q := n_le (by omega) (by omega) c_104
                    have fn_c_104 := Nat.not_lt.mpr f_c_104
                    refine g_iincN (lv' := [(5, .int (nI (i + 1))), (0, .ref (O 0 0)), (1, .ref ad), (2, .ref ae), (3, .int (nI 1)), (4, .int (nI g)), (6, .int (nI q))]) X 5 dL_alike_152 rfl (by decide) rfl ?_
                    refine g_goto (tgt := 86) X dL_alike_155 (by decide) ?_
                    refine GG.lv [1, 2, 3, 4, 5, 0] rfl ?_
                    exact ih_86 (i + 1) (by omega) (by omega) (nI (i + 1)) (by rfl)
                  · have f_c_104 : q < 3 := n_nle (by omega) (by omega) c_104
                    have fn_c_104 := Nat.not_le.mpr f_c_104
                    refine g_iload_n X 3 dL_alike_107 rfl ?_
                    refine g_if_eq (tgt := 144) X dL_alike_108 (by decide) (fun c_108 => absurd c_108 (by decide)) (fun c_108 => ?_)
                    refine g_aload_n X 0 dL_alike_111 rfl ?_
                    refine g_iload X 4 dL_alike_112 rfl ?_
                    refine g_iload X 5 dL_alike_114 rfl ?_
                    refine g_iload X 6 dL_alike_116 rfl ?_
                    refine g_callVr (st2 := [.int (meetV v (nI g) (nI i) (nI q))]) (q0 := 0) X (c_X9_meeting E O v (nI g) (nI i) (nI q) (by first | assumption | omega | exact Nat.zero_le _)) cs_L_50 rfl [0, 1, 2, 3] [4, 5, 6, 7, 8, 9] 10 rfl (by decide) rfl rfl rfl rfl rfl (Nat.le_of_ble_eq_true rfl) dL_alike_118 rfl ?_
                    refine g_aload_n X 1 dL_alike_121 rfl ?_
                    refine g_bipush (v := (nI 16)) X dL_alike_122 rfl ?_
                    refine g_iload X 6 dL_alike_124 rfl ?_
                    refine g_imulN X dL_alike_126 ?_
                    refine g_bipush (v := (nI 8)) X dL_alike_127 rfl ?_
                    refine g_iload X 4 dL_alike_129 rfl ?_
                    refine g_imulN X dL_alike_131 ?_
                    refine g_iaddN X dL_alike_132 ?_
                    refine g_iload X 5 dL_alike_133 rfl ?_
                    refine g_iaddN X dL_alike_135 ?_
                    refine g_iald X 24 rfl (((16 * q) + (8 * g)) + i) (ix_nI (by omega) (by decide)) dL_alike_136 ?_
                    refine g_icmp_ne (tgt := 144) X dL_alike_137 (by decide) (fun c_137 => absurd (al_mt hd (by omega) (by omega) (by omega)) c_137) (fun c_137 => ?_)
                    refine g_iconst (v := (nI 1)) X dL_alike_140 rfl ?_
                    refine g_goto (tgt := 145) X dL_alike_141 (by decide) ?_
                    refine g_istore_n (lv' := [(3, .int (nI 1)), (0, .ref (O 0 0)), (1, .ref ad), (2, .ref ae), (4, .int (nI g)), (5, .int (nI i)), (6, .int (nI q))]) X dL_alike_145 (by decide) rfl ?_
                    refine g_iincN (lv' := [(6, .int (nI (q + 1))), (3, .int (nI 1)), (0, .ref (O 0 0)), (1, .ref ad), (2, .ref ae), (4, .int (nI g)), (5, .int (nI i))]) X 6 dL_alike_146 rfl (by decide) rfl ?_
                    refine g_goto (tgt := 101) X dL_alike_149 (by decide) ?_
                    refine GG.lv [2, 3, 4, 1, 5, 6, 0] rfl ?_
                    exact ih_101 (q + 1) (by omega) (by omega) (nI (q + 1)) (by rfl)
              refine GG.lv [1, 2, 3, 4, 5, 6, 0] rfl ?_
              exact L_101 (4) 0 (by omega) (by omega) (nI 0) (by rfl)
        refine GG.lv [2, 3, 4, 1, 5, 0] rfl ?_
        exact L_86 (mmV v g + 1) 0 (by omega) (by omega) (nI 0) (by rfl)
  refine GG.lv [2, 3, 4, 1, 0] rfl ?_
  exact L_33 (3) 0 (by omega) (by omega) (nI 0) (by rfl)
