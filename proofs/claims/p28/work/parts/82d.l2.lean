theorem cuE_far (e : Nat → Int32) {lo hi q : Nat} (h1 : hi ≤ 15) (h2 : 48 ≤ q) : cuE e lo hi q = e q := if_neg (by omega)
set_option maxHeartbeats 4000000 in
set_option maxRecDepth 100000 in
theorem c_L_acts (E : GE) (v : TV) (ad : Nat) (d : Nat → Int32) (ae : Nat) (e : Nat → Int32) (x : Int32) (hd : DE v d e) : CT E m_L_acts [.ref ad, .ref ae, .int x] ([wAr E ad 48 d, wAr E ae 54 e].flatten) (some (.int (aV v d e (lwN x 8) (lwN (x >>> (nI 3 &&& 31)) 2) (lwN (x >>> (nI 4 &&& 31)) 9) (lwN (x >>> (nI 8 &&& 31)) 9) (lwN (x >>> (nI 12 &&& 31)) 11) (lwN (x >>> (nI 8 &&& 31)) 64) (lwN (x >>> (nI 14 &&& 31)) 64) (lwN (x >>> (nI 8 &&& 31)) 5) (lwN (x >>> (nI 8 &&& 31)) 22)))) ([wAr E ad 48 (aD v d (lwN x 8) (lwN (x >>> (nI 3 &&& 31)) 2) (lwN (x >>> (nI 4 &&& 31)) 9) (lwN (x >>> (nI 8 &&& 31)) 64) (lwN (x >>> (nI 14 &&& 31)) 64) (lwN (x >>> (nI 8 &&& 31)) 5)), wAr E ae 54 (aE v e (lwN x 8) (lwN (x >>> (nI 3 &&& 31)) 2) (lwN (x >>> (nI 4 &&& 31)) 9) (lwN (x >>> (nI 8 &&& 31)) 9) (lwN (x >>> (nI 12 &&& 31)) 11) (lwN (x >>> (nI 8 &&& 31)) 5) (lwN (x >>> (nI 8 &&& 31)) 22))].flatten) := by
  refine CT.intro (by decide +kernel) (Nat.le_of_ble_eq_true rfl) (fun Γ X hx => ?_)
  refine GG.lv [0, 1, 2] (lv' := [(0, .ref ad), (1, .ref ae), (2, .int x)]) rfl ?_
  have l8 : lwN x 8 < 8 := lwN_lt _ (by decide)
  have l2 : lwN (x >>> (nI 3 &&& 31)) 2 < 2 := lwN_lt _ (by decide)
  have l9 : lwN (x >>> (nI 4 &&& 31)) 9 < 9 := lwN_lt _ (by decide)
  have m9 : lwN (x >>> (nI 8 &&& 31)) 9 < 9 := lwN_lt _ (by decide)
  have l11 : lwN (x >>> (nI 12 &&& 31)) 11 < 11 := lwN_lt _ (by decide)
  have l64 : lwN (x >>> (nI 8 &&& 31)) 64 < 64 := lwN_lt _ (by decide)
  have m64 : lwN (x >>> (nI 14 &&& 31)) 64 < 64 := lwN_lt _ (by decide)
  have l5 : lwN (x >>> (nI 8 &&& 31)) 5 < 5 := lwN_lt _ (by decide)
  have l22 : lwN (x >>> (nI 8 &&& 31)) 22 < 22 := lwN_lt _ (by decide)
  have hm8 := hd.ok.mm (lwN (x >>> (nI 3 &&& 31)) 2)
  have hs8 := hd.ok.ss (lwN (x >>> (nI 3 &&& 31)) 2)
  refine g_iload_n X 2 dL_acts_0 rfl ?_
  refine g_bipush (v := (nI 8)) X dL_acts_1 rfl ?_
  refine g_callSP (st2 := [.int (nI (lwN x 8))]) (ws' := [wAr E ad 48 d, wAr E ae 54 e].flatten) (wr := [wAr E ad 48 d, wAr E ae 54 e].flatten) X (c_L_low E x 8 (by decide) (by decide)) cs_L_25 rfl (List.Perm.refl _) rfl (List.Perm.refl _) rfl rfl (Nat.le_of_ble_eq_true rfl) dL_acts_3 rfl ?_
  refine g_istore_n (lv' := [(3, .int (nI (lwN x 8))), (0, .ref ad), (1, .ref ae), (2, .int x)]) X dL_acts_6 (by decide) rfl ?_
  refine g_iload_n X 3 dL_acts_7 rfl ?_
  refine g_iconst (v := (nI 3)) X dL_acts_8 rfl ?_
  refine g_ishr X dL_acts_9 ?_
  refine g_iconst (v := (nI 2)) X dL_acts_10 rfl ?_
  refine g_callSP (st2 := [.int (nI (lwN (x >>> ((nI 3) &&& 31)) 2))]) (ws' := [wAr E ad 48 d, wAr E ae 54 e].flatten) (wr := [wAr E ad 48 d, wAr E ae 54 e].flatten) X (c_L_low E (x >>> ((nI 3) &&& 31)) 2 (by decide) (by decide)) cs_L_25 rfl (List.Perm.refl _) rfl (List.Perm.refl _) rfl rfl (Nat.le_of_ble_eq_true rfl) dL_acts_11 rfl ?_
  refine g_istore (lv' := [(4, .int (nI (lwN (x >>> ((nI 3) &&& 31)) 2))), (3, .int (nI (lwN x 8))), (0, .ref ad), (1, .ref ae), (2, .int x)]) X dL_acts_14 (by decide) rfl ?_
  refine g_iload_n X 4 dL_acts_16 rfl ?_
  refine g_iconst (v := (nI 4)) X dL_acts_17 rfl ?_
  refine g_ishr X dL_acts_18 ?_
  refine g_bipush (v := (nI 9)) X dL_acts_19 rfl ?_
  refine g_callSP (st2 := [.int (nI (lwN (x >>> ((nI 4) &&& 31)) 9))]) (ws' := [wAr E ad 48 d, wAr E ae 54 e].flatten) (wr := [wAr E ad 48 d, wAr E ae 54 e].flatten) X (c_L_low E (x >>> ((nI 4) &&& 31)) 9 (by decide) (by decide)) cs_L_25 rfl (List.Perm.refl _) rfl (List.Perm.refl _) rfl rfl (Nat.le_of_ble_eq_true rfl) dL_acts_21 rfl ?_
  refine g_istore (lv' := [(5, .int (nI (lwN (x >>> ((nI 4) &&& 31)) 9))), (4, .int (nI (lwN (x >>> ((nI 3) &&& 31)) 2))), (3, .int (nI (lwN x 8))), (0, .ref ad), (1, .ref ae), (2, .int x)]) X dL_acts_24 (by decide) rfl ?_
  refine g_iload_n X 5 dL_acts_26 rfl ?_
  refine g_bipush (v := (nI 8)) X dL_acts_27 rfl ?_
  refine g_ishr X dL_acts_29 ?_
  refine g_bipush (v := (nI 9)) X dL_acts_30 rfl ?_
  refine g_callSP (st2 := [.int (nI (lwN (x >>> ((nI 8) &&& 31)) 9))]) (ws' := [wAr E ad 48 d, wAr E ae 54 e].flatten) (wr := [wAr E ad 48 d, wAr E ae 54 e].flatten) X (c_L_low E (x >>> ((nI 8) &&& 31)) 9 (by decide) (by decide)) cs_L_25 rfl (List.Perm.refl _) rfl (List.Perm.refl _) rfl rfl (Nat.le_of_ble_eq_true rfl) dL_acts_32 rfl ?_
  refine g_istore (lv' := [(6, .int (nI (lwN (x >>> ((nI 8) &&& 31)) 9))), (5, .int (nI (lwN (x >>> ((nI 4) &&& 31)) 9))), (4, .int (nI (lwN (x >>> ((nI 3) &&& 31)) 2))), (3, .int (nI (lwN x 8))), (0, .ref ad), (1, .ref ae), (2, .int x)]) X dL_acts_35 (by decide) rfl ?_
  refine g_iload_n X 6 dL_acts_37 rfl ?_
  refine g_bipush (v := (nI 12)) X dL_acts_38 rfl ?_
  refine g_ishr X dL_acts_40 ?_
  refine g_bipush (v := (nI 11)) X dL_acts_41 rfl ?_
  refine g_callSP (st2 := [.int (nI (lwN (x >>> ((nI 12) &&& 31)) 11))]) (ws' := [wAr E ad 48 d, wAr E ae 54 e].flatten) (wr := [wAr E ad 48 d, wAr E ae 54 e].flatten) X (c_L_low E (x >>> ((nI 12) &&& 31)) 11 (by decide) (by decide)) cs_L_25 rfl (List.Perm.refl _) rfl (List.Perm.refl _) rfl rfl (Nat.le_of_ble_eq_true rfl) dL_acts_43 rfl ?_
  refine g_istore (lv' := [(7, .int (nI (lwN (x >>> ((nI 12) &&& 31)) 11))), (6, .int (nI (lwN (x >>> ((nI 8) &&& 31)) 9))), (5, .int (nI (lwN (x >>> ((nI 4) &&& 31)) 9))), (4, .int (nI (lwN (x >>> ((nI 3) &&& 31)) 2))), (3, .int (nI (lwN x 8))), (0, .ref ad), (1, .ref ae), (2, .int x)]) X dL_acts_46 (by decide) rfl ?_
  refine g_aload_n X 6 dL_acts_48 rfl ?_
  refine g_bipush (v := (nI 48)) X dL_acts_49 rfl ?_
  refine g_iload X 3 dL_acts_51 rfl ?_
  refine g_iaddN X dL_acts_53 ?_
  refine g_iald X 1 rfl (48 + (lwN (x >>> ((nI 3) &&& 31)) 2)) (ix_nI (by omega) (by decide)) dL_acts_54 ?_
  rw [(hd.2.1 _ l2).1]
  refine g_istore (lv' := [(8, .int (nI (mmV v (lwN (x >>> ((nI 3) &&& 31)) 2)))), (7, .int (nI (lwN (x >>> ((nI 12) &&& 31)) 11))), (6, .int (nI (lwN (x >>> ((nI 8) &&& 31)) 9))), (5, .int (nI (lwN (x >>> ((nI 4) &&& 31)) 9))), (4, .int (nI (lwN (x >>> ((nI 3) &&& 31)) 2))), (3, .int (nI (lwN x 8))), (0, .ref ad), (1, .ref ae), (2, .int x)]) X dL_acts_55 (by decide) rfl ?_
  refine g_bipush (v := (nI 8)) X dL_acts_57 rfl ?_
  refine g_iload X 4 dL_acts_59 rfl ?_
  refine g_imulN X dL_acts_61 ?_
  refine g_iload X 3 dL_acts_62 rfl ?_
  refine g_iaddN X dL_acts_64 ?_
  refine g_istore (lv' := [(9, .int (nI ((8 * (lwN (x >>> ((nI 3) &&& 31)) 2)) + (lwN (x >>> ((nI 4) &&& 31)) 9)))), (8, .int (nI (mmV v (lwN (x >>> ((nI 3) &&& 31)) 2)))), (7, .int (nI (lwN (x >>> ((nI 12) &&& 31)) 11))), (6, .int (nI (lwN (x >>> ((nI 8) &&& 31)) 9))), (5, .int (nI (lwN (x >>> ((nI 4) &&& 31)) 9))), (4, .int (nI (lwN (x >>> ((nI 3) &&& 31)) 2))), (3, .int (nI (lwN x 8))), (0, .ref ad), (1, .ref ae), (2, .int x)]) X dL_acts_65 (by decide) rfl ?_
  refine g_iload_n X 6 dL_acts_67 rfl ?_
  refine g_iconst (v := (nI 2)) X dL_acts_68 rfl ?_
  refine g_icmp_ge (tgt := 178) X dL_acts_69 (by decide) (fun c_69 => ?_) (fun c_69 => ?_)
  · have f_c_69 : 2 ≤ lwN x 8 := n_le (by omega) (by omega) c_69
    have fn_c_69 := Nat.not_lt.mpr f_c_69
    refine g_iload_n X 6 dL_acts_178 rfl ?_
    refine g_iconst (v := (nI 4)) X dL_acts_179 rfl ?_
    refine g_icmp_eq (tgt := 188) X dL_acts_180 (by decide) (fun c_180 => ?_) (fun c_180 => ?_)
    · have f_c_180 : lwN x 8 = 4 := n_eq (by omega) (by omega) c_180
      refine g_iload X 4 dL_acts_188 rfl ?_
      refine g_iload X 1 dL_acts_190 rfl ?_
      refine g_icmp_ge (tgt := 216) X dL_acts_192 (by decide) (fun c_192 => ?_) (fun c_192 => ?_)
      · have f_c_192 : mmV v (lwN (x >>> ((nI 3) &&& 31)) 2) ≤ lwN (x >>> ((nI 4) &&& 31)) 9 := n_le (by omega) (by omega) c_192
        have fn_c_192 := Nat.not_lt.mpr f_c_192
        refine g_iconst (v := (-1)) X dL_acts_216 rfl ?_
        exact g_iretv (r := (-1)) X hx rfl (by simp [aV, c_69, f_c_69, fn_c_69, c_180, f_c_180, c_192, f_c_192, fn_c_192]) (by simp [aD, aE, jnE, ctE, c_69, f_c_69, fn_c_69, c_180, f_c_180, c_192, f_c_192, fn_c_192]) dL_acts_217
      · have f_c_192 : lwN (x >>> ((nI 4) &&& 31)) 9 < mmV v (lwN (x >>> ((nI 3) &&& 31)) 2) := n_nle (by omega) (by omega) c_192
        have fn_c_192 := Nat.not_le.mpr f_c_192
        refine g_iload X 3 dL_acts_195 rfl ?_
        refine g_iload X 1 dL_acts_197 rfl ?_
        refine g_icmp_ge (tgt := 216) X dL_acts_199 (by decide) (fun c_199 => ?_) (fun c_199 => ?_)
        · have f_c_199 : mmV v (lwN (x >>> ((nI 3) &&& 31)) 2) ≤ lwN (x >>> ((nI 8) &&& 31)) 9 := n_le (by omega) (by omega) c_199
          have fn_c_199 := Nat.not_lt.mpr f_c_199
          refine g_iconst (v := (-1)) X dL_acts_216 rfl ?_
          exact g_iretv (r := (-1)) X hx rfl (by simp [aV, c_69, f_c_69, fn_c_69, c_180, f_c_180, c_192, f_c_192, fn_c_192, c_199, f_c_199, fn_c_199]) (by simp [aD, aE, jnE, ctE, c_69, f_c_69, fn_c_69, c_180, f_c_180, c_192, f_c_192, fn_c_192, c_199, f_c_199, fn_c_199]) dL_acts_217
        · have f_c_199 : lwN (x >>> ((nI 8) &&& 31)) 9 < mmV v (lwN (x >>> ((nI 3) &&& 31)) 2) := n_nle (by omega) (by omega) c_199
          have fn_c_199 := Nat.not_le.mpr f_c_199
          refine g_iload X 4 dL_acts_202 rfl ?_
          refine g_iload X 3 dL_acts_204 rfl ?_
          refine g_icmp_eq (tgt := 216) X dL_acts_206 (by decide) (fun c_206 => ?_) (fun c_206 => ?_)
          · have f_c_206 : lwN (x >>> ((nI 4) &&& 31)) 9 = lwN (x >>> ((nI 8) &&& 31)) 9 := n_eq (by omega) (by omega) c_206
            refine g_iconst (v := (-1)) X dL_acts_216 rfl ?_
            exact g_iretv (r := (-1)) X hx rfl (by simp [aV, c_69, f_c_69, fn_c_69, c_180, f_c_180, c_192, f_c_192, fn_c_192, c_199, f_c_199, fn_c_199, c_206, f_c_206]) (by simp [aD, aE, jnE, ctE, c_69, f_c_69, fn_c_69, c_180, f_c_180, c_192, f_c_192, fn_c_192, c_199, f_c_199, fn_c_199, c_206, f_c_206]) dL_acts_217
          · have f_c_206 : ¬ lwN (x >>> ((nI 4) &&& 31)) 9 = lwN (x >>> ((nI 8) &&& 31)) 9 := n_ne (by omega) (by omega) c_206
            refine g_iload X 2 dL_acts_209 rfl ?_
            refine g_bipush (v := (nI 9)) X dL_acts_211 rfl ?_
            refine g_icmp_le (tgt := 218) X dL_acts_213 (by decide) (fun c_213 => ?_) (fun c_213 => ?_)
            · have f_c_213 : lwN (x >>> ((nI 12) &&& 31)) 11 ≤ 9 := n_le (by omega) (by omega) c_213
              have fn_c_213 := Nat.not_lt.mpr f_c_213
              refine g_aload_n X 8 dL_acts_218 rfl ?_
              refine g_iload X 5 dL_acts_219 rfl ?_
              refine g_iload X 4 dL_acts_221 rfl ?_
              refine g_iload X 3 dL_acts_223 rfl ?_
              refine g_callSr (st2 := [.int (stL e (lwN (x >>> ((nI 3) &&& 31)) 2) (nI (lwN (x >>> ((nI 4) &&& 31)) 9)) (nI (lwN (x >>> ((nI 8) &&& 31)) 9)) (ssV v (lwN (x >>> ((nI 3) &&& 31)) 2)))]) X (c_L_street E ae e (lwN (x >>> ((nI 3) &&& 31)) 2) (ssV v (lwN (x >>> ((nI 3) &&& 31)) 2)) (nI (lwN (x >>> ((nI 4) &&& 31)) 9)) (nI (lwN (x >>> ((nI 8) &&& 31)) 9)) l2 hs8 (hd.2.1 _ l2).2) cs_L_37 rfl [1] [0] 2 rfl (by decide) rfl rfl rfl (Nat.le_of_ble_eq_true rfl) dL_acts_225 rfl ?_
              refine g_if_ge (tgt := 243) X dL_acts_228 (by decide) (fun c_228 => ?_) (fun c_228 => ?_)
              · have s_228 : ¬ stL e (lwN (x >>> ((nI 3) &&& 31)) 2) (nI (lwN (x >>> ((nI 4) &&& 31)) 9)) (nI (lwN (x >>> ((nI 8) &&& 31)) 9)) (ssV v (lwN (x >>> ((nI 3) &&& 31)) 2)) < 0 := by rw [i_lt, i_0]; rw [i_le, i_0] at c_228; omega
                refine g_aload_n X 8 dL_acts_243 rfl ?_
                refine g_bipush (v := (nI 50)) X dL_acts_244 rfl ?_
                refine g_iload X 5 dL_acts_246 rfl ?_
                refine g_iaddN X dL_acts_248 ?_
                refine g_iald X 1 rfl (50 + (lwN (x >>> ((nI 3) &&& 31)) 2)) (ix_nI (by omega) (by decide)) dL_acts_249 ?_
                rw [(hd.2.1 _ l2).2]
                refine g_bipush (v := (nI 8)) X dL_acts_250 rfl ?_
                refine g_icmp_ne (tgt := 273) X dL_acts_252 (by decide) (fun c_252 => ?_) (fun c_252 => ?_)
                · have f_c_252 : ¬ ssV v (lwN (x >>> ((nI 3) &&& 31)) 2) = 8 := n_ne (by omega) (by omega) c_252
                  refine g_bipush (v := (-2)) X dL_acts_273 rfl ?_
                  exact g_iretv (r := (-2)) X hx rfl (by simp [aV, c_69, f_c_69, fn_c_69, c_180, f_c_180, c_192, f_c_192, fn_c_192, c_199, f_c_199, fn_c_199, c_206, f_c_206, c_213, f_c_213, fn_c_213, c_228, s_228, f_c_252]) (by simp [aD, aE, jnE, ctE, c_69, f_c_69, fn_c_69, c_180, f_c_180, c_192, f_c_192, fn_c_192, c_199, f_c_199, fn_c_199, c_206, f_c_206, c_213, f_c_213, fn_c_213, c_228, s_228, f_c_252]) dL_acts_275
                · have f_c_252 : ssV v (lwN (x >>> ((nI 3) &&& 31)) 2) = 8 := n_eq (by omega) (by omega) c_252
                  refine g_aload_n X 8 dL_acts_255 rfl ?_
                  refine g_iload X 5 dL_acts_256 rfl ?_
                  refine g_iload X 4 dL_acts_258 rfl ?_
                  refine g_iload X 3 dL_acts_260 rfl ?_
                  refine g_callSr (st2 := [.int (stL e (lwN (x >>> ((nI 3) &&& 31)) 2) (nI (lwN (x >>> ((nI 4) &&& 31)) 9)) (nI (lwN (x >>> ((nI 8) &&& 31)) 9)) (ssV v (lwN (x >>> ((nI 3) &&& 31)) 2)))]) X (c_L_street E ae e (lwN (x >>> ((nI 3) &&& 31)) 2) (ssV v (lwN (x >>> ((nI 3) &&& 31)) 2)) (nI (lwN (x >>> ((nI 4) &&& 31)) 9)) (nI (lwN (x >>> ((nI 8) &&& 31)) 9)) l2 hs8 (hd.2.1 _ l2).2) cs_L_37 rfl [1] [0] 2 rfl (by decide) rfl rfl rfl (Nat.le_of_ble_eq_true rfl) dL_acts_262 rfl ?_
                  refine g_if_ge (tgt := 273) X dL_acts_265 (by decide) (fun c_265 => ?_) (fun c_265 => absurd c_228 c_265)
                  have s_265 : ¬ stL e (lwN (x >>> ((nI 3) &&& 31)) 2) (nI (lwN (x >>> ((nI 4) &&& 31)) 9)) (nI (lwN (x >>> ((nI 8) &&& 31)) 9)) (ssV v (lwN (x >>> ((nI 3) &&& 31)) 2)) < 0 := by rw [i_lt, i_0]; rw [i_le, i_0] at c_265; omega
                  refine g_bipush (v := (-2)) X dL_acts_273 rfl ?_
                  exact g_iretv (r := (-2)) X hx rfl (by simp [aV, c_69, f_c_69, fn_c_69, c_180, f_c_180, c_192, f_c_192, fn_c_192, c_199, f_c_199, fn_c_199, c_206, f_c_206, c_213, f_c_213, fn_c_213, c_228, s_228, eq_true f_c_252, c_265, s_265]) (by simp [aD, aE, jnE, ctE, c_69, f_c_69, fn_c_69, c_180, f_c_180, c_192, f_c_192, fn_c_192, c_199, f_c_199, fn_c_199, c_206, f_c_206, c_213, f_c_213, fn_c_213, c_228, s_228, eq_true f_c_252, c_265, s_265]) dL_acts_275
              · have s_228 : stL e (lwN (x >>> ((nI 3) &&& 31)) 2) (nI (lwN (x >>> ((nI 4) &&& 31)) 9)) (nI (lwN (x >>> ((nI 8) &&& 31)) 9)) (ssV v (lwN (x >>> ((nI 3) &&& 31)) 2)) < 0 := by rw [i_lt, i_0]; rw [i_le, i_0] at c_228; omega
                refine g_aload_n X 8 dL_acts_231 rfl ?_
                refine g_bipush (v := (nI 50)) X dL_acts_232 rfl ?_
                refine g_iload X 5 dL_acts_234 rfl ?_
                refine g_iaddN X dL_acts_236 ?_
                refine g_iald X 1 rfl (50 + (lwN (x >>> ((nI 3) &&& 31)) 2)) (ix_nI (by omega) (by decide)) dL_acts_237 ?_
                rw [(hd.2.1 _ l2).2]
                refine g_bipush (v := (nI 8)) X dL_acts_238 rfl ?_
                refine g_icmp_ne (tgt := 276) X dL_acts_240 (by decide) (fun c_240 => ?_) (fun c_240 => ?_)
                · have f_c_240 : ¬ ssV v (lwN (x >>> ((nI 3) &&& 31)) 2) = 8 := n_ne (by omega) (by omega) c_240
                  refine g_bipush (v := (nI 8)) X dL_acts_276 rfl ?_
                  refine g_iload X 5 dL_acts_278 rfl ?_
                  refine g_imulN X dL_acts_280 ?_
                  refine g_aload_n X 8 dL_acts_281 rfl ?_
                  refine g_bipush (v := (nI 50)) X dL_acts_282 rfl ?_
                  refine g_iload X 5 dL_acts_284 rfl ?_
                  refine g_iaddN X dL_acts_286 ?_
                  refine g_iald X 1 rfl (50 + (lwN (x >>> ((nI 3) &&& 31)) 2)) (ix_nI (by omega) (by decide)) dL_acts_287 ?_
                  rw [(hd.2.1 _ l2).2]
                  refine g_iaddN X dL_acts_288 ?_
                  refine g_istore (lv' := [(10, .int (nI ((8 * (lwN (x >>> ((nI 3) &&& 31)) 2)) + (ssV v (lwN (x >>> ((nI 3) &&& 31)) 2))))), (9, .int (nI ((8 * (lwN (x >>> ((nI 3) &&& 31)) 2)) + (lwN (x >>> ((nI 4) &&& 31)) 9)))), (8, .int (nI (mmV v (lwN (x >>> ((nI 3) &&& 31)) 2)))), (7, .int (nI (lwN (x >>> ((nI 12) &&& 31)) 11))), (6, .int (nI (lwN (x >>> ((nI 8) &&& 31)) 9))), (5, .int (nI (lwN (x >>> ((nI 4) &&& 31)) 9))), (4, .int (nI (lwN (x >>> ((nI 3) &&& 31)) 2))), (3, .int (nI (lwN x 8))), (0, .ref ad), (1, .ref ae), (2, .int x)]) X dL_acts_289 (by decide) rfl ?_
                  refine g_aload_n X 9 dL_acts_291 rfl ?_
                  refine g_iload X 0 dL_acts_292 rfl ?_
                  refine g_iload X 5 dL_acts_294 rfl ?_
                  refine g_iast (ws' := [wAr E ad 48 d, wAr E ae 54 (upd e ((8 * (lwN (x >>> ((nI 3) &&& 31)) 2)) + (ssV v (lwN (x >>> ((nI 3) &&& 31)) 2))) (nI (lwN (x >>> ((nI 4) &&& 31)) 9)))].flatten) X 1 rfl ((8 * (lwN (x >>> ((nI 3) &&& 31)) 2)) + (ssV v (lwN (x >>> ((nI 3) &&& 31)) 2))) (ix_nI (by omega) (by decide)) rfl dL_acts_296 ?_
                  refine g_aload_n X 9 dL_acts_297 rfl ?_
                  refine g_bipush (v := (nI 16)) X dL_acts_298 rfl ?_
                  refine g_iload X 0 dL_acts_300 rfl ?_
                  refine g_iaddN X dL_acts_302 ?_
                  refine g_iload X 4 dL_acts_303 rfl ?_
                  refine g_iast (ws' := [wAr E ad 48 d, wAr E ae 54 (upd (upd e ((8 * (lwN (x >>> ((nI 3) &&& 31)) 2)) + (ssV v (lwN (x >>> ((nI 3) &&& 31)) 2))) (nI (lwN (x >>> ((nI 4) &&& 31)) 9))) (16 + ((8 * (lwN (x >>> ((nI 3) &&& 31)) 2)) + (ssV v (lwN (x >>> ((nI 3) &&& 31)) 2)))) (nI (lwN (x >>> ((nI 8) &&& 31)) 9)))].flatten) X 1 rfl (16 + ((8 * (lwN (x >>> ((nI 3) &&& 31)) 2)) + (ssV v (lwN (x >>> ((nI 3) &&& 31)) 2)))) (ix_nI (by omega) (by decide)) rfl dL_acts_305 ?_
                  refine g_aload_n X 9 dL_acts_306 rfl ?_
                  refine g_bipush (v := (nI 32)) X dL_acts_307 rfl ?_
                  refine g_iload X 0 dL_acts_309 rfl ?_
                  refine g_iaddN X dL_acts_311 ?_
                  refine g_iload X 3 dL_acts_312 rfl ?_
                  refine g_iast (ws' := [wAr E ad 48 d, wAr E ae 54 (upd (upd (upd e ((8 * (lwN (x >>> ((nI 3) &&& 31)) 2)) + (ssV v (lwN (x >>> ((nI 3) &&& 31)) 2))) (nI (lwN (x >>> ((nI 4) &&& 31)) 9))) (16 + ((8 * (lwN (x >>> ((nI 3) &&& 31)) 2)) + (ssV v (lwN (x >>> ((nI 3) &&& 31)) 2)))) (nI (lwN (x >>> ((nI 8) &&& 31)) 9))) (32 + ((8 * (lwN (x >>> ((nI 3) &&& 31)) 2)) + (ssV v (lwN (x >>> ((nI 3) &&& 31)) 2)))) (nI (lwN (x >>> ((nI 12) &&& 31)) 11)))].flatten) X 1 rfl (32 + ((8 * (lwN (x >>> ((nI 3) &&& 31)) 2)) + (ssV v (lwN (x >>> ((nI 3) &&& 31)) 2)))) (ix_nI (by omega) (by decide)) rfl dL_acts_314 ?_
                  refine g_aload_n X 9 dL_acts_315 rfl ?_
                  refine g_bipush (v := (nI 50)) X dL_acts_316 rfl ?_
                  refine g_iload X 6 dL_acts_318 rfl ?_
                  refine g_iaddN X dL_acts_320 ?_
                  refine g_dup2 X dL_acts_321 rfl rfl ?_
                  refine g_iald X 1 rfl (50 + (lwN (x >>> ((nI 3) &&& 31)) 2)) (ix_nI (by omega) (by decide)) dL_acts_322 ?_
                  rw [upd_n _ _ (by omega), upd_n _ _ (by omega), upd_n _ _ (by omega), (hd.2.1 _ l2).2]
                  refine g_iconst (v := (nI 1)) X dL_acts_323 rfl ?_
                  refine g_iaddN X dL_acts_324 ?_
                  refine g_iast (ws' := [wAr E ad 48 d, wAr E ae 54 (upd (upd (upd (upd e ((8 * (lwN (x >>> ((nI 3) &&& 31)) 2)) + (ssV v (lwN (x >>> ((nI 3) &&& 31)) 2))) (nI (lwN (x >>> ((nI 4) &&& 31)) 9))) (16 + ((8 * (lwN (x >>> ((nI 3) &&& 31)) 2)) + (ssV v (lwN (x >>> ((nI 3) &&& 31)) 2)))) (nI (lwN (x >>> ((nI 8) &&& 31)) 9))) (32 + ((8 * (lwN (x >>> ((nI 3) &&& 31)) 2)) + (ssV v (lwN (x >>> ((nI 3) &&& 31)) 2)))) (nI (lwN (x >>> ((nI 12) &&& 31)) 11))) (50 + (lwN (x >>> ((nI 3) &&& 31)) 2)) (nI ((ssV v (lwN (x >>> ((nI 3) &&& 31)) 2)) + 1)))].flatten) X 1 rfl (50 + (lwN (x >>> ((nI 3) &&& 31)) 2)) (ix_nI (by omega) (by decide)) rfl dL_acts_325 ?_
                  refine g_aload_n X 9 dL_acts_326 rfl ?_
                  refine g_bipush (v := (nI 50)) X dL_acts_327 rfl ?_
                  refine g_iload X 6 dL_acts_329 rfl ?_
                  refine g_iaddN X dL_acts_331 ?_
                  refine g_iald X 1 rfl (50 + (lwN (x >>> ((nI 3) &&& 31)) 2)) (ix_nI (by omega) (by decide)) dL_acts_332 ?_
                  rw [upd_s]
                  exact g_iretv (r := (nI (ssV v (lwN (x >>> ((nI 3) &&& 31)) 2) + 1))) X hx rfl (by simp [aV, c_69, f_c_69, fn_c_69, c_180, f_c_180, c_192, f_c_192, fn_c_192, c_199, f_c_199, fn_c_199, c_206, f_c_206, c_213, f_c_213, fn_c_213, c_228, s_228, f_c_240]) (by simp [aD, aE, jnE, ctE, c_69, f_c_69, fn_c_69, c_180, f_c_180, c_192, f_c_192, fn_c_192, c_199, f_c_199, fn_c_199, c_206, f_c_206, c_213, f_c_213, fn_c_213, c_228, s_228, f_c_240]) dL_acts_333
                · have f_c_240 : ssV v (lwN (x >>> ((nI 3) &&& 31)) 2) = 8 := n_eq (by omega) (by omega) c_240
                  refine g_aload_n X 8 dL_acts_243 rfl ?_
                  refine g_bipush (v := (nI 50)) X dL_acts_244 rfl ?_
                  refine g_iload X 5 dL_acts_246 rfl ?_
                  refine g_iaddN X dL_acts_248 ?_
                  refine g_iald X 1 rfl (50 + (lwN (x >>> ((nI 3) &&& 31)) 2)) (ix_nI (by omega) (by decide)) dL_acts_249 ?_
                  rw [(hd.2.1 _ l2).2]
                  refine g_bipush (v := (nI 8)) X dL_acts_250 rfl ?_
                  refine g_icmp_ne (tgt := 273) X dL_acts_252 (by decide) (fun c_252 => absurd c_240 c_252) (fun c_252 => ?_)
                  refine g_aload_n X 8 dL_acts_255 rfl ?_
                  refine g_iload X 5 dL_acts_256 rfl ?_
                  refine g_iload X 4 dL_acts_258 rfl ?_
                  refine g_iload X 3 dL_acts_260 rfl ?_
                  refine g_callSr (st2 := [.int (stL e (lwN (x >>> ((nI 3) &&& 31)) 2) (nI (lwN (x >>> ((nI 4) &&& 31)) 9)) (nI (lwN (x >>> ((nI 8) &&& 31)) 9)) (ssV v (lwN (x >>> ((nI 3) &&& 31)) 2)))]) X (c_L_street E ae e (lwN (x >>> ((nI 3) &&& 31)) 2) (ssV v (lwN (x >>> ((nI 3) &&& 31)) 2)) (nI (lwN (x >>> ((nI 4) &&& 31)) 9)) (nI (lwN (x >>> ((nI 8) &&& 31)) 9)) l2 hs8 (hd.2.1 _ l2).2) cs_L_37 rfl [1] [0] 2 rfl (by decide) rfl rfl rfl (Nat.le_of_ble_eq_true rfl) dL_acts_262 rfl ?_
                  refine g_if_ge (tgt := 273) X dL_acts_265 (by decide) (fun c_265 => absurd c_265 c_228) (fun c_265 => ?_)
                  have s_265 : stL e (lwN (x >>> ((nI 3) &&& 31)) 2) (nI (lwN (x >>> ((nI 4) &&& 31)) 9)) (nI (lwN (x >>> ((nI 8) &&& 31)) 9)) (ssV v (lwN (x >>> ((nI 3) &&& 31)) 2)) < 0 := by rw [i_lt, i_0]; rw [i_le, i_0] at c_265; omega
                  refine g_bipush (v := (-3)) X dL_acts_268 rfl ?_
                  refine g_goto (tgt := 275) X dL_acts_270 (by decide) ?_
                  exact g_iretv (r := (-3)) X hx rfl (by simp [aV, c_69, f_c_69, fn_c_69, c_180, f_c_180, c_192, f_c_192, fn_c_192, c_199, f_c_199, fn_c_199, c_206, f_c_206, c_213, f_c_213, fn_c_213, c_228, s_228, eq_true f_c_240, c_265, s_265]) (by simp [aD, aE, jnE, ctE, c_69, f_c_69, fn_c_69, c_180, f_c_180, c_192, f_c_192, fn_c_192, c_199, f_c_199, fn_c_199, c_206, f_c_206, c_213, f_c_213, fn_c_213, c_228, s_228, eq_true f_c_240, c_265, s_265]) dL_acts_275
            · have f_c_213 : 9 < lwN (x >>> ((nI 12) &&& 31)) 11 := n_nle (by omega) (by omega) c_213
              have fn_c_213 := Nat.not_le.mpr f_c_213
              refine g_iconst (v := (-1)) X dL_acts_216 rfl ?_
              exact g_iretv (r := (-1)) X hx rfl (by simp [aV, c_69, f_c_69, fn_c_69, c_180, f_c_180, c_192, f_c_192, fn_c_192, c_199, f_c_199, fn_c_199, c_206, f_c_206, c_213, f_c_213, fn_c_213]) (by simp [aD, aE, jnE, ctE, c_69, f_c_69, fn_c_69, c_180, f_c_180, c_192, f_c_192, fn_c_192, c_199, f_c_199, fn_c_199, c_206, f_c_206, c_213, f_c_213, fn_c_213]) dL_acts_217
    · have f_c_180 : ¬ lwN x 8 = 4 := n_ne (by omega) (by omega) c_180
      refine g_iload_n X 6 dL_acts_183 rfl ?_
      refine g_iconst (v := (nI 5)) X dL_acts_184 rfl ?_
      refine g_icmp_ne (tgt := 334) X dL_acts_185 (by decide) (fun c_185 => ?_) (fun c_185 => ?_)
      · have f_c_185 : ¬ lwN x 8 = 5 := n_ne (by omega) (by omega) c_185
        refine g_iload_n X 6 dL_acts_334 rfl ?_
        refine g_bipush (v := (nI 6)) X dL_acts_335 rfl ?_
        refine g_icmp_ne (tgt := 439) X dL_acts_337 (by decide) (fun c_337 => ?_) (fun c_337 => ?_)
        · have f_c_337 : ¬ lwN x 8 = 6 := n_ne (by omega) (by omega) c_337
          refine g_iload_n X 6 dL_acts_439 rfl ?_
          refine g_iconst (v := (nI 2)) X dL_acts_440 rfl ?_
          refine g_icmp_ne (tgt := 522) X dL_acts_441 (by decide) (fun c_441 => ?_) (fun c_441 => ?_)
          · have f_c_441 : ¬ lwN x 8 = 2 := n_ne (by omega) (by omega) c_441
            refine g_iload_n X 6 dL_acts_522 rfl ?_
            refine g_iconst (v := (nI 3)) X dL_acts_523 rfl ?_
            refine g_icmp_ne (tgt := 609) X dL_acts_524 (by decide) (fun c_524 => ?_) (fun c_524 => ?_)
            · have f_c_524 : ¬ lwN x 8 = 3 := n_ne (by omega) (by omega) c_524
              refine g_iload X 5 dL_acts_609 rfl ?_
              refine g_if_ne (tgt := 626) X dL_acts_611 (by decide) (fun c_611 => ?_) (fun c_611 => ?_)
              · have f_c_611 : ¬ lwN (x >>> ((nI 3) &&& 31)) 2 = 0 := n_ne (by omega) (by omega) c_611
                refine g_iload_n X 9 dL_acts_626 rfl ?_
                refine g_bipush (v := (nI 8)) X dL_acts_627 rfl ?_
                refine g_ishr X dL_acts_629 ?_
                refine g_iconst (v := (nI 5)) X dL_acts_630 rfl ?_
                refine g_callSP (st2 := [.int (nI (lwN (x >>> ((nI 8) &&& 31)) 5))]) (ws' := [wAr E ad 48 d, wAr E ae 54 e].flatten) (wr := [wAr E ad 48 d, wAr E ae 54 e].flatten) X (c_L_low E (x >>> ((nI 8) &&& 31)) 5 (by decide) (by decide)) cs_L_25 rfl (List.Perm.refl _) rfl (List.Perm.refl _) rfl rfl (Nat.le_of_ble_eq_true rfl) dL_acts_631 rfl ?_
                refine g_istore (lv' := [(10, .int (nI (lwN (x >>> ((nI 8) &&& 31)) 5))), (9, .int (nI ((8 * (lwN (x >>> ((nI 3) &&& 31)) 2)) + (lwN (x >>> ((nI 4) &&& 31)) 9)))), (8, .int (nI (mmV v (lwN (x >>> ((nI 3) &&& 31)) 2)))), (7, .int (nI (lwN (x >>> ((nI 12) &&& 31)) 11))), (6, .int (nI (lwN (x >>> ((nI 8) &&& 31)) 9))), (5, .int (nI (lwN (x >>> ((nI 4) &&& 31)) 9))), (4, .int (nI (lwN (x >>> ((nI 3) &&& 31)) 2))), (3, .int (nI (lwN x 8))), (0, .ref ad), (1, .ref ae), (2, .int x)]) X dL_acts_634 (by decide) rfl ?_
                refine g_iload X 6 dL_acts_636 rfl ?_
                refine g_if_ne (tgt := 662) X dL_acts_638 (by decide) (fun c_638 => ?_) (fun c_638 => absurd c_638 c_611)
                refine g_iload X 0 dL_acts_662 rfl ?_
                refine g_iconst (v := (nI 3)) X dL_acts_664 rfl ?_
                refine g_icmp_le (tgt := 672) X dL_acts_665 (by decide) (fun c_665 => ?_) (fun c_665 => ?_)
                · have f_c_665 : lwN (x >>> ((nI 8) &&& 31)) 5 ≤ 3 := n_le (by omega) (by omega) c_665
                  have fn_c_665 := Nat.not_lt.mpr f_c_665
                  refine g_iconst (v := (nI 0)) X dL_acts_672 rfl ?_
                  refine g_istore (lv' := [(11, .int (nI 0)), (10, .int (nI (lwN (x >>> ((nI 8) &&& 31)) 5))), (9, .int (nI ((8 * (lwN (x >>> ((nI 3) &&& 31)) 2)) + (lwN (x >>> ((nI 4) &&& 31)) 9)))), (8, .int (nI (mmV v (lwN (x >>> ((nI 3) &&& 31)) 2)))), (7, .int (nI (lwN (x >>> ((nI 12) &&& 31)) 11))), (6, .int (nI (lwN (x >>> ((nI 8) &&& 31)) 9))), (5, .int (nI (lwN (x >>> ((nI 4) &&& 31)) 9))), (4, .int (nI (lwN (x >>> ((nI 3) &&& 31)) 2))), (3, .int (nI (lwN x 8))), (0, .ref ad), (1, .ref ae), (2, .int x)]) X dL_acts_673 (by decide) rfl ?_
                  refine g_aload_n X 10 dL_acts_675 rfl ?_
                  refine g_bipush (v := (nI 52)) X dL_acts_676 rfl ?_
                  refine g_iload X 7 dL_acts_678 rfl ?_
                  refine g_iaddN X dL_acts_680 ?_
                  refine g_iald X 1 rfl (52 + (lwN (x >>> ((nI 3) &&& 31)) 2)) (ix_nI (by omega) (by decide)) dL_acts_681 ?_
                  refine g_istore (lv' := [(12, .int (e (52 + (lwN (x >>> ((nI 3) &&& 31)) 2)))), (11, .int (nI 0)), (10, .int (nI (lwN (x >>> ((nI 8) &&& 31)) 5))), (9, .int (nI ((8 * (lwN (x >>> ((nI 3) &&& 31)) 2)) + (lwN (x >>> ((nI 4) &&& 31)) 9)))), (8, .int (nI (mmV v (lwN (x >>> ((nI 3) &&& 31)) 2)))), (7, .int (nI (lwN (x >>> ((nI 12) &&& 31)) 11))), (6, .int (nI (lwN (x >>> ((nI 8) &&& 31)) 9))), (5, .int (nI (lwN (x >>> ((nI 4) &&& 31)) 9))), (4, .int (nI (lwN (x >>> ((nI 3) &&& 31)) 2))), (3, .int (nI (lwN x 8))), (0, .ref ad), (1, .ref ae), (2, .int x)]) X dL_acts_682 (by decide) rfl ?_
                  refine g_aload_n X 11 dL_acts_684 rfl ?_
                  refine g_bipush (v := (nI 52)) X dL_acts_685 rfl ?_
                  refine g_iload X 8 dL_acts_687 rfl ?_
                  refine g_iaddN X dL_acts_689 ?_
                  refine g_iload X 1 dL_acts_690 rfl ?_
                  refine g_if_eq (tgt := 700) X dL_acts_692 (by decide) (fun c_692 => ?_) (fun c_692 => absurd c_692 (by decide))
                  refine g_iload X 2 dL_acts_700 rfl ?_
                  refine g_iast (ws' := [wAr E ad 48 d, wAr E ae 54 (upd e (52 + (lwN (x >>> ((nI 3) &&& 31)) 2)) (nI (lwN (x >>> ((nI 8) &&& 31)) 5)))].flatten) X 1 rfl (52 + (lwN (x >>> ((nI 3) &&& 31)) 2)) (ix_nI (by omega) (by decide)) rfl dL_acts_702 ?_
                  refine g_iload X 1 dL_acts_703 rfl ?_
                  refine g_if_eq (tgt := 712) X dL_acts_705 (by decide) (fun c_705 => ?_) (fun c_705 => absurd c_705 (by decide))
                  refine g_iload X 0 dL_acts_712 rfl ?_
                  refine g_iload X 2 dL_acts_714 rfl ?_
                  refine g_icmp_ne (tgt := 724) X dL_acts_716 (by decide) (fun c_716 => ?_) (fun c_716 => ?_)
                  · refine g_iload X 0 dL_acts_724 rfl ?_
                    exact g_iretv (r := (e (52 + (lwN (x >>> ((nI 3) &&& 31)) 2)))) X hx rfl (by simp [aV, c_69, f_c_69, fn_c_69, c_180, f_c_180, c_185, f_c_185, c_337, f_c_337, c_441, f_c_441, c_524, f_c_524, f_c_611, c_665, f_c_665, fn_c_665, c_716]) (by simp [aD, aE, jnE, ctE, c_69, f_c_69, fn_c_69, c_180, f_c_180, c_185, f_c_185, c_337, f_c_337, c_441, f_c_441, c_524, f_c_524, f_c_611, c_665, f_c_665, fn_c_665, c_716]) dL_acts_726
                  · refine g_bipush (v := (-2)) X dL_acts_719 rfl ?_
                    refine g_goto (tgt := 726) X dL_acts_721 (by decide) ?_
                    exact g_iretv (r := (-2)) X hx rfl (by simp [aV, c_69, f_c_69, fn_c_69, c_180, f_c_180, c_185, f_c_185, c_337, f_c_337, c_441, f_c_441, c_524, f_c_524, f_c_611, c_665, f_c_665, fn_c_665, c_716]) (by simp [aD, aE, jnE, ctE, c_69, f_c_69, fn_c_69, c_180, f_c_180, c_185, f_c_185, c_337, f_c_337, c_441, f_c_441, c_524, f_c_524, f_c_611, c_665, f_c_665, fn_c_665, c_716]) dL_acts_726
                · have f_c_665 : 3 < lwN (x >>> ((nI 8) &&& 31)) 5 := n_nle (by omega) (by omega) c_665
                  have fn_c_665 := Nat.not_le.mpr f_c_665
                  refine g_iconst (v := (nI 1)) X dL_acts_668 rfl ?_
                  refine g_goto (tgt := 673) X dL_acts_669 (by decide) ?_
                  refine g_istore (lv' := [(11, .int (nI 1)), (10, .int (nI (lwN (x >>> ((nI 8) &&& 31)) 5))), (9, .int (nI ((8 * (lwN (x >>> ((nI 3) &&& 31)) 2)) + (lwN (x >>> ((nI 4) &&& 31)) 9)))), (8, .int (nI (mmV v (lwN (x >>> ((nI 3) &&& 31)) 2)))), (7, .int (nI (lwN (x >>> ((nI 12) &&& 31)) 11))), (6, .int (nI (lwN (x >>> ((nI 8) &&& 31)) 9))), (5, .int (nI (lwN (x >>> ((nI 4) &&& 31)) 9))), (4, .int (nI (lwN (x >>> ((nI 3) &&& 31)) 2))), (3, .int (nI (lwN x 8))), (0, .ref ad), (1, .ref ae), (2, .int x)]) X dL_acts_673 (by decide) rfl ?_
                  refine g_aload_n X 10 dL_acts_675 rfl ?_
                  refine g_bipush (v := (nI 52)) X dL_acts_676 rfl ?_
                  refine g_iload X 7 dL_acts_678 rfl ?_
                  refine g_iaddN X dL_acts_680 ?_
                  refine g_iald X 1 rfl (52 + (lwN (x >>> ((nI 3) &&& 31)) 2)) (ix_nI (by omega) (by decide)) dL_acts_681 ?_
                  refine g_istore (lv' := [(12, .int (e (52 + (lwN (x >>> ((nI 3) &&& 31)) 2)))), (11, .int (nI 1)), (10, .int (nI (lwN (x >>> ((nI 8) &&& 31)) 5))), (9, .int (nI ((8 * (lwN (x >>> ((nI 3) &&& 31)) 2)) + (lwN (x >>> ((nI 4) &&& 31)) 9)))), (8, .int (nI (mmV v (lwN (x >>> ((nI 3) &&& 31)) 2)))), (7, .int (nI (lwN (x >>> ((nI 12) &&& 31)) 11))), (6, .int (nI (lwN (x >>> ((nI 8) &&& 31)) 9))), (5, .int (nI (lwN (x >>> ((nI 4) &&& 31)) 9))), (4, .int (nI (lwN (x >>> ((nI 3) &&& 31)) 2))), (3, .int (nI (lwN x 8))), (0, .ref ad), (1, .ref ae), (2, .int x)]) X dL_acts_682 (by decide) rfl ?_
                  refine g_aload_n X 11 dL_acts_684 rfl ?_
                  refine g_bipush (v := (nI 52)) X dL_acts_685 rfl ?_
                  refine g_iload X 8 dL_acts_687 rfl ?_
                  refine g_iaddN X dL_acts_689 ?_
                  refine g_iload X 1 dL_acts_690 rfl ?_
                  refine g_if_eq (tgt := 700) X dL_acts_692 (by decide) (fun c_692 => absurd c_692 (by decide)) (fun c_692 => ?_)
                  refine g_iload X 0 dL_acts_695 rfl ?_
                  refine g_goto (tgt := 702) X dL_acts_697 (by decide) ?_
                  refine g_iast (ws' := [wAr E ad 48 d, wAr E ae 54 (upd e (52 + (lwN (x >>> ((nI 3) &&& 31)) 2)) (e (52 + (lwN (x >>> ((nI 3) &&& 31)) 2))))].flatten) X 1 rfl (52 + (lwN (x >>> ((nI 3) &&& 31)) 2)) (ix_nI (by omega) (by decide)) rfl dL_acts_702 ?_
                  refine g_iload X 1 dL_acts_703 rfl ?_
                  refine g_if_eq (tgt := 712) X dL_acts_705 (by decide) (fun c_705 => absurd c_705 (by decide)) (fun c_705 => ?_)
                  refine g_iconst (v := (-1)) X dL_acts_708 rfl ?_
                  refine g_goto (tgt := 726) X dL_acts_709 (by decide) ?_
                  exact g_iretv (r := (-1)) X hx rfl (by simp [aV, c_69, f_c_69, fn_c_69, c_180, f_c_180, c_185, f_c_185, c_337, f_c_337, c_441, f_c_441, c_524, f_c_524, f_c_611, c_665, f_c_665, fn_c_665]) (by simp [aD, aE, jnE, ctE, c_69, f_c_69, fn_c_69, c_180, f_c_180, c_185, f_c_185, c_337, f_c_337, c_441, f_c_441, c_524, f_c_524, f_c_611, c_665, f_c_665, fn_c_665]) dL_acts_726
              · have f_c_611 : lwN (x >>> ((nI 3) &&& 31)) 2 = 0 := n_eq (by omega) (by omega) c_611
                refine g_iload_n X 9 dL_acts_614 rfl ?_
                refine g_bipush (v := (nI 8)) X dL_acts_615 rfl ?_
                refine g_ishr X dL_acts_617 ?_
                refine g_bipush (v := (nI 22)) X dL_acts_618 rfl ?_
                refine g_callSP (st2 := [.int (nI (lwN (x >>> ((nI 8) &&& 31)) 22))]) (ws' := [wAr E ad 48 d, wAr E ae 54 e].flatten) (wr := [wAr E ad 48 d, wAr E ae 54 e].flatten) X (c_L_low E (x >>> ((nI 8) &&& 31)) 22 (by decide) (by decide)) cs_L_25 rfl (List.Perm.refl _) rfl (List.Perm.refl _) rfl rfl (Nat.le_of_ble_eq_true rfl) dL_acts_620 rfl ?_
                refine g_goto (tgt := 634) X dL_acts_623 (by decide) ?_
                refine g_istore (lv' := [(10, .int (nI (lwN (x >>> ((nI 8) &&& 31)) 22))), (9, .int (nI ((8 * (lwN (x >>> ((nI 3) &&& 31)) 2)) + (lwN (x >>> ((nI 4) &&& 31)) 9)))), (8, .int (nI (mmV v (lwN (x >>> ((nI 3) &&& 31)) 2)))), (7, .int (nI (lwN (x >>> ((nI 12) &&& 31)) 11))), (6, .int (nI (lwN (x >>> ((nI 8) &&& 31)) 9))), (5, .int (nI (lwN (x >>> ((nI 4) &&& 31)) 9))), (4, .int (nI (lwN (x >>> ((nI 3) &&& 31)) 2))), (3, .int (nI (lwN x 8))), (0, .ref ad), (1, .ref ae), (2, .int x)]) X dL_acts_634 (by decide) rfl ?_
                refine g_iload X 6 dL_acts_636 rfl ?_
                refine g_if_ne (tgt := 662) X dL_acts_638 (by decide) (fun c_638 => absurd c_611 c_638) (fun c_638 => ?_)
                refine g_iload X 0 dL_acts_641 rfl ?_
                refine g_iconst (v := (nI 1)) X dL_acts_643 rfl ?_
                refine g_icmp_lt (tgt := 654) X dL_acts_644 (by decide) (fun c_644 => ?_) (fun c_644 => ?_)
                · have f_c_644 : lwN (x >>> ((nI 8) &&& 31)) 22 < 1 := n_lt (by omega) (by omega) c_644
                  have fn_c_644 := Nat.not_le.mpr f_c_644
                  refine g_iconst (v := (nI 1)) X dL_acts_654 rfl ?_
                  refine g_goto (tgt := 673) X dL_acts_655 (by decide) ?_
                  refine g_istore (lv' := [(11, .int (nI 1)), (10, .int (nI (lwN (x >>> ((nI 8) &&& 31)) 22))), (9, .int (nI ((8 * (lwN (x >>> ((nI 3) &&& 31)) 2)) + (lwN (x >>> ((nI 4) &&& 31)) 9)))), (8, .int (nI (mmV v (lwN (x >>> ((nI 3) &&& 31)) 2)))), (7, .int (nI (lwN (x >>> ((nI 12) &&& 31)) 11))), (6, .int (nI (lwN (x >>> ((nI 8) &&& 31)) 9))), (5, .int (nI (lwN (x >>> ((nI 4) &&& 31)) 9))), (4, .int (nI (lwN (x >>> ((nI 3) &&& 31)) 2))), (3, .int (nI (lwN x 8))), (0, .ref ad), (1, .ref ae), (2, .int x)]) X dL_acts_673 (by decide) rfl ?_
                  refine g_aload_n X 10 dL_acts_675 rfl ?_
                  refine g_bipush (v := (nI 52)) X dL_acts_676 rfl ?_
                  refine g_iload X 7 dL_acts_678 rfl ?_
                  refine g_iaddN X dL_acts_680 ?_
                  refine g_iald X 1 rfl (52 + (lwN (x >>> ((nI 3) &&& 31)) 2)) (ix_nI (by omega) (by decide)) dL_acts_681 ?_
                  refine g_istore (lv' := [(12, .int (e (52 + (lwN (x >>> ((nI 3) &&& 31)) 2)))), (11, .int (nI 1)), (10, .int (nI (lwN (x >>> ((nI 8) &&& 31)) 22))), (9, .int (nI ((8 * (lwN (x >>> ((nI 3) &&& 31)) 2)) + (lwN (x >>> ((nI 4) &&& 31)) 9)))), (8, .int (nI (mmV v (lwN (x >>> ((nI 3) &&& 31)) 2)))), (7, .int (nI (lwN (x >>> ((nI 12) &&& 31)) 11))), (6, .int (nI (lwN (x >>> ((nI 8) &&& 31)) 9))), (5, .int (nI (lwN (x >>> ((nI 4) &&& 31)) 9))), (4, .int (nI (lwN (x >>> ((nI 3) &&& 31)) 2))), (3, .int (nI (lwN x 8))), (0, .ref ad), (1, .ref ae), (2, .int x)]) X dL_acts_682 (by decide) rfl ?_
                  refine g_aload_n X 11 dL_acts_684 rfl ?_
                  refine g_bipush (v := (nI 52)) X dL_acts_685 rfl ?_
                  refine g_iload X 8 dL_acts_687 rfl ?_
                  refine g_iaddN X dL_acts_689 ?_
                  refine g_iload X 1 dL_acts_690 rfl ?_
                  refine g_if_eq (tgt := 700) X dL_acts_692 (by decide) (fun c_692 => absurd c_692 (by decide)) (fun c_692 => ?_)
                  refine g_iload X 0 dL_acts_695 rfl ?_
                  refine g_goto (tgt := 702) X dL_acts_697 (by decide) ?_
                  refine g_iast (ws' := [wAr E ad 48 d, wAr E ae 54 (upd e (52 + (lwN (x >>> ((nI 3) &&& 31)) 2)) (e (52 + (lwN (x >>> ((nI 3) &&& 31)) 2))))].flatten) X 1 rfl (52 + (lwN (x >>> ((nI 3) &&& 31)) 2)) (ix_nI (by omega) (by decide)) rfl dL_acts_702 ?_
                  refine g_iload X 1 dL_acts_703 rfl ?_
                  refine g_if_eq (tgt := 712) X dL_acts_705 (by decide) (fun c_705 => absurd c_705 (by decide)) (fun c_705 => ?_)
                  refine g_iconst (v := (-1)) X dL_acts_708 rfl ?_
                  refine g_goto (tgt := 726) X dL_acts_709 (by decide) ?_
                  exact g_iretv (r := (-1)) X hx rfl (by simp [aV, c_69, f_c_69, fn_c_69, c_180, f_c_180, c_185, f_c_185, c_337, f_c_337, c_441, f_c_441, c_524, f_c_524, eq_true f_c_611, c_644, f_c_644, fn_c_644]) (by simp [aD, aE, jnE, ctE, c_69, f_c_69, fn_c_69, c_180, f_c_180, c_185, f_c_185, c_337, f_c_337, c_441, f_c_441, c_524, f_c_524, eq_true f_c_611, c_644, f_c_644, fn_c_644]) dL_acts_726
                · have f_c_644 : 1 ≤ lwN (x >>> ((nI 8) &&& 31)) 22 := n_nlt (by omega) (by omega) c_644
                  have fn_c_644 := Nat.not_lt.mpr f_c_644
                  refine g_iload X 0 dL_acts_647 rfl ?_
                  refine g_bipush (v := (nI 20)) X dL_acts_649 rfl ?_
                  refine g_icmp_le (tgt := 658) X dL_acts_651 (by decide) (fun c_651 => ?_) (fun c_651 => ?_)
                  · have f_c_651 : lwN (x >>> ((nI 8) &&& 31)) 22 ≤ 20 := n_le (by omega) (by omega) c_651
                    have fn_c_651 := Nat.not_lt.mpr f_c_651
                    refine g_iconst (v := (nI 0)) X dL_acts_658 rfl ?_
                    refine g_goto (tgt := 673) X dL_acts_659 (by decide) ?_
                    refine g_istore (lv' := [(11, .int (nI 0)), (10, .int (nI (lwN (x >>> ((nI 8) &&& 31)) 22))), (9, .int (nI ((8 * (lwN (x >>> ((nI 3) &&& 31)) 2)) + (lwN (x >>> ((nI 4) &&& 31)) 9)))), (8, .int (nI (mmV v (lwN (x >>> ((nI 3) &&& 31)) 2)))), (7, .int (nI (lwN (x >>> ((nI 12) &&& 31)) 11))), (6, .int (nI (lwN (x >>> ((nI 8) &&& 31)) 9))), (5, .int (nI (lwN (x >>> ((nI 4) &&& 31)) 9))), (4, .int (nI (lwN (x >>> ((nI 3) &&& 31)) 2))), (3, .int (nI (lwN x 8))), (0, .ref ad), (1, .ref ae), (2, .int x)]) X dL_acts_673 (by decide) rfl ?_
                    refine g_aload_n X 10 dL_acts_675 rfl ?_
                    refine g_bipush (v := (nI 52)) X dL_acts_676 rfl ?_
                    refine g_iload X 7 dL_acts_678 rfl ?_
                    refine g_iaddN X dL_acts_680 ?_
                    refine g_iald X 1 rfl (52 + (lwN (x >>> ((nI 3) &&& 31)) 2)) (ix_nI (by omega) (by decide)) dL_acts_681 ?_
                    refine g_istore (lv' := [(12, .int (e (52 + (lwN (x >>> ((nI 3) &&& 31)) 2)))), (11, .int (nI 0)), (10, .int (nI (lwN (x >>> ((nI 8) &&& 31)) 22))), (9, .int (nI ((8 * (lwN (x >>> ((nI 3) &&& 31)) 2)) + (lwN (x >>> ((nI 4) &&& 31)) 9)))), (8, .int (nI (mmV v (lwN (x >>> ((nI 3) &&& 31)) 2)))), (7, .int (nI (lwN (x >>> ((nI 12) &&& 31)) 11))), (6, .int (nI (lwN (x >>> ((nI 8) &&& 31)) 9))), (5, .int (nI (lwN (x >>> ((nI 4) &&& 31)) 9))), (4, .int (nI (lwN (x >>> ((nI 3) &&& 31)) 2))), (3, .int (nI (lwN x 8))), (0, .ref ad), (1, .ref ae), (2, .int x)]) X dL_acts_682 (by decide) rfl ?_
                    refine g_aload_n X 11 dL_acts_684 rfl ?_
                    refine g_bipush (v := (nI 52)) X dL_acts_685 rfl ?_
                    refine g_iload X 8 dL_acts_687 rfl ?_
                    refine g_iaddN X dL_acts_689 ?_
                    refine g_iload X 1 dL_acts_690 rfl ?_
                    refine g_if_eq (tgt := 700) X dL_acts_692 (by decide) (fun c_692 => ?_) (fun c_692 => absurd c_692 (by decide))
                    refine g_iload X 2 dL_acts_700 rfl ?_
                    refine g_iast (ws' := [wAr E ad 48 d, wAr E ae 54 (upd e (52 + (lwN (x >>> ((nI 3) &&& 31)) 2)) (nI (lwN (x >>> ((nI 8) &&& 31)) 22)))].flatten) X 1 rfl (52 + (lwN (x >>> ((nI 3) &&& 31)) 2)) (ix_nI (by omega) (by decide)) rfl dL_acts_702 ?_
                    refine g_iload X 1 dL_acts_703 rfl ?_
                    refine g_if_eq (tgt := 712) X dL_acts_705 (by decide) (fun c_705 => ?_) (fun c_705 => absurd c_705 (by decide))
                    refine g_iload X 0 dL_acts_712 rfl ?_
                    refine g_iload X 2 dL_acts_714 rfl ?_
                    refine g_icmp_ne (tgt := 724) X dL_acts_716 (by decide) (fun c_716 => ?_) (fun c_716 => ?_)
                    · refine g_iload X 0 dL_acts_724 rfl ?_
                      exact g_iretv (r := (e (52 + (lwN (x >>> ((nI 3) &&& 31)) 2)))) X hx rfl (by simp [aV, c_69, f_c_69, fn_c_69, c_180, f_c_180, c_185, f_c_185, c_337, f_c_337, c_441, f_c_441, c_524, f_c_524, eq_true f_c_611, c_644, f_c_644, fn_c_644, c_651, f_c_651, fn_c_651, c_716]) (by simp [aD, aE, jnE, ctE, c_69, f_c_69, fn_c_69, c_180, f_c_180, c_185, f_c_185, c_337, f_c_337, c_441, f_c_441, c_524, f_c_524, eq_true f_c_611, c_644, f_c_644, fn_c_644, c_651, f_c_651, fn_c_651, c_716]) dL_acts_726
                    · refine g_bipush (v := (-2)) X dL_acts_719 rfl ?_
                      refine g_goto (tgt := 726) X dL_acts_721 (by decide) ?_
                      exact g_iretv (r := (-2)) X hx rfl (by simp [aV, c_69, f_c_69, fn_c_69, c_180, f_c_180, c_185, f_c_185, c_337, f_c_337, c_441, f_c_441, c_524, f_c_524, eq_true f_c_611, c_644, f_c_644, fn_c_644, c_651, f_c_651, fn_c_651, c_716]) (by simp [aD, aE, jnE, ctE, c_69, f_c_69, fn_c_69, c_180, f_c_180, c_185, f_c_185, c_337, f_c_337, c_441, f_c_441, c_524, f_c_524, eq_true f_c_611, c_644, f_c_644, fn_c_644, c_651, f_c_651, fn_c_651, c_716]) dL_acts_726
                  · have f_c_651 : 20 < lwN (x >>> ((nI 8) &&& 31)) 22 := n_nle (by omega) (by omega) c_651
                    have fn_c_651 := Nat.not_le.mpr f_c_651
                    refine g_iconst (v := (nI 1)) X dL_acts_654 rfl ?_
                    refine g_goto (tgt := 673) X dL_acts_655 (by decide) ?_
                    refine g_istore (lv' := [(11, .int (nI 1)), (10, .int (nI (lwN (x >>> ((nI 8) &&& 31)) 22))), (9, .int (nI ((8 * (lwN (x >>> ((nI 3) &&& 31)) 2)) + (lwN (x >>> ((nI 4) &&& 31)) 9)))), (8, .int (nI (mmV v (lwN (x >>> ((nI 3) &&& 31)) 2)))), (7, .int (nI (lwN (x >>> ((nI 12) &&& 31)) 11))), (6, .int (nI (lwN (x >>> ((nI 8) &&& 31)) 9))), (5, .int (nI (lwN (x >>> ((nI 4) &&& 31)) 9))), (4, .int (nI (lwN (x >>> ((nI 3) &&& 31)) 2))), (3, .int (nI (lwN x 8))), (0, .ref ad), (1, .ref ae), (2, .int x)]) X dL_acts_673 (by decide) rfl ?_
                    refine g_aload_n X 10 dL_acts_675 rfl ?_
                    refine g_bipush (v := (nI 52)) X dL_acts_676 rfl ?_
                    refine g_iload X 7 dL_acts_678 rfl ?_
                    refine g_iaddN X dL_acts_680 ?_
                    refine g_iald X 1 rfl (52 + (lwN (x >>> ((nI 3) &&& 31)) 2)) (ix_nI (by omega) (by decide)) dL_acts_681 ?_
                    refine g_istore (lv' := [(12, .int (e (52 + (lwN (x >>> ((nI 3) &&& 31)) 2)))), (11, .int (nI 1)), (10, .int (nI (lwN (x >>> ((nI 8) &&& 31)) 22))), (9, .int (nI ((8 * (lwN (x >>> ((nI 3) &&& 31)) 2)) + (lwN (x >>> ((nI 4) &&& 31)) 9)))), (8, .int (nI (mmV v (lwN (x >>> ((nI 3) &&& 31)) 2)))), (7, .int (nI (lwN (x >>> ((nI 12) &&& 31)) 11))), (6, .int (nI (lwN (x >>> ((nI 8) &&& 31)) 9))), (5, .int (nI (lwN (x >>> ((nI 4) &&& 31)) 9))), (4, .int (nI (lwN (x >>> ((nI 3) &&& 31)) 2))), (3, .int (nI (lwN x 8))), (0, .ref ad), (1, .ref ae), (2, .int x)]) X dL_acts_682 (by decide) rfl ?_
                    refine g_aload_n X 11 dL_acts_684 rfl ?_
                    refine g_bipush (v := (nI 52)) X dL_acts_685 rfl ?_
                    refine g_iload X 8 dL_acts_687 rfl ?_
                    refine g_iaddN X dL_acts_689 ?_
                    refine g_iload X 1 dL_acts_690 rfl ?_
                    refine g_if_eq (tgt := 700) X dL_acts_692 (by decide) (fun c_692 => absurd c_692 (by decide)) (fun c_692 => ?_)
                    refine g_iload X 0 dL_acts_695 rfl ?_
                    refine g_goto (tgt := 702) X dL_acts_697 (by decide) ?_
                    refine g_iast (ws' := [wAr E ad 48 d, wAr E ae 54 (upd e (52 + (lwN (x >>> ((nI 3) &&& 31)) 2)) (e (52 + (lwN (x >>> ((nI 3) &&& 31)) 2))))].flatten) X 1 rfl (52 + (lwN (x >>> ((nI 3) &&& 31)) 2)) (ix_nI (by omega) (by decide)) rfl dL_acts_702 ?_
                    refine g_iload X 1 dL_acts_703 rfl ?_
                    refine g_if_eq (tgt := 712) X dL_acts_705 (by decide) (fun c_705 => absurd c_705 (by decide)) (fun c_705 => ?_)
                    refine g_iconst (v := (-1)) X dL_acts_708 rfl ?_
                    refine g_goto (tgt := 726) X dL_acts_709 (by decide) ?_
                    exact g_iretv (r := (-1)) X hx rfl (by simp [aV, c_69, f_c_69, fn_c_69, c_180, f_c_180, c_185, f_c_185, c_337, f_c_337, c_441, f_c_441, c_524, f_c_524, eq_true f_c_611, c_644, f_c_644, fn_c_644, c_651, f_c_651, fn_c_651]) (by simp [aD, aE, jnE, ctE, c_69, f_c_69, fn_c_69, c_180, f_c_180, c_185, f_c_185, c_337, f_c_337, c_441, f_c_441, c_524, f_c_524, eq_true f_c_611, c_644, f_c_644, fn_c_644, c_651, f_c_651, fn_c_651]) dL_acts_726
            · have f_c_524 : lwN x 8 = 3 := n_eq (by omega) (by omega) c_524
              refine g_iload X 4 dL_acts_527 rfl ?_
              refine g_aload_n X 8 dL_acts_529 rfl ?_
              refine g_bipush (v := (nI 50)) X dL_acts_530 rfl ?_
              refine g_iload X 5 dL_acts_532 rfl ?_
              refine g_iaddN X dL_acts_534 ?_
              refine g_iald X 1 rfl (50 + (lwN (x >>> ((nI 3) &&& 31)) 2)) (ix_nI (by omega) (by decide)) dL_acts_535 ?_
              rw [(hd.2.1 _ l2).2]
              refine g_icmp_ge (tgt := 546) X dL_acts_536 (by decide) (fun c_536 => ?_) (fun c_536 => ?_)
              · have f_c_536 : ssV v (lwN (x >>> ((nI 3) &&& 31)) 2) ≤ lwN (x >>> ((nI 4) &&& 31)) 9 := n_le (by omega) (by omega) c_536
                have fn_c_536 := Nat.not_lt.mpr f_c_536
                refine g_iconst (v := (nI 1)) X dL_acts_546 rfl ?_
                refine g_goto (tgt := 551) X dL_acts_547 (by decide) ?_
                refine g_istore (lv' := [(10, .int (nI 1)), (9, .int (nI ((8 * (lwN (x >>> ((nI 3) &&& 31)) 2)) + (lwN (x >>> ((nI 4) &&& 31)) 9)))), (8, .int (nI (mmV v (lwN (x >>> ((nI 3) &&& 31)) 2)))), (7, .int (nI (lwN (x >>> ((nI 12) &&& 31)) 11))), (6, .int (nI (lwN (x >>> ((nI 8) &&& 31)) 9))), (5, .int (nI (lwN (x >>> ((nI 4) &&& 31)) 9))), (4, .int (nI (lwN (x >>> ((nI 3) &&& 31)) 2))), (3, .int (nI (lwN x 8))), (0, .ref ad), (1, .ref ae), (2, .int x)]) X dL_acts_551 (by decide) rfl ?_
                refine g_iload X 0 dL_acts_553 rfl ?_
                refine g_if_eq (tgt := 562) X dL_acts_555 (by decide) (fun c_555 => absurd c_555 (by decide)) (fun c_555 => ?_)
                refine g_iconst (v := (nI 0)) X dL_acts_558 rfl ?_
                refine g_goto (tgt := 569) X dL_acts_559 (by decide) ?_
                refine g_istore (lv' := [(11, .int (nI 0)), (10, .int (nI 1)), (9, .int (nI ((8 * (lwN (x >>> ((nI 3) &&& 31)) 2)) + (lwN (x >>> ((nI 4) &&& 31)) 9)))), (8, .int (nI (mmV v (lwN (x >>> ((nI 3) &&& 31)) 2)))), (7, .int (nI (lwN (x >>> ((nI 12) &&& 31)) 11))), (6, .int (nI (lwN (x >>> ((nI 8) &&& 31)) 9))), (5, .int (nI (lwN (x >>> ((nI 4) &&& 31)) 9))), (4, .int (nI (lwN (x >>> ((nI 3) &&& 31)) 2))), (3, .int (nI (lwN x 8))), (0, .ref ad), (1, .ref ae), (2, .int x)]) X dL_acts_569 (by decide) rfl ?_
                refine g_iload X 1 dL_acts_571 rfl ?_
                refine g_if_ne (tgt := 585) X dL_acts_573 (by decide) (fun c_573 => ?_) (fun c_573 => absurd c_573 (by decide))
                refine g_iload X 1 dL_acts_585 rfl ?_
                refine g_if_eq (tgt := 594) X dL_acts_587 (by decide) (fun c_587 => absurd c_587 (by decide)) (fun c_587 => ?_)
                refine g_iconst (v := (-1)) X dL_acts_590 rfl ?_
                refine g_goto (tgt := 608) X dL_acts_591 (by decide) ?_
                exact g_iretv (r := (-1)) X hx rfl (by simp [aV, c_69, f_c_69, fn_c_69, c_180, f_c_180, c_185, f_c_185, c_337, f_c_337, c_441, f_c_441, c_524, f_c_524, c_536, f_c_536, fn_c_536]) (by simp [aD, aE, jnE, ctE, c_69, f_c_69, fn_c_69, c_180, f_c_180, c_185, f_c_185, c_337, f_c_337, c_441, f_c_441, c_524, f_c_524, c_536, f_c_536, fn_c_536]) dL_acts_608
              · have f_c_536 : lwN (x >>> ((nI 4) &&& 31)) 9 < ssV v (lwN (x >>> ((nI 3) &&& 31)) 2) := n_nle (by omega) (by omega) c_536
                have fn_c_536 := Nat.not_le.mpr f_c_536
                refine g_iload X 2 dL_acts_539 rfl ?_
                refine g_bipush (v := (nI 9)) X dL_acts_541 rfl ?_
                refine g_icmp_le (tgt := 550) X dL_acts_543 (by decide) (fun c_543 => ?_) (fun c_543 => ?_)
                · have f_c_543 : lwN (x >>> ((nI 12) &&& 31)) 11 ≤ 9 := n_le (by omega) (by omega) c_543
                  have fn_c_543 := Nat.not_lt.mpr f_c_543
                  refine g_iconst (v := (nI 0)) X dL_acts_550 rfl ?_
                  refine g_istore (lv' := [(10, .int (nI 0)), (9, .int (nI ((8 * (lwN (x >>> ((nI 3) &&& 31)) 2)) + (lwN (x >>> ((nI 4) &&& 31)) 9)))), (8, .int (nI (mmV v (lwN (x >>> ((nI 3) &&& 31)) 2)))), (7, .int (nI (lwN (x >>> ((nI 12) &&& 31)) 11))), (6, .int (nI (lwN (x >>> ((nI 8) &&& 31)) 9))), (5, .int (nI (lwN (x >>> ((nI 4) &&& 31)) 9))), (4, .int (nI (lwN (x >>> ((nI 3) &&& 31)) 2))), (3, .int (nI (lwN x 8))), (0, .ref ad), (1, .ref ae), (2, .int x)]) X dL_acts_551 (by decide) rfl ?_
                  refine g_iload X 0 dL_acts_553 rfl ?_
                  refine g_if_eq (tgt := 562) X dL_acts_555 (by decide) (fun c_555 => ?_) (fun c_555 => absurd c_555 (by decide))
                  refine g_aload_n X 9 dL_acts_562 rfl ?_
                  refine g_bipush (v := (nI 32)) X dL_acts_563 rfl ?_
                  refine g_iload X 1 dL_acts_565 rfl ?_
                  refine g_iaddN X dL_acts_567 ?_
                  refine g_iald X 1 rfl (32 + ((8 * (lwN (x >>> ((nI 3) &&& 31)) 2)) + (lwN (x >>> ((nI 4) &&& 31)) 9))) (ix_nI (by omega) (by decide)) dL_acts_568 ?_
                  refine g_istore (lv' := [(11, .int (e (32 + ((8 * (lwN (x >>> ((nI 3) &&& 31)) 2)) + (lwN (x >>> ((nI 4) &&& 31)) 9))))), (10, .int (nI 0)), (9, .int (nI ((8 * (lwN (x >>> ((nI 3) &&& 31)) 2)) + (lwN (x >>> ((nI 4) &&& 31)) 9)))), (8, .int (nI (mmV v (lwN (x >>> ((nI 3) &&& 31)) 2)))), (7, .int (nI (lwN (x >>> ((nI 12) &&& 31)) 11))), (6, .int (nI (lwN (x >>> ((nI 8) &&& 31)) 9))), (5, .int (nI (lwN (x >>> ((nI 4) &&& 31)) 9))), (4, .int (nI (lwN (x >>> ((nI 3) &&& 31)) 2))), (3, .int (nI (lwN x 8))), (0, .ref ad), (1, .ref ae), (2, .int x)]) X dL_acts_569 (by decide) rfl ?_
                  refine g_iload X 1 dL_acts_571 rfl ?_
                  refine g_if_ne (tgt := 585) X dL_acts_573 (by decide) (fun c_573 => absurd c_573 (by decide)) (fun c_573 => ?_)
                  refine g_aload_n X 10 dL_acts_576 rfl ?_
                  refine g_bipush (v := (nI 32)) X dL_acts_577 rfl ?_
                  refine g_iload X 2 dL_acts_579 rfl ?_
                  refine g_iaddN X dL_acts_581 ?_
                  refine g_iload X 4 dL_acts_582 rfl ?_
                  refine g_iast (ws' := [wAr E ad 48 d, wAr E ae 54 (upd e (32 + ((8 * (lwN (x >>> ((nI 3) &&& 31)) 2)) + (lwN (x >>> ((nI 4) &&& 31)) 9))) (nI (lwN (x >>> ((nI 12) &&& 31)) 11)))].flatten) X 1 rfl (32 + ((8 * (lwN (x >>> ((nI 3) &&& 31)) 2)) + (lwN (x >>> ((nI 4) &&& 31)) 9))) (ix_nI (by omega) (by decide)) rfl dL_acts_584 ?_
                  refine g_iload X 1 dL_acts_585 rfl ?_
                  refine g_if_eq (tgt := 594) X dL_acts_587 (by decide) (fun c_587 => ?_) (fun c_587 => absurd c_587 (by decide))
                  refine g_iload X 0 dL_acts_594 rfl ?_
                  refine g_iload X 4 dL_acts_596 rfl ?_
                  refine g_icmp_ne (tgt := 606) X dL_acts_598 (by decide) (fun c_598 => ?_) (fun c_598 => ?_)
                  · refine g_iload X 0 dL_acts_606 rfl ?_
                    exact g_iretv (r := (e (32 + ((8 * (lwN (x >>> ((nI 3) &&& 31)) 2)) + (lwN (x >>> ((nI 4) &&& 31)) 9))))) X hx rfl (by simp [aV, c_69, f_c_69, fn_c_69, c_180, f_c_180, c_185, f_c_185, c_337, f_c_337, c_441, f_c_441, c_524, f_c_524, c_536, f_c_536, fn_c_536, c_543, f_c_543, fn_c_543, c_598]) (by simp [aD, aE, jnE, ctE, c_69, f_c_69, fn_c_69, c_180, f_c_180, c_185, f_c_185, c_337, f_c_337, c_441, f_c_441, c_524, f_c_524, c_536, f_c_536, fn_c_536, c_543, f_c_543, fn_c_543, c_598]) dL_acts_608
                  · refine g_bipush (v := (-2)) X dL_acts_601 rfl ?_
                    refine g_goto (tgt := 608) X dL_acts_603 (by decide) ?_
                    exact g_iretv (r := (-2)) X hx rfl (by simp [aV, c_69, f_c_69, fn_c_69, c_180, f_c_180, c_185, f_c_185, c_337, f_c_337, c_441, f_c_441, c_524, f_c_524, c_536, f_c_536, fn_c_536, c_543, f_c_543, fn_c_543, c_598]) (by simp [aD, aE, jnE, ctE, c_69, f_c_69, fn_c_69, c_180, f_c_180, c_185, f_c_185, c_337, f_c_337, c_441, f_c_441, c_524, f_c_524, c_536, f_c_536, fn_c_536, c_543, f_c_543, fn_c_543, c_598]) dL_acts_608
                · have f_c_543 : 9 < lwN (x >>> ((nI 12) &&& 31)) 11 := n_nle (by omega) (by omega) c_543
                  have fn_c_543 := Nat.not_le.mpr f_c_543
                  refine g_iconst (v := (nI 1)) X dL_acts_546 rfl ?_
                  refine g_goto (tgt := 551) X dL_acts_547 (by decide) ?_
                  refine g_istore (lv' := [(10, .int (nI 1)), (9, .int (nI ((8 * (lwN (x >>> ((nI 3) &&& 31)) 2)) + (lwN (x >>> ((nI 4) &&& 31)) 9)))), (8, .int (nI (mmV v (lwN (x >>> ((nI 3) &&& 31)) 2)))), (7, .int (nI (lwN (x >>> ((nI 12) &&& 31)) 11))), (6, .int (nI (lwN (x >>> ((nI 8) &&& 31)) 9))), (5, .int (nI (lwN (x >>> ((nI 4) &&& 31)) 9))), (4, .int (nI (lwN (x >>> ((nI 3) &&& 31)) 2))), (3, .int (nI (lwN x 8))), (0, .ref ad), (1, .ref ae), (2, .int x)]) X dL_acts_551 (by decide) rfl ?_
                  refine g_iload X 0 dL_acts_553 rfl ?_
                  refine g_if_eq (tgt := 562) X dL_acts_555 (by decide) (fun c_555 => absurd c_555 (by decide)) (fun c_555 => ?_)
                  refine g_iconst (v := (nI 0)) X dL_acts_558 rfl ?_
                  refine g_goto (tgt := 569) X dL_acts_559 (by decide) ?_
                  refine g_istore (lv' := [(11, .int (nI 0)), (10, .int (nI 1)), (9, .int (nI ((8 * (lwN (x >>> ((nI 3) &&& 31)) 2)) + (lwN (x >>> ((nI 4) &&& 31)) 9)))), (8, .int (nI (mmV v (lwN (x >>> ((nI 3) &&& 31)) 2)))), (7, .int (nI (lwN (x >>> ((nI 12) &&& 31)) 11))), (6, .int (nI (lwN (x >>> ((nI 8) &&& 31)) 9))), (5, .int (nI (lwN (x >>> ((nI 4) &&& 31)) 9))), (4, .int (nI (lwN (x >>> ((nI 3) &&& 31)) 2))), (3, .int (nI (lwN x 8))), (0, .ref ad), (1, .ref ae), (2, .int x)]) X dL_acts_569 (by decide) rfl ?_
                  refine g_iload X 1 dL_acts_571 rfl ?_
                  refine g_if_ne (tgt := 585) X dL_acts_573 (by decide) (fun c_573 => ?_) (fun c_573 => absurd c_573 (by decide))
                  refine g_iload X 1 dL_acts_585 rfl ?_
                  refine g_if_eq (tgt := 594) X dL_acts_587 (by decide) (fun c_587 => absurd c_587 (by decide)) (fun c_587 => ?_)
                  refine g_iconst (v := (-1)) X dL_acts_590 rfl ?_
                  refine g_goto (tgt := 608) X dL_acts_591 (by decide) ?_
                  exact g_iretv (r := (-1)) X hx rfl (by simp [aV, c_69, f_c_69, fn_c_69, c_180, f_c_180, c_185, f_c_185, c_337, f_c_337, c_441, f_c_441, c_524, f_c_524, c_536, f_c_536, fn_c_536, c_543, f_c_543, fn_c_543]) (by simp [aD, aE, jnE, ctE, c_69, f_c_69, fn_c_69, c_180, f_c_180, c_185, f_c_185, c_337, f_c_337, c_441, f_c_441, c_524, f_c_524, c_536, f_c_536, fn_c_536, c_543, f_c_543, fn_c_543]) dL_acts_608
          · have f_c_441 : lwN x 8 = 2 := n_eq (by omega) (by omega) c_441
            refine g_iload_n X 9 dL_acts_444 rfl ?_
            refine g_bipush (v := (nI 8)) X dL_acts_445 rfl ?_
            refine g_ishr X dL_acts_447 ?_
            refine g_iconst (v := (nI 5)) X dL_acts_448 rfl ?_
            refine g_callSP (st2 := [.int (nI (lwN (x >>> ((nI 8) &&& 31)) 5))]) (ws' := [wAr E ad 48 d, wAr E ae 54 e].flatten) (wr := [wAr E ad 48 d, wAr E ae 54 e].flatten) X (c_L_low E (x >>> ((nI 8) &&& 31)) 5 (by decide) (by decide)) cs_L_25 rfl (List.Perm.refl _) rfl (List.Perm.refl _) rfl rfl (Nat.le_of_ble_eq_true rfl) dL_acts_449 rfl ?_
            refine g_istore (lv' := [(10, .int (nI (lwN (x >>> ((nI 8) &&& 31)) 5))), (9, .int (nI ((8 * (lwN (x >>> ((nI 3) &&& 31)) 2)) + (lwN (x >>> ((nI 4) &&& 31)) 9)))), (8, .int (nI (mmV v (lwN (x >>> ((nI 3) &&& 31)) 2)))), (7, .int (nI (lwN (x >>> ((nI 12) &&& 31)) 11))), (6, .int (nI (lwN (x >>> ((nI 8) &&& 31)) 9))), (5, .int (nI (lwN (x >>> ((nI 4) &&& 31)) 9))), (4, .int (nI (lwN (x >>> ((nI 3) &&& 31)) 2))), (3, .int (nI (lwN x 8))), (0, .ref ad), (1, .ref ae), (2, .int x)]) X dL_acts_452 (by decide) rfl ?_
            refine g_iload X 5 dL_acts_454 rfl ?_
            refine g_iload X 2 dL_acts_456 rfl ?_
            refine g_icmp_ge (tgt := 468) X dL_acts_458 (by decide) (fun c_458 => ?_) (fun c_458 => ?_)
            · have f_c_458 : mmV v (lwN (x >>> ((nI 3) &&& 31)) 2) ≤ lwN (x >>> ((nI 4) &&& 31)) 9 := n_le (by omega) (by omega) c_458
              have fn_c_458 := Nat.not_lt.mpr f_c_458
              refine g_iconst (v := (nI 0)) X dL_acts_468 rfl ?_
              refine g_istore (lv' := [(11, .int (nI 0)), (10, .int (nI (lwN (x >>> ((nI 8) &&& 31)) 5))), (9, .int (nI ((8 * (lwN (x >>> ((nI 3) &&& 31)) 2)) + (lwN (x >>> ((nI 4) &&& 31)) 9)))), (8, .int (nI (mmV v (lwN (x >>> ((nI 3) &&& 31)) 2)))), (7, .int (nI (lwN (x >>> ((nI 12) &&& 31)) 11))), (6, .int (nI (lwN (x >>> ((nI 8) &&& 31)) 9))), (5, .int (nI (lwN (x >>> ((nI 4) &&& 31)) 9))), (4, .int (nI (lwN (x >>> ((nI 3) &&& 31)) 2))), (3, .int (nI (lwN x 8))), (0, .ref ad), (1, .ref ae), (2, .int x)]) X dL_acts_469 (by decide) rfl ?_
              refine g_iload X 6 dL_acts_471 rfl ?_
              refine g_iload X 3 dL_acts_473 rfl ?_
              refine g_icmp_ge (tgt := 490) X dL_acts_475 (by decide) (fun c_475 => ?_) (fun c_475 => absurd c_458 c_475)
              refine g_iload X 6 dL_acts_490 rfl ?_
              refine g_iload X 3 dL_acts_492 rfl ?_
              refine g_icmp_ge (tgt := 503) X dL_acts_494 (by decide) (fun c_494 => ?_) (fun c_494 => absurd c_458 c_494)
              refine g_iconst (v := (-1)) X dL_acts_503 rfl ?_
              refine g_goto (tgt := 521) X dL_acts_504 (by decide) ?_
              exact g_iretv (r := (-1)) X hx rfl (by simp [aV, c_69, f_c_69, fn_c_69, c_180, f_c_180, c_185, f_c_185, c_337, f_c_337, c_441, f_c_441, c_458, f_c_458, fn_c_458]) (by simp [aD, aE, jnE, ctE, c_69, f_c_69, fn_c_69, c_180, f_c_180, c_185, f_c_185, c_337, f_c_337, c_441, f_c_441, c_458, f_c_458, fn_c_458]) dL_acts_521
            · have f_c_458 : lwN (x >>> ((nI 4) &&& 31)) 9 < mmV v (lwN (x >>> ((nI 3) &&& 31)) 2) := n_nle (by omega) (by omega) c_458
              have fn_c_458 := Nat.not_le.mpr f_c_458
              refine g_aload_n X 8 dL_acts_461 rfl ?_
              refine g_iload X 1 dL_acts_462 rfl ?_
              refine g_iald X 0 rfl ((8 * (lwN (x >>> ((nI 3) &&& 31)) 2)) + (lwN (x >>> ((nI 4) &&& 31)) 9)) (ix_nI (by omega) (by decide)) dL_acts_464 ?_
              refine g_goto (tgt := 469) X dL_acts_465 (by decide) ?_
              refine g_istore (lv' := [(11, .int (d ((8 * (lwN (x >>> ((nI 3) &&& 31)) 2)) + (lwN (x >>> ((nI 4) &&& 31)) 9)))), (10, .int (nI (lwN (x >>> ((nI 8) &&& 31)) 5))), (9, .int (nI ((8 * (lwN (x >>> ((nI 3) &&& 31)) 2)) + (lwN (x >>> ((nI 4) &&& 31)) 9)))), (8, .int (nI (mmV v (lwN (x >>> ((nI 3) &&& 31)) 2)))), (7, .int (nI (lwN (x >>> ((nI 12) &&& 31)) 11))), (6, .int (nI (lwN (x >>> ((nI 8) &&& 31)) 9))), (5, .int (nI (lwN (x >>> ((nI 4) &&& 31)) 9))), (4, .int (nI (lwN (x >>> ((nI 3) &&& 31)) 2))), (3, .int (nI (lwN x 8))), (0, .ref ad), (1, .ref ae), (2, .int x)]) X dL_acts_469 (by decide) rfl ?_
              refine g_iload X 6 dL_acts_471 rfl ?_
              refine g_iload X 3 dL_acts_473 rfl ?_
              refine g_icmp_ge (tgt := 490) X dL_acts_475 (by decide) (fun c_475 => absurd c_475 c_458) (fun c_475 => ?_)
              refine g_iload X 1 dL_acts_478 rfl ?_
              refine g_iconst (v := (nI 4)) X dL_acts_480 rfl ?_
              refine g_icmp_ge (tgt := 490) X dL_acts_481 (by decide) (fun c_481 => ?_) (fun c_481 => ?_)
              · have f_c_481 : 4 ≤ lwN (x >>> ((nI 8) &&& 31)) 5 := n_le (by omega) (by omega) c_481
                have fn_c_481 := Nat.not_lt.mpr f_c_481
                refine g_iload X 6 dL_acts_490 rfl ?_
                refine g_iload X 3 dL_acts_492 rfl ?_
                refine g_icmp_ge (tgt := 503) X dL_acts_494 (by decide) (fun c_494 => absurd c_494 c_458) (fun c_494 => ?_)
                refine g_iload X 1 dL_acts_497 rfl ?_
                refine g_iconst (v := (nI 3)) X dL_acts_499 rfl ?_
                refine g_icmp_le (tgt := 507) X dL_acts_500 (by decide) (fun c_500 => absurd (n_le (by omega) (by omega) c_500) (by omega)) (fun c_500 => ?_)
                refine g_iconst (v := (-1)) X dL_acts_503 rfl ?_
                refine g_goto (tgt := 521) X dL_acts_504 (by decide) ?_
                exact g_iretv (r := (-1)) X hx rfl (by simp [aV, c_69, f_c_69, fn_c_69, c_180, f_c_180, c_185, f_c_185, c_337, f_c_337, c_441, f_c_441, c_458, f_c_458, fn_c_458, c_481, f_c_481, fn_c_481, show ¬ lwN (x >>> (nI 8 &&& 31)) 5 ≤ 3 by omega, show ¬ lwN (x >>> (nI 8 &&& 31)) 5 < 4 by omega]) (by simp [aD, aE, jnE, ctE, c_69, f_c_69, fn_c_69, c_180, f_c_180, c_185, f_c_185, c_337, f_c_337, c_441, f_c_441, c_458, f_c_458, fn_c_458, c_481, f_c_481, fn_c_481, show ¬ lwN (x >>> (nI 8 &&& 31)) 5 ≤ 3 by omega, show ¬ lwN (x >>> (nI 8 &&& 31)) 5 < 4 by omega]) dL_acts_521
              · have f_c_481 : lwN (x >>> ((nI 8) &&& 31)) 5 < 4 := n_nle (by omega) (by omega) c_481
                have fn_c_481 := Nat.not_le.mpr f_c_481
                refine g_aload_n X 9 dL_acts_484 rfl ?_
                refine g_iload X 2 dL_acts_485 rfl ?_
                refine g_iload X 1 dL_acts_487 rfl ?_
                refine g_iast (ws' := [wAr E ad 48 (upd d ((8 * (lwN (x >>> ((nI 3) &&& 31)) 2)) + (lwN (x >>> ((nI 4) &&& 31)) 9)) (nI (lwN (x >>> ((nI 8) &&& 31)) 5))), wAr E ae 54 e].flatten) X 0 rfl ((8 * (lwN (x >>> ((nI 3) &&& 31)) 2)) + (lwN (x >>> ((nI 4) &&& 31)) 9)) (ix_nI (by omega) (by decide)) rfl dL_acts_489 ?_
                refine g_iload X 6 dL_acts_490 rfl ?_
                refine g_iload X 3 dL_acts_492 rfl ?_
                refine g_icmp_ge (tgt := 503) X dL_acts_494 (by decide) (fun c_494 => absurd c_494 c_458) (fun c_494 => ?_)
                refine g_iload X 1 dL_acts_497 rfl ?_
                refine g_iconst (v := (nI 3)) X dL_acts_499 rfl ?_
                refine g_icmp_le (tgt := 507) X dL_acts_500 (by decide) (fun c_500 => ?_) (fun c_500 => absurd (n_nle (by omega) (by omega) c_500) (by omega))
                refine g_iload X 0 dL_acts_507 rfl ?_
                refine g_iload X 1 dL_acts_509 rfl ?_
                refine g_icmp_ne (tgt := 519) X dL_acts_511 (by decide) (fun c_511 => ?_) (fun c_511 => ?_)
                · refine g_iload X 0 dL_acts_519 rfl ?_
                  exact g_iretv (r := (d ((8 * (lwN (x >>> ((nI 3) &&& 31)) 2)) + (lwN (x >>> ((nI 4) &&& 31)) 9)))) X hx rfl (by simp [aV, c_69, f_c_69, fn_c_69, c_180, f_c_180, c_185, f_c_185, c_337, f_c_337, c_441, f_c_441, c_458, f_c_458, fn_c_458, c_481, f_c_481, fn_c_481, c_511, show lwN (x >>> (nI 8 &&& 31)) 5 ≤ 3 by omega]) (by simp [aD, aE, jnE, ctE, c_69, f_c_69, fn_c_69, c_180, f_c_180, c_185, f_c_185, c_337, f_c_337, c_441, f_c_441, c_458, f_c_458, fn_c_458, c_481, f_c_481, fn_c_481, c_511, show lwN (x >>> (nI 8 &&& 31)) 5 ≤ 3 by omega]) dL_acts_521
                · refine g_bipush (v := (-2)) X dL_acts_514 rfl ?_
                  refine g_goto (tgt := 521) X dL_acts_516 (by decide) ?_
                  exact g_iretv (r := (-2)) X hx rfl (by simp [aV, c_69, f_c_69, fn_c_69, c_180, f_c_180, c_185, f_c_185, c_337, f_c_337, c_441, f_c_441, c_458, f_c_458, fn_c_458, c_481, f_c_481, fn_c_481, c_511, show lwN (x >>> (nI 8 &&& 31)) 5 ≤ 3 by omega]) (by simp [aD, aE, jnE, ctE, c_69, f_c_69, fn_c_69, c_180, f_c_180, c_185, f_c_185, c_337, f_c_337, c_441, f_c_441, c_458, f_c_458, fn_c_458, c_481, f_c_481, fn_c_481, c_511, show lwN (x >>> (nI 8 &&& 31)) 5 ≤ 3 by omega]) dL_acts_521
        · have f_c_337 : lwN x 8 = 6 := n_eq (by omega) (by omega) c_337
          refine g_iload X 4 dL_acts_340 rfl ?_
          refine g_aload_n X 8 dL_acts_342 rfl ?_
          refine g_bipush (v := (nI 50)) X dL_acts_343 rfl ?_
          refine g_iload X 5 dL_acts_345 rfl ?_
          refine g_iaddN X dL_acts_347 ?_
          refine g_iald X 1 rfl (50 + (lwN (x >>> ((nI 3) &&& 31)) 2)) (ix_nI (by omega) (by decide)) dL_acts_348 ?_
          rw [(hd.2.1 _ l2).2]
          refine g_icmp_lt (tgt := 354) X dL_acts_349 (by decide) (fun c_349 => ?_) (fun c_349 => ?_)
          · have f_c_349 : lwN (x >>> ((nI 4) &&& 31)) 9 < ssV v (lwN (x >>> ((nI 3) &&& 31)) 2) := n_lt (by omega) (by omega) c_349
            have fn_c_349 := Nat.not_le.mpr f_c_349
            refine g_aload_n X 8 dL_acts_354 rfl ?_
            refine g_bipush (v := (nI 50)) X dL_acts_355 rfl ?_
            refine g_iload X 5 dL_acts_357 rfl ?_
            refine g_iaddN X dL_acts_359 ?_
            refine g_dup2 X dL_acts_360 rfl rfl ?_
            refine g_iald X 1 rfl (50 + (lwN (x >>> ((nI 3) &&& 31)) 2)) (ix_nI (by omega) (by decide)) dL_acts_361 ?_
            rw [(hd.2.1 _ l2).2]
            refine g_iconst (v := (nI 1)) X dL_acts_362 rfl ?_
            refine g_isubN X (by omega) dL_acts_363 ?_
            refine g_iast (ws' := [wAr E ad 48 d, wAr E ae 54 (upd e (50 + (lwN (x >>> ((nI 3) &&& 31)) 2)) (nI ((ssV v (lwN (x >>> ((nI 3) &&& 31)) 2)) - 1)))].flatten) X 1 rfl (50 + (lwN (x >>> ((nI 3) &&& 31)) 2)) (ix_nI (by omega) (by decide)) rfl dL_acts_364 ?_
            refine g_iload X 0 dL_acts_365 rfl ?_
            refine g_istore (lv' := [(10, .int (nI ((8 * (lwN (x >>> ((nI 3) &&& 31)) 2)) + (lwN (x >>> ((nI 4) &&& 31)) 9)))), (9, .int (nI ((8 * (lwN (x >>> ((nI 3) &&& 31)) 2)) + (lwN (x >>> ((nI 4) &&& 31)) 9)))), (8, .int (nI (mmV v (lwN (x >>> ((nI 3) &&& 31)) 2)))), (7, .int (nI (lwN (x >>> ((nI 12) &&& 31)) 11))), (6, .int (nI (lwN (x >>> ((nI 8) &&& 31)) 9))), (5, .int (nI (lwN (x >>> ((nI 4) &&& 31)) 9))), (4, .int (nI (lwN (x >>> ((nI 3) &&& 31)) 2))), (3, .int (nI (lwN x 8))), (0, .ref ad), (1, .ref ae), (2, .int x)]) X dL_acts_367 (by decide) rfl ?_
            have L_369 : ∀ (n_369 : Nat) (k : Nat) (hk1 : 8 * lwN (x >>> ((nI 3) &&& 31)) 2 + lwN (x >>> ((nI 4) &&& 31)) 9 ≤ k) (hk2 : k ≤ 8 * lwN (x >>> ((nI 3) &&& 31)) 2 + (ssV v (lwN (x >>> ((nI 3) &&& 31)) 2) - 1)) (hm_369 : 8 * lwN (x >>> ((nI 3) &&& 31)) 2 + (ssV v (lwN (x >>> ((nI 3) &&& 31)) 2) - 1) - k < n_369) (x_10 : Int32) (ex_10 : x_10 = (nI k)) (u_0 : Nat → Int32) (eu_0 : u_0 = cuE (upd e (50 + lwN (x >>> ((nI 3) &&& 31)) 2) (nI (ssV v (lwN (x >>> ((nI 3) &&& 31)) 2) - 1))) (8 * lwN (x >>> ((nI 3) &&& 31)) 2 + lwN (x >>> ((nI 4) &&& 31)) 9) k), GG E m_L_acts Γ 0 0 ([wAr E ad 48 d, wAr E ae 54 u_0].flatten) [(0, .ref ad), (1, .ref ae), (4, .int (nI (lwN (x >>> ((nI 3) &&& 31)) 2))), (9, .int (nI ((8 * (lwN (x >>> ((nI 3) &&& 31)) 2)) + (lwN (x >>> ((nI 4) &&& 31)) 9)))), (10, .int x_10)] 369 [] := by
              intro n_369
              induction n_369 with
              | zero => intro k hk1 hk2 hm_369; exact absurd hm_369 (Nat.not_lt_zero _)
              | succ n_369 ih_369 =>
                intro k hk1 hk2 hm_369 x_10 ex_10 u_0 eu_0
                subst ex_10
                subst eu_0
                refine g_iload X 4 dL_acts_369 rfl ?_
                refine g_bipush (v := (nI 8)) X dL_acts_371 rfl ?_
                refine g_iload X 2 dL_acts_373 rfl ?_
                refine g_imulN X dL_acts_375 ?_
                refine g_aload_n X 1 dL_acts_376 rfl ?_
                refine g_bipush (v := (nI 50)) X dL_acts_377 rfl ?_
                refine g_iload X 2 dL_acts_379 rfl ?_
                refine g_iaddN X dL_acts_381 ?_
                refine g_iald X 1 rfl (50 + (lwN (x >>> ((nI 3) &&& 31)) 2)) (ix_nI (by omega) (by decide)) dL_acts_382 ?_
                rw [cuE_far _ (by omega) (by omega), upd_s]
                refine g_iaddN X dL_acts_383 ?_
                refine g_icmp_ge (tgt := 431) X dL_acts_384 (by decide) (fun c_384 => ?_) (fun c_384 => ?_)
                · have f_c_384 : (8 * (lwN (x >>> ((nI 3) &&& 31)) 2)) + (ssV v (lwN (x >>> ((nI 3) &&& 31)) 2) - 1) ≤ k := n_le (by omega) (by omega) c_384
                  have fn_c_384 := Nat.not_lt.mpr f_c_384
                  refine g_aload_n X 1 dL_acts_431 rfl ?_
                  refine g_bipush (v := (nI 50)) X dL_acts_432 rfl ?_
                  refine g_iload X 2 dL_acts_434 rfl ?_
                  refine g_iaddN X dL_acts_436 ?_
                  refine g_iald X 1 rfl (50 + (lwN (x >>> ((nI 3) &&& 31)) 2)) (ix_nI (by omega) (by decide)) dL_acts_437 ?_
                  rw [cuE_far _ (by omega) (by omega), upd_s]
                  exact g_iretv (r := (nI (ssV v (lwN (x >>> ((nI 3) &&& 31)) 2) - 1))) X hx rfl (by simp [aV, c_69, f_c_69, fn_c_69, c_180, f_c_180, c_185, f_c_185, c_337, f_c_337, c_349, f_c_349, fn_c_349, c_384, f_c_384, fn_c_384]) (by obtain rfl : k = 8 * lwN (x >>> ((nI 3) &&& 31)) 2 + (ssV v (lwN (x >>> ((nI 3) &&& 31)) 2) - 1) := (by omega); simp [aD, aE, jnE, ctE, c_69, f_c_69, fn_c_69, c_180, f_c_180, c_185, f_c_185, c_337, f_c_337, c_349, f_c_349, fn_c_349, c_384, f_c_384, fn_c_384]) dL_acts_438
                · have f_c_384 : k < (8 * (lwN (x >>> ((nI 3) &&& 31)) 2)) + (ssV v (lwN (x >>> ((nI 3) &&& 31)) 2) - 1) := n_nle (by omega) (by omega) c_384
                  have fn_c_384 := Nat.not_le.mpr f_c_384
                  refine g_aload_n X 1 dL_acts_387 rfl ?_
                  refine g_iload X 4 dL_acts_388 rfl ?_
                  refine g_aload_n X 1 dL_acts_390 rfl ?_
                  refine g_iload X 4 dL_acts_391 rfl ?_
                  refine g_iconst (v := (nI 1)) X dL_acts_393 rfl ?_
                  refine g_iaddN X dL_acts_394 ?_
                  refine g_iald X 1 rfl (k + 1) (ix_nI (by omega) (by decide)) dL_acts_395 ?_
                  refine g_iast (ws' := [wAr E ad 48 d, wAr E ae 54 (upd (cuE (upd e (50 + lwN (x >>> ((nI 3) &&& 31)) 2) (nI (ssV v (lwN (x >>> ((nI 3) &&& 31)) 2) - 1))) (8 * lwN (x >>> ((nI 3) &&& 31)) 2 + lwN (x >>> ((nI 4) &&& 31)) 9) k) k ((cuE (upd e (50 + lwN (x >>> ((nI 3) &&& 31)) 2) (nI (ssV v (lwN (x >>> ((nI 3) &&& 31)) 2) - 1))) (8 * lwN (x >>> ((nI 3) &&& 31)) 2 + lwN (x >>> ((nI 4) &&& 31)) 9) k) (k + 1)))].flatten) X 1 rfl k (ix_nI (by omega) (by decide)) rfl dL_acts_396 ?_
                  refine g_aload_n X 1 dL_acts_397 rfl ?_
                  refine g_bipush (v := (nI 16)) X dL_acts_398 rfl ?_
                  refine g_iload X 4 dL_acts_400 rfl ?_
                  refine g_iaddN X dL_acts_402 ?_
                  refine g_aload_n X 1 dL_acts_403 rfl ?_
                  refine g_bipush (v := (nI 17)) X dL_acts_404 rfl ?_
                  refine g_iload X 4 dL_acts_406 rfl ?_
                  refine g_iaddN X dL_acts_408 ?_
                  refine g_iald X 1 rfl (17 + k) (ix_nI (by omega) (by decide)) dL_acts_409 ?_
                  refine g_iast (ws' := [wAr E ad 48 d, wAr E ae 54 (upd (upd (cuE (upd e (50 + lwN (x >>> ((nI 3) &&& 31)) 2) (nI (ssV v (lwN (x >>> ((nI 3) &&& 31)) 2) - 1))) (8 * lwN (x >>> ((nI 3) &&& 31)) 2 + lwN (x >>> ((nI 4) &&& 31)) 9) k) k ((cuE (upd e (50 + lwN (x >>> ((nI 3) &&& 31)) 2) (nI (ssV v (lwN (x >>> ((nI 3) &&& 31)) 2) - 1))) (8 * lwN (x >>> ((nI 3) &&& 31)) 2 + lwN (x >>> ((nI 4) &&& 31)) 9) k) (k + 1))) (16 + k) ((upd (cuE (upd e (50 + lwN (x >>> ((nI 3) &&& 31)) 2) (nI (ssV v (lwN (x >>> ((nI 3) &&& 31)) 2) - 1))) (8 * lwN (x >>> ((nI 3) &&& 31)) 2 + lwN (x >>> ((nI 4) &&& 31)) 9) k) k ((cuE (upd e (50 + lwN (x >>> ((nI 3) &&& 31)) 2) (nI (ssV v (lwN (x >>> ((nI 3) &&& 31)) 2) - 1))) (8 * lwN (x >>> ((nI 3) &&& 31)) 2 + lwN (x >>> ((nI 4) &&& 31)) 9) k) (k + 1))) (17 + k)))].flatten) X 1 rfl (16 + k) (ix_nI (by omega) (by decide)) rfl dL_acts_410 ?_
                  refine g_aload_n X 1 dL_acts_411 rfl ?_
                  refine g_bipush (v := (nI 32)) X dL_acts_412 rfl ?_
                  refine g_iload X 4 dL_acts_414 rfl ?_
                  refine g_iaddN X dL_acts_416 ?_
                  refine g_aload_n X 1 dL_acts_417 rfl ?_
                  refine g_bipush (v := (nI 33)) X dL_acts_418 rfl ?_
                  refine g_iload X 4 dL_acts_420 rfl ?_
                  refine g_iaddN X dL_acts_422 ?_
                  refine g_iald X 1 rfl (33 + k) (ix_nI (by omega) (by decide)) dL_acts_423 ?_
                  refine g_iast (ws' := [wAr E ad 48 d, wAr E ae 54 (upd (upd (upd (cuE (upd e (50 + lwN (x >>> ((nI 3) &&& 31)) 2) (nI (ssV v (lwN (x >>> ((nI 3) &&& 31)) 2) - 1))) (8 * lwN (x >>> ((nI 3) &&& 31)) 2 + lwN (x >>> ((nI 4) &&& 31)) 9) k) k ((cuE (upd e (50 + lwN (x >>> ((nI 3) &&& 31)) 2) (nI (ssV v (lwN (x >>> ((nI 3) &&& 31)) 2) - 1))) (8 * lwN (x >>> ((nI 3) &&& 31)) 2 + lwN (x >>> ((nI 4) &&& 31)) 9) k) (k + 1))) (16 + k) ((upd (cuE (upd e (50 + lwN (x >>> ((nI 3) &&& 31)) 2) (nI (ssV v (lwN (x >>> ((nI 3) &&& 31)) 2) - 1))) (8 * lwN (x >>> ((nI 3) &&& 31)) 2 + lwN (x >>> ((nI 4) &&& 31)) 9) k) k ((cuE (upd e (50 + lwN (x >>> ((nI 3) &&& 31)) 2) (nI (ssV v (lwN (x >>> ((nI 3) &&& 31)) 2) - 1))) (8 * lwN (x >>> ((nI 3) &&& 31)) 2 + lwN (x >>> ((nI 4) &&& 31)) 9) k) (k + 1))) (17 + k))) (32 + k) ((upd (upd (cuE (upd e (50 + lwN (x >>> ((nI 3) &&& 31)) 2) (nI (ssV v (lwN (x >>> ((nI 3) &&& 31)) 2) - 1))) (8 * lwN (x >>> ((nI 3) &&& 31)) 2 + lwN (x >>> ((nI 4) &&& 31)) 9) k) k ((cuE (upd e (50 + lwN (x >>> ((nI 3) &&& 31)) 2) (nI (ssV v (lwN (x >>> ((nI 3) &&& 31)) 2) - 1))) (8 * lwN (x >>> ((nI 3) &&& 31)) 2 + lwN (x >>> ((nI 4) &&& 31)) 9) k) (k + 1))) (16 + k) ((upd (cuE (upd e (50 + lwN (x >>> ((nI 3) &&& 31)) 2) (nI (ssV v (lwN (x >>> ((nI 3) &&& 31)) 2) - 1))) (8 * lwN (x >>> ((nI 3) &&& 31)) 2 + lwN (x >>> ((nI 4) &&& 31)) 9) k) k ((cuE (upd e (50 + lwN (x >>> ((nI 3) &&& 31)) 2) (nI (ssV v (lwN (x >>> ((nI 3) &&& 31)) 2) - 1))) (8 * lwN (x >>> ((nI 3) &&& 31)) 2 + lwN (x >>> ((nI 4) &&& 31)) 9) k) (k + 1))) (17 + k))) (33 + k)))].flatten) X 1 rfl (32 + k) (ix_nI (by omega) (by decide)) rfl dL_acts_424 ?_
                  refine g_iincN (lv' := [(10, .int (nI (k + 1))), (0, .ref ad), (1, .ref ae), (4, .int (nI (lwN (x >>> ((nI 3) &&& 31)) 2))), (9, .int (nI ((8 * (lwN (x >>> ((nI 3) &&& 31)) 2)) + (lwN (x >>> ((nI 4) &&& 31)) 9))))]) X 4 dL_acts_425 rfl (by decide) rfl ?_
                  refine g_goto (tgt := 369) X dL_acts_428 (by decide) ?_
                  refine GG.lv [1, 2, 3, 4, 0] rfl ?_
                  exact ih_369 (k + 1) (by omega) (by omega) (by omega) (nI (k + 1)) (by rfl) (upd (upd (upd (cuE (upd e (50 + lwN (x >>> ((nI 3) &&& 31)) 2) (nI (ssV v (lwN (x >>> ((nI 3) &&& 31)) 2) - 1))) (8 * lwN (x >>> ((nI 3) &&& 31)) 2 + lwN (x >>> ((nI 4) &&& 31)) 9) k) k ((cuE (upd e (50 + lwN (x >>> ((nI 3) &&& 31)) 2) (nI (ssV v (lwN (x >>> ((nI 3) &&& 31)) 2) - 1))) (8 * lwN (x >>> ((nI 3) &&& 31)) 2 + lwN (x >>> ((nI 4) &&& 31)) 9) k) (k + 1))) (16 + k) ((upd (cuE (upd e (50 + lwN (x >>> ((nI 3) &&& 31)) 2) (nI (ssV v (lwN (x >>> ((nI 3) &&& 31)) 2) - 1))) (8 * lwN (x >>> ((nI 3) &&& 31)) 2 + lwN (x >>> ((nI 4) &&& 31)) 9) k) k ((cuE (upd e (50 + lwN (x >>> ((nI 3) &&& 31)) 2) (nI (ssV v (lwN (x >>> ((nI 3) &&& 31)) 2) - 1))) (8 * lwN (x >>> ((nI 3) &&& 31)) 2 + lwN (x >>> ((nI 4) &&& 31)) 9) k) (k + 1))) (17 + k))) (32 + k) ((upd (upd (cuE (upd e (50 + lwN (x >>> ((nI 3) &&& 31)) 2) (nI (ssV v (lwN (x >>> ((nI 3) &&& 31)) 2) - 1))) (8 * lwN (x >>> ((nI 3) &&& 31)) 2 + lwN (x >>> ((nI 4) &&& 31)) 9) k) k ((cuE (upd e (50 + lwN (x >>> ((nI 3) &&& 31)) 2) (nI (ssV v (lwN (x >>> ((nI 3) &&& 31)) 2) - 1))) (8 * lwN (x >>> ((nI 3) &&& 31)) 2 + lwN (x >>> ((nI 4) &&& 31)) 9) k) (k + 1))) (16 + k) ((upd (cuE (upd e (50 + lwN (x >>> ((nI 3) &&& 31)) 2) (nI (ssV v (lwN (x >>> ((nI 3) &&& 31)) 2) - 1))) (8 * lwN (x >>> ((nI 3) &&& 31)) 2 + lwN (x >>> ((nI 4) &&& 31)) 9) k) k ((cuE (upd e (50 + lwN (x >>> ((nI 3) &&& 31)) 2) (nI (ssV v (lwN (x >>> ((nI 3) &&& 31)) 2) - 1))) (8 * lwN (x >>> ((nI 3) &&& 31)) 2 + lwN (x >>> ((nI 4) &&& 31)) 9) k) (k + 1))) (17 + k))) (33 + k))) (by exact cuE_s _ (by omega) (by omega))
            refine GG.lv [8, 9, 6, 1, 0] rfl ?_
            exact L_369 (8 * lwN (x >>> ((nI 3) &&& 31)) 2 + (ssV v (lwN (x >>> ((nI 3) &&& 31)) 2) - 1) - (8 * lwN (x >>> ((nI 3) &&& 31)) 2 + lwN (x >>> ((nI 4) &&& 31)) 9) + 1) (8 * lwN (x >>> ((nI 3) &&& 31)) 2 + lwN (x >>> ((nI 4) &&& 31)) 9) (by omega) (by omega) (by omega) (nI ((8 * (lwN (x >>> ((nI 3) &&& 31)) 2)) + (lwN (x >>> ((nI 4) &&& 31)) 9))) (by rfl) (upd e (50 + (lwN (x >>> ((nI 3) &&& 31)) 2)) (nI ((ssV v (lwN (x >>> ((nI 3) &&& 31)) 2)) - 1))) (by exact (cuE_0 _ _).symm)
          · have f_c_349 : ssV v (lwN (x >>> ((nI 3) &&& 31)) 2) ≤ lwN (x >>> ((nI 4) &&& 31)) 9 := n_nlt (by omega) (by omega) c_349
            have fn_c_349 := Nat.not_lt.mpr f_c_349
            refine g_iconst (v := (-1)) X dL_acts_352 rfl ?_
            exact g_iretv (r := (-1)) X hx rfl (by simp [aV, c_69, f_c_69, fn_c_69, c_180, f_c_180, c_185, f_c_185, c_337, f_c_337, c_349, f_c_349, fn_c_349]) (by simp [aD, aE, jnE, ctE, c_69, f_c_69, fn_c_69, c_180, f_c_180, c_185, f_c_185, c_337, f_c_337, c_349, f_c_349, fn_c_349]) dL_acts_353
      · have f_c_185 : lwN x 8 = 5 := n_eq (by omega) (by omega) c_185
        refine g_iload X 4 dL_acts_188 rfl ?_
        refine g_iload X 1 dL_acts_190 rfl ?_
        refine g_icmp_ge (tgt := 216) X dL_acts_192 (by decide) (fun c_192 => ?_) (fun c_192 => ?_)
        · have f_c_192 : mmV v (lwN (x >>> ((nI 3) &&& 31)) 2) ≤ lwN (x >>> ((nI 4) &&& 31)) 9 := n_le (by omega) (by omega) c_192
          have fn_c_192 := Nat.not_lt.mpr f_c_192
          refine g_iconst (v := (-1)) X dL_acts_216 rfl ?_
          exact g_iretv (r := (-1)) X hx rfl (by simp [aV, c_69, f_c_69, fn_c_69, c_180, f_c_180, c_185, f_c_185, c_192, f_c_192, fn_c_192]) (by simp [aD, aE, jnE, ctE, c_69, f_c_69, fn_c_69, c_180, f_c_180, c_185, f_c_185, c_192, f_c_192, fn_c_192]) dL_acts_217
        · have f_c_192 : lwN (x >>> ((nI 4) &&& 31)) 9 < mmV v (lwN (x >>> ((nI 3) &&& 31)) 2) := n_nle (by omega) (by omega) c_192
          have fn_c_192 := Nat.not_le.mpr f_c_192
          refine g_iload X 3 dL_acts_195 rfl ?_
          refine g_iload X 1 dL_acts_197 rfl ?_
          refine g_icmp_ge (tgt := 216) X dL_acts_199 (by decide) (fun c_199 => ?_) (fun c_199 => ?_)
          · have f_c_199 : mmV v (lwN (x >>> ((nI 3) &&& 31)) 2) ≤ lwN (x >>> ((nI 8) &&& 31)) 9 := n_le (by omega) (by omega) c_199
            have fn_c_199 := Nat.not_lt.mpr f_c_199
            refine g_iconst (v := (-1)) X dL_acts_216 rfl ?_
            exact g_iretv (r := (-1)) X hx rfl (by simp [aV, c_69, f_c_69, fn_c_69, c_180, f_c_180, c_185, f_c_185, c_192, f_c_192, fn_c_192, c_199, f_c_199, fn_c_199]) (by simp [aD, aE, jnE, ctE, c_69, f_c_69, fn_c_69, c_180, f_c_180, c_185, f_c_185, c_192, f_c_192, fn_c_192, c_199, f_c_199, fn_c_199]) dL_acts_217
          · have f_c_199 : lwN (x >>> ((nI 8) &&& 31)) 9 < mmV v (lwN (x >>> ((nI 3) &&& 31)) 2) := n_nle (by omega) (by omega) c_199
            have fn_c_199 := Nat.not_le.mpr f_c_199
            refine g_iload X 4 dL_acts_202 rfl ?_
            refine g_iload X 3 dL_acts_204 rfl ?_
            refine g_icmp_eq (tgt := 216) X dL_acts_206 (by decide) (fun c_206 => ?_) (fun c_206 => ?_)
            · have f_c_206 : lwN (x >>> ((nI 4) &&& 31)) 9 = lwN (x >>> ((nI 8) &&& 31)) 9 := n_eq (by omega) (by omega) c_206
              refine g_iconst (v := (-1)) X dL_acts_216 rfl ?_
              exact g_iretv (r := (-1)) X hx rfl (by simp [aV, c_69, f_c_69, fn_c_69, c_180, f_c_180, c_185, f_c_185, c_192, f_c_192, fn_c_192, c_199, f_c_199, fn_c_199, c_206, f_c_206]) (by simp [aD, aE, jnE, ctE, c_69, f_c_69, fn_c_69, c_180, f_c_180, c_185, f_c_185, c_192, f_c_192, fn_c_192, c_199, f_c_199, fn_c_199, c_206, f_c_206]) dL_acts_217
            · have f_c_206 : ¬ lwN (x >>> ((nI 4) &&& 31)) 9 = lwN (x >>> ((nI 8) &&& 31)) 9 := n_ne (by omega) (by omega) c_206
              refine g_iload X 2 dL_acts_209 rfl ?_
              refine g_bipush (v := (nI 9)) X dL_acts_211 rfl ?_
              refine g_icmp_le (tgt := 218) X dL_acts_213 (by decide) (fun c_213 => ?_) (fun c_213 => ?_)
              · have f_c_213 : lwN (x >>> ((nI 12) &&& 31)) 11 ≤ 9 := n_le (by omega) (by omega) c_213
                have fn_c_213 := Nat.not_lt.mpr f_c_213
                refine g_aload_n X 8 dL_acts_218 rfl ?_
                refine g_iload X 5 dL_acts_219 rfl ?_
                refine g_iload X 4 dL_acts_221 rfl ?_
                refine g_iload X 3 dL_acts_223 rfl ?_
                refine g_callSr (st2 := [.int (stL e (lwN (x >>> ((nI 3) &&& 31)) 2) (nI (lwN (x >>> ((nI 4) &&& 31)) 9)) (nI (lwN (x >>> ((nI 8) &&& 31)) 9)) (ssV v (lwN (x >>> ((nI 3) &&& 31)) 2)))]) X (c_L_street E ae e (lwN (x >>> ((nI 3) &&& 31)) 2) (ssV v (lwN (x >>> ((nI 3) &&& 31)) 2)) (nI (lwN (x >>> ((nI 4) &&& 31)) 9)) (nI (lwN (x >>> ((nI 8) &&& 31)) 9)) l2 hs8 (hd.2.1 _ l2).2) cs_L_37 rfl [1] [0] 2 rfl (by decide) rfl rfl rfl (Nat.le_of_ble_eq_true rfl) dL_acts_225 rfl ?_
                refine g_if_ge (tgt := 243) X dL_acts_228 (by decide) (fun c_228 => ?_) (fun c_228 => ?_)
                · have s_228 : ¬ stL e (lwN (x >>> ((nI 3) &&& 31)) 2) (nI (lwN (x >>> ((nI 4) &&& 31)) 9)) (nI (lwN (x >>> ((nI 8) &&& 31)) 9)) (ssV v (lwN (x >>> ((nI 3) &&& 31)) 2)) < 0 := by rw [i_lt, i_0]; rw [i_le, i_0] at c_228; omega
                  refine g_aload_n X 8 dL_acts_243 rfl ?_
                  refine g_bipush (v := (nI 50)) X dL_acts_244 rfl ?_
                  refine g_iload X 5 dL_acts_246 rfl ?_
                  refine g_iaddN X dL_acts_248 ?_
                  refine g_iald X 1 rfl (50 + (lwN (x >>> ((nI 3) &&& 31)) 2)) (ix_nI (by omega) (by decide)) dL_acts_249 ?_
                  rw [(hd.2.1 _ l2).2]
                  refine g_bipush (v := (nI 8)) X dL_acts_250 rfl ?_
                  refine g_icmp_ne (tgt := 273) X dL_acts_252 (by decide) (fun c_252 => ?_) (fun c_252 => ?_)
                  · have f_c_252 : ¬ ssV v (lwN (x >>> ((nI 3) &&& 31)) 2) = 8 := n_ne (by omega) (by omega) c_252
                    refine g_bipush (v := (-2)) X dL_acts_273 rfl ?_
                    exact g_iretv (r := (-2)) X hx rfl (by simp [aV, c_69, f_c_69, fn_c_69, c_180, f_c_180, c_185, f_c_185, c_192, f_c_192, fn_c_192, c_199, f_c_199, fn_c_199, c_206, f_c_206, c_213, f_c_213, fn_c_213, c_228, s_228, f_c_252]) (by simp [aD, aE, jnE, ctE, c_69, f_c_69, fn_c_69, c_180, f_c_180, c_185, f_c_185, c_192, f_c_192, fn_c_192, c_199, f_c_199, fn_c_199, c_206, f_c_206, c_213, f_c_213, fn_c_213, c_228, s_228, f_c_252]) dL_acts_275
                  · have f_c_252 : ssV v (lwN (x >>> ((nI 3) &&& 31)) 2) = 8 := n_eq (by omega) (by omega) c_252
                    refine g_aload_n X 8 dL_acts_255 rfl ?_
                    refine g_iload X 5 dL_acts_256 rfl ?_
                    refine g_iload X 4 dL_acts_258 rfl ?_
                    refine g_iload X 3 dL_acts_260 rfl ?_
                    refine g_callSr (st2 := [.int (stL e (lwN (x >>> ((nI 3) &&& 31)) 2) (nI (lwN (x >>> ((nI 4) &&& 31)) 9)) (nI (lwN (x >>> ((nI 8) &&& 31)) 9)) (ssV v (lwN (x >>> ((nI 3) &&& 31)) 2)))]) X (c_L_street E ae e (lwN (x >>> ((nI 3) &&& 31)) 2) (ssV v (lwN (x >>> ((nI 3) &&& 31)) 2)) (nI (lwN (x >>> ((nI 4) &&& 31)) 9)) (nI (lwN (x >>> ((nI 8) &&& 31)) 9)) l2 hs8 (hd.2.1 _ l2).2) cs_L_37 rfl [1] [0] 2 rfl (by decide) rfl rfl rfl (Nat.le_of_ble_eq_true rfl) dL_acts_262 rfl ?_
                    refine g_if_ge (tgt := 273) X dL_acts_265 (by decide) (fun c_265 => ?_) (fun c_265 => absurd c_228 c_265)
                    have s_265 : ¬ stL e (lwN (x >>> ((nI 3) &&& 31)) 2) (nI (lwN (x >>> ((nI 4) &&& 31)) 9)) (nI (lwN (x >>> ((nI 8) &&& 31)) 9)) (ssV v (lwN (x >>> ((nI 3) &&& 31)) 2)) < 0 := by rw [i_lt, i_0]; rw [i_le, i_0] at c_265; omega
                    refine g_bipush (v := (-2)) X dL_acts_273 rfl ?_
                    exact g_iretv (r := (-2)) X hx rfl (by simp [aV, c_69, f_c_69, fn_c_69, c_180, f_c_180, c_185, f_c_185, c_192, f_c_192, fn_c_192, c_199, f_c_199, fn_c_199, c_206, f_c_206, c_213, f_c_213, fn_c_213, c_228, s_228, eq_true f_c_252, c_265, s_265]) (by simp [aD, aE, jnE, ctE, c_69, f_c_69, fn_c_69, c_180, f_c_180, c_185, f_c_185, c_192, f_c_192, fn_c_192, c_199, f_c_199, fn_c_199, c_206, f_c_206, c_213, f_c_213, fn_c_213, c_228, s_228, eq_true f_c_252, c_265, s_265]) dL_acts_275
                · have s_228 : stL e (lwN (x >>> ((nI 3) &&& 31)) 2) (nI (lwN (x >>> ((nI 4) &&& 31)) 9)) (nI (lwN (x >>> ((nI 8) &&& 31)) 9)) (ssV v (lwN (x >>> ((nI 3) &&& 31)) 2)) < 0 := by rw [i_lt, i_0]; rw [i_le, i_0] at c_228; omega
                  refine g_aload_n X 8 dL_acts_231 rfl ?_
                  refine g_bipush (v := (nI 50)) X dL_acts_232 rfl ?_
                  refine g_iload X 5 dL_acts_234 rfl ?_
                  refine g_iaddN X dL_acts_236 ?_
                  refine g_iald X 1 rfl (50 + (lwN (x >>> ((nI 3) &&& 31)) 2)) (ix_nI (by omega) (by decide)) dL_acts_237 ?_
                  rw [(hd.2.1 _ l2).2]
                  refine g_bipush (v := (nI 8)) X dL_acts_238 rfl ?_
                  refine g_icmp_ne (tgt := 276) X dL_acts_240 (by decide) (fun c_240 => ?_) (fun c_240 => ?_)
                  · have f_c_240 : ¬ ssV v (lwN (x >>> ((nI 3) &&& 31)) 2) = 8 := n_ne (by omega) (by omega) c_240
                    refine g_bipush (v := (nI 8)) X dL_acts_276 rfl ?_
                    refine g_iload X 5 dL_acts_278 rfl ?_
                    refine g_imulN X dL_acts_280 ?_
                    refine g_aload_n X 8 dL_acts_281 rfl ?_
                    refine g_bipush (v := (nI 50)) X dL_acts_282 rfl ?_
                    refine g_iload X 5 dL_acts_284 rfl ?_
                    refine g_iaddN X dL_acts_286 ?_
                    refine g_iald X 1 rfl (50 + (lwN (x >>> ((nI 3) &&& 31)) 2)) (ix_nI (by omega) (by decide)) dL_acts_287 ?_
                    rw [(hd.2.1 _ l2).2]
                    refine g_iaddN X dL_acts_288 ?_
                    refine g_istore (lv' := [(10, .int (nI ((8 * (lwN (x >>> ((nI 3) &&& 31)) 2)) + (ssV v (lwN (x >>> ((nI 3) &&& 31)) 2))))), (9, .int (nI ((8 * (lwN (x >>> ((nI 3) &&& 31)) 2)) + (lwN (x >>> ((nI 4) &&& 31)) 9)))), (8, .int (nI (mmV v (lwN (x >>> ((nI 3) &&& 31)) 2)))), (7, .int (nI (lwN (x >>> ((nI 12) &&& 31)) 11))), (6, .int (nI (lwN (x >>> ((nI 8) &&& 31)) 9))), (5, .int (nI (lwN (x >>> ((nI 4) &&& 31)) 9))), (4, .int (nI (lwN (x >>> ((nI 3) &&& 31)) 2))), (3, .int (nI (lwN x 8))), (0, .ref ad), (1, .ref ae), (2, .int x)]) X dL_acts_289 (by decide) rfl ?_
                    refine g_aload_n X 9 dL_acts_291 rfl ?_
                    refine g_iload X 0 dL_acts_292 rfl ?_
                    refine g_iload X 5 dL_acts_294 rfl ?_
                    refine g_iast (ws' := [wAr E ad 48 d, wAr E ae 54 (upd e ((8 * (lwN (x >>> ((nI 3) &&& 31)) 2)) + (ssV v (lwN (x >>> ((nI 3) &&& 31)) 2))) (nI (lwN (x >>> ((nI 4) &&& 31)) 9)))].flatten) X 1 rfl ((8 * (lwN (x >>> ((nI 3) &&& 31)) 2)) + (ssV v (lwN (x >>> ((nI 3) &&& 31)) 2))) (ix_nI (by omega) (by decide)) rfl dL_acts_296 ?_
                    refine g_aload_n X 9 dL_acts_297 rfl ?_
                    refine g_bipush (v := (nI 16)) X dL_acts_298 rfl ?_
                    refine g_iload X 0 dL_acts_300 rfl ?_
                    refine g_iaddN X dL_acts_302 ?_
                    refine g_iload X 4 dL_acts_303 rfl ?_
                    refine g_iast (ws' := [wAr E ad 48 d, wAr E ae 54 (upd (upd e ((8 * (lwN (x >>> ((nI 3) &&& 31)) 2)) + (ssV v (lwN (x >>> ((nI 3) &&& 31)) 2))) (nI (lwN (x >>> ((nI 4) &&& 31)) 9))) (16 + ((8 * (lwN (x >>> ((nI 3) &&& 31)) 2)) + (ssV v (lwN (x >>> ((nI 3) &&& 31)) 2)))) (nI (lwN (x >>> ((nI 8) &&& 31)) 9)))].flatten) X 1 rfl (16 + ((8 * (lwN (x >>> ((nI 3) &&& 31)) 2)) + (ssV v (lwN (x >>> ((nI 3) &&& 31)) 2)))) (ix_nI (by omega) (by decide)) rfl dL_acts_305 ?_
                    refine g_aload_n X 9 dL_acts_306 rfl ?_
                    refine g_bipush (v := (nI 32)) X dL_acts_307 rfl ?_
                    refine g_iload X 0 dL_acts_309 rfl ?_
                    refine g_iaddN X dL_acts_311 ?_
                    refine g_iload X 3 dL_acts_312 rfl ?_
                    refine g_iast (ws' := [wAr E ad 48 d, wAr E ae 54 (upd (upd (upd e ((8 * (lwN (x >>> ((nI 3) &&& 31)) 2)) + (ssV v (lwN (x >>> ((nI 3) &&& 31)) 2))) (nI (lwN (x >>> ((nI 4) &&& 31)) 9))) (16 + ((8 * (lwN (x >>> ((nI 3) &&& 31)) 2)) + (ssV v (lwN (x >>> ((nI 3) &&& 31)) 2)))) (nI (lwN (x >>> ((nI 8) &&& 31)) 9))) (32 + ((8 * (lwN (x >>> ((nI 3) &&& 31)) 2)) + (ssV v (lwN (x >>> ((nI 3) &&& 31)) 2)))) (nI (lwN (x >>> ((nI 12) &&& 31)) 11)))].flatten) X 1 rfl (32 + ((8 * (lwN (x >>> ((nI 3) &&& 31)) 2)) + (ssV v (lwN (x >>> ((nI 3) &&& 31)) 2)))) (ix_nI (by omega) (by decide)) rfl dL_acts_314 ?_
                    refine g_aload_n X 9 dL_acts_315 rfl ?_
                    refine g_bipush (v := (nI 50)) X dL_acts_316 rfl ?_
                    refine g_iload X 6 dL_acts_318 rfl ?_
                    refine g_iaddN X dL_acts_320 ?_
                    refine g_dup2 X dL_acts_321 rfl rfl ?_
                    refine g_iald X 1 rfl (50 + (lwN (x >>> ((nI 3) &&& 31)) 2)) (ix_nI (by omega) (by decide)) dL_acts_322 ?_
                    rw [upd_n _ _ (by omega), upd_n _ _ (by omega), upd_n _ _ (by omega), (hd.2.1 _ l2).2]
                    refine g_iconst (v := (nI 1)) X dL_acts_323 rfl ?_
                    refine g_iaddN X dL_acts_324 ?_
                    refine g_iast (ws' := [wAr E ad 48 d, wAr E ae 54 (upd (upd (upd (upd e ((8 * (lwN (x >>> ((nI 3) &&& 31)) 2)) + (ssV v (lwN (x >>> ((nI 3) &&& 31)) 2))) (nI (lwN (x >>> ((nI 4) &&& 31)) 9))) (16 + ((8 * (lwN (x >>> ((nI 3) &&& 31)) 2)) + (ssV v (lwN (x >>> ((nI 3) &&& 31)) 2)))) (nI (lwN (x >>> ((nI 8) &&& 31)) 9))) (32 + ((8 * (lwN (x >>> ((nI 3) &&& 31)) 2)) + (ssV v (lwN (x >>> ((nI 3) &&& 31)) 2)))) (nI (lwN (x >>> ((nI 12) &&& 31)) 11))) (50 + (lwN (x >>> ((nI 3) &&& 31)) 2)) (nI ((ssV v (lwN (x >>> ((nI 3) &&& 31)) 2)) + 1)))].flatten) X 1 rfl (50 + (lwN (x >>> ((nI 3) &&& 31)) 2)) (ix_nI (by omega) (by decide)) rfl dL_acts_325 ?_
                    refine g_aload_n X 9 dL_acts_326 rfl ?_
                    refine g_bipush (v := (nI 50)) X dL_acts_327 rfl ?_
                    refine g_iload X 6 dL_acts_329 rfl ?_
                    refine g_iaddN X dL_acts_331 ?_
                    refine g_iald X 1 rfl (50 + (lwN (x >>> ((nI 3) &&& 31)) 2)) (ix_nI (by omega) (by decide)) dL_acts_332 ?_
                    rw [upd_s]
                    exact g_iretv (r := (nI (ssV v (lwN (x >>> ((nI 3) &&& 31)) 2) + 1))) X hx rfl (by simp [aV, c_69, f_c_69, fn_c_69, c_180, f_c_180, c_185, f_c_185, c_192, f_c_192, fn_c_192, c_199, f_c_199, fn_c_199, c_206, f_c_206, c_213, f_c_213, fn_c_213, c_228, s_228, f_c_240]) (by simp [aD, aE, jnE, ctE, c_69, f_c_69, fn_c_69, c_180, f_c_180, c_185, f_c_185, c_192, f_c_192, fn_c_192, c_199, f_c_199, fn_c_199, c_206, f_c_206, c_213, f_c_213, fn_c_213, c_228, s_228, f_c_240]) dL_acts_333
                  · have f_c_240 : ssV v (lwN (x >>> ((nI 3) &&& 31)) 2) = 8 := n_eq (by omega) (by omega) c_240
                    refine g_aload_n X 8 dL_acts_243 rfl ?_
                    refine g_bipush (v := (nI 50)) X dL_acts_244 rfl ?_
                    refine g_iload X 5 dL_acts_246 rfl ?_
                    refine g_iaddN X dL_acts_248 ?_
                    refine g_iald X 1 rfl (50 + (lwN (x >>> ((nI 3) &&& 31)) 2)) (ix_nI (by omega) (by decide)) dL_acts_249 ?_
                    rw [(hd.2.1 _ l2).2]
                    refine g_bipush (v := (nI 8)) X dL_acts_250 rfl ?_
                    refine g_icmp_ne (tgt := 273) X dL_acts_252 (by decide) (fun c_252 => absurd c_240 c_252) (fun c_252 => ?_)
                    refine g_aload_n X 8 dL_acts_255 rfl ?_
                    refine g_iload X 5 dL_acts_256 rfl ?_
                    refine g_iload X 4 dL_acts_258 rfl ?_
                    refine g_iload X 3 dL_acts_260 rfl ?_
                    refine g_callSr (st2 := [.int (stL e (lwN (x >>> ((nI 3) &&& 31)) 2) (nI (lwN (x >>> ((nI 4) &&& 31)) 9)) (nI (lwN (x >>> ((nI 8) &&& 31)) 9)) (ssV v (lwN (x >>> ((nI 3) &&& 31)) 2)))]) X (c_L_street E ae e (lwN (x >>> ((nI 3) &&& 31)) 2) (ssV v (lwN (x >>> ((nI 3) &&& 31)) 2)) (nI (lwN (x >>> ((nI 4) &&& 31)) 9)) (nI (lwN (x >>> ((nI 8) &&& 31)) 9)) l2 hs8 (hd.2.1 _ l2).2) cs_L_37 rfl [1] [0] 2 rfl (by decide) rfl rfl rfl (Nat.le_of_ble_eq_true rfl) dL_acts_262 rfl ?_
                    refine g_if_ge (tgt := 273) X dL_acts_265 (by decide) (fun c_265 => absurd c_265 c_228) (fun c_265 => ?_)
                    have s_265 : stL e (lwN (x >>> ((nI 3) &&& 31)) 2) (nI (lwN (x >>> ((nI 4) &&& 31)) 9)) (nI (lwN (x >>> ((nI 8) &&& 31)) 9)) (ssV v (lwN (x >>> ((nI 3) &&& 31)) 2)) < 0 := by rw [i_lt, i_0]; rw [i_le, i_0] at c_265; omega
                    refine g_bipush (v := (-3)) X dL_acts_268 rfl ?_
                    refine g_goto (tgt := 275) X dL_acts_270 (by decide) ?_
                    exact g_iretv (r := (-3)) X hx rfl (by simp [aV, c_69, f_c_69, fn_c_69, c_180, f_c_180, c_185, f_c_185, c_192, f_c_192, fn_c_192, c_199, f_c_199, fn_c_199, c_206, f_c_206, c_213, f_c_213, fn_c_213, c_228, s_228, eq_true f_c_240, c_265, s_265]) (by simp [aD, aE, jnE, ctE, c_69, f_c_69, fn_c_69, c_180, f_c_180, c_185, f_c_185, c_192, f_c_192, fn_c_192, c_199, f_c_199, fn_c_199, c_206, f_c_206, c_213, f_c_213, fn_c_213, c_228, s_228, eq_true f_c_240, c_265, s_265]) dL_acts_275
              · have f_c_213 : 9 < lwN (x >>> ((nI 12) &&& 31)) 11 := n_nle (by omega) (by omega) c_213
                have fn_c_213 := Nat.not_le.mpr f_c_213
                refine g_iconst (v := (-1)) X dL_acts_216 rfl ?_
                exact g_iretv (r := (-1)) X hx rfl (by simp [aV, c_69, f_c_69, fn_c_69, c_180, f_c_180, c_185, f_c_185, c_192, f_c_192, fn_c_192, c_199, f_c_199, fn_c_199, c_206, f_c_206, c_213, f_c_213, fn_c_213]) (by simp [aD, aE, jnE, ctE, c_69, f_c_69, fn_c_69, c_180, f_c_180, c_185, f_c_185, c_192, f_c_192, fn_c_192, c_199, f_c_199, fn_c_199, c_206, f_c_206, c_213, f_c_213, fn_c_213]) dL_acts_217
  · have f_c_69 : lwN x 8 < 2 := n_nle (by omega) (by omega) c_69
    have fn_c_69 := Nat.not_le.mpr f_c_69
    refine g_iload_n X 9 dL_acts_72 rfl ?_
    refine g_bipush (v := (nI 8)) X dL_acts_73 rfl ?_
    refine g_ishr X dL_acts_75 ?_
    refine g_bipush (v := (nI 64)) X dL_acts_76 rfl ?_
    refine g_callSP (st2 := [.int (nI (lwN (x >>> ((nI 8) &&& 31)) 64))]) (ws' := [wAr E ad 48 d, wAr E ae 54 e].flatten) (wr := [wAr E ad 48 d, wAr E ae 54 e].flatten) X (c_L_low E (x >>> ((nI 8) &&& 31)) 64 (by decide) (by decide)) cs_L_25 rfl (List.Perm.refl _) rfl (List.Perm.refl _) rfl rfl (Nat.le_of_ble_eq_true rfl) dL_acts_78 rfl ?_
    refine g_istore (lv' := [(10, .int (nI (lwN (x >>> ((nI 8) &&& 31)) 64))), (9, .int (nI ((8 * (lwN (x >>> ((nI 3) &&& 31)) 2)) + (lwN (x >>> ((nI 4) &&& 31)) 9)))), (8, .int (nI (mmV v (lwN (x >>> ((nI 3) &&& 31)) 2)))), (7, .int (nI (lwN (x >>> ((nI 12) &&& 31)) 11))), (6, .int (nI (lwN (x >>> ((nI 8) &&& 31)) 9))), (5, .int (nI (lwN (x >>> ((nI 4) &&& 31)) 9))), (4, .int (nI (lwN (x >>> ((nI 3) &&& 31)) 2))), (3, .int (nI (lwN x 8))), (0, .ref ad), (1, .ref ae), (2, .int x)]) X dL_acts_81 (by decide) rfl ?_
    refine g_iload_n X 10 dL_acts_83 rfl ?_
    refine g_bipush (v := (nI 14)) X dL_acts_84 rfl ?_
    refine g_ishr X dL_acts_86 ?_
    refine g_bipush (v := (nI 64)) X dL_acts_87 rfl ?_
    refine g_callSP (st2 := [.int (nI (lwN (x >>> ((nI 14) &&& 31)) 64))]) (ws' := [wAr E ad 48 d, wAr E ae 54 e].flatten) (wr := [wAr E ad 48 d, wAr E ae 54 e].flatten) X (c_L_low E (x >>> ((nI 14) &&& 31)) 64 (by decide) (by decide)) cs_L_25 rfl (List.Perm.refl _) rfl (List.Perm.refl _) rfl rfl (Nat.le_of_ble_eq_true rfl) dL_acts_89 rfl ?_
    refine g_istore (lv' := [(11, .int (nI (lwN (x >>> ((nI 14) &&& 31)) 64))), (10, .int (nI (lwN (x >>> ((nI 8) &&& 31)) 64))), (9, .int (nI ((8 * (lwN (x >>> ((nI 3) &&& 31)) 2)) + (lwN (x >>> ((nI 4) &&& 31)) 9)))), (8, .int (nI (mmV v (lwN (x >>> ((nI 3) &&& 31)) 2)))), (7, .int (nI (lwN (x >>> ((nI 12) &&& 31)) 11))), (6, .int (nI (lwN (x >>> ((nI 8) &&& 31)) 9))), (5, .int (nI (lwN (x >>> ((nI 4) &&& 31)) 9))), (4, .int (nI (lwN (x >>> ((nI 3) &&& 31)) 2))), (3, .int (nI (lwN x 8))), (0, .ref ad), (1, .ref ae), (2, .int x)]) X dL_acts_92 (by decide) rfl ?_
    refine g_iload X 6 dL_acts_94 rfl ?_
    refine g_iload X 3 dL_acts_96 rfl ?_
    refine g_icmp_ge (tgt := 115) X dL_acts_98 (by decide) (fun c_98 => ?_) (fun c_98 => ?_)
    · have f_c_98 : mmV v (lwN (x >>> ((nI 3) &&& 31)) 2) ≤ lwN (x >>> ((nI 4) &&& 31)) 9 := n_le (by omega) (by omega) c_98
      have fn_c_98 := Nat.not_lt.mpr f_c_98
      refine g_iconst (v := (-1)) X dL_acts_115 rfl ?_
      exact g_iretv (r := (-1)) X hx rfl (by simp [aV, c_69, f_c_69, fn_c_69, c_98, f_c_98, fn_c_98]) (by simp [aD, aE, jnE, ctE, c_69, f_c_69, fn_c_69, c_98, f_c_98, fn_c_98]) dL_acts_116
    · have f_c_98 : lwN (x >>> ((nI 4) &&& 31)) 9 < mmV v (lwN (x >>> ((nI 3) &&& 31)) 2) := n_nle (by omega) (by omega) c_98
      have fn_c_98 := Nat.not_le.mpr f_c_98
      refine g_iload X 1 dL_acts_101 rfl ?_
      refine g_bipush (v := (nI 60)) X dL_acts_103 rfl ?_
      refine g_icmp_gt (tgt := 115) X dL_acts_105 (by decide) (fun c_105 => ?_) (fun c_105 => ?_)
      · have f_c_105 : 60 < lwN (x >>> ((nI 8) &&& 31)) 64 := n_lt (by omega) (by omega) c_105
        have fn_c_105 := Nat.not_le.mpr f_c_105
        refine g_iconst (v := (-1)) X dL_acts_115 rfl ?_
        exact g_iretv (r := (-1)) X hx rfl (by simp [aV, c_69, f_c_69, fn_c_69, c_98, f_c_98, fn_c_98, c_105, f_c_105, fn_c_105]) (by simp [aD, aE, jnE, ctE, c_69, f_c_69, fn_c_69, c_98, f_c_98, fn_c_98, c_105, f_c_105, fn_c_105]) dL_acts_116
      · have f_c_105 : lwN (x >>> ((nI 8) &&& 31)) 64 ≤ 60 := n_nlt (by omega) (by omega) c_105
        have fn_c_105 := Nat.not_lt.mpr f_c_105
        refine g_iload X 0 dL_acts_108 rfl ?_
        refine g_bipush (v := (nI 60)) X dL_acts_110 rfl ?_
        refine g_icmp_le (tgt := 117) X dL_acts_112 (by decide) (fun c_112 => ?_) (fun c_112 => ?_)
        · have f_c_112 : lwN (x >>> ((nI 14) &&& 31)) 64 ≤ 60 := n_le (by omega) (by omega) c_112
          have fn_c_112 := Nat.not_lt.mpr f_c_112
          refine g_aload_n X 9 dL_acts_117 rfl ?_
          refine g_bipush (v := (nI 16)) X dL_acts_118 rfl ?_
          refine g_iload X 2 dL_acts_120 rfl ?_
          refine g_iaddN X dL_acts_122 ?_
          refine g_iald X 0 rfl (16 + ((8 * (lwN (x >>> ((nI 3) &&& 31)) 2)) + (lwN (x >>> ((nI 4) &&& 31)) 9))) (ix_nI (by omega) (by decide)) dL_acts_123 ?_
          refine g_iload X 1 dL_acts_124 rfl ?_
          refine g_icmp_ne (tgt := 145) X dL_acts_126 (by decide) (fun c_126 => ?_) (fun c_126 => ?_)
          · refine g_iconst (v := (nI 0)) X dL_acts_145 rfl ?_
            refine g_istore (lv' := [(12, .int (nI 0)), (11, .int (nI (lwN (x >>> ((nI 14) &&& 31)) 64))), (10, .int (nI (lwN (x >>> ((nI 8) &&& 31)) 64))), (9, .int (nI ((8 * (lwN (x >>> ((nI 3) &&& 31)) 2)) + (lwN (x >>> ((nI 4) &&& 31)) 9)))), (8, .int (nI (mmV v (lwN (x >>> ((nI 3) &&& 31)) 2)))), (7, .int (nI (lwN (x >>> ((nI 12) &&& 31)) 11))), (6, .int (nI (lwN (x >>> ((nI 8) &&& 31)) 9))), (5, .int (nI (lwN (x >>> ((nI 4) &&& 31)) 9))), (4, .int (nI (lwN (x >>> ((nI 3) &&& 31)) 2))), (3, .int (nI (lwN x 8))), (0, .ref ad), (1, .ref ae), (2, .int x)]) X dL_acts_146 (by decide) rfl ?_
            refine g_aload_n X 10 dL_acts_148 rfl ?_
            refine g_bipush (v := (nI 16)) X dL_acts_149 rfl ?_
            refine g_iload X 3 dL_acts_151 rfl ?_
            refine g_iaddN X dL_acts_153 ?_
            refine g_iload X 2 dL_acts_154 rfl ?_
            refine g_iast (ws' := [wAr E ad 48 (upd d (16 + ((8 * (lwN (x >>> ((nI 3) &&& 31)) 2)) + (lwN (x >>> ((nI 4) &&& 31)) 9))) (nI (lwN (x >>> ((nI 8) &&& 31)) 64))), wAr E ae 54 e].flatten) X 0 rfl (16 + ((8 * (lwN (x >>> ((nI 3) &&& 31)) 2)) + (lwN (x >>> ((nI 4) &&& 31)) 9))) (ix_nI (by omega) (by decide)) rfl dL_acts_156 ?_
            refine g_aload_n X 10 dL_acts_157 rfl ?_
            refine g_bipush (v := (nI 32)) X dL_acts_158 rfl ?_
            refine g_iload X 3 dL_acts_160 rfl ?_
            refine g_iaddN X dL_acts_162 ?_
            refine g_iload X 1 dL_acts_163 rfl ?_
            refine g_iast (ws' := [wAr E ad 48 (upd (upd d (16 + ((8 * (lwN (x >>> ((nI 3) &&& 31)) 2)) + (lwN (x >>> ((nI 4) &&& 31)) 9))) (nI (lwN (x >>> ((nI 8) &&& 31)) 64))) (32 + ((8 * (lwN (x >>> ((nI 3) &&& 31)) 2)) + (lwN (x >>> ((nI 4) &&& 31)) 9))) (nI (lwN (x >>> ((nI 14) &&& 31)) 64))), wAr E ae 54 e].flatten) X 0 rfl (32 + ((8 * (lwN (x >>> ((nI 3) &&& 31)) 2)) + (lwN (x >>> ((nI 4) &&& 31)) 9))) (ix_nI (by omega) (by decide)) rfl dL_acts_165 ?_
            refine g_iload X 0 dL_acts_166 rfl ?_
            refine g_if_eq (tgt := 176) X dL_acts_168 (by decide) (fun c_168 => ?_) (fun c_168 => absurd c_168 (by decide))
            refine g_iconst (v := (nI 1)) X dL_acts_176 rfl ?_
            exact g_iretv (r := (nI 1)) X hx rfl (by simp [aV, c_69, f_c_69, fn_c_69, c_98, f_c_98, fn_c_98, c_105, f_c_105, fn_c_105, c_112, f_c_112, fn_c_112, c_126]) (by simp [aD, aE, jnE, ctE, c_69, f_c_69, fn_c_69, c_98, f_c_98, fn_c_98, c_105, f_c_105, fn_c_105, c_112, f_c_112, fn_c_112, c_126]) dL_acts_177
          · refine g_aload_n X 9 dL_acts_129 rfl ?_
            refine g_bipush (v := (nI 32)) X dL_acts_130 rfl ?_
            refine g_iload X 2 dL_acts_132 rfl ?_
            refine g_iaddN X dL_acts_134 ?_
            refine g_iald X 0 rfl (32 + ((8 * (lwN (x >>> ((nI 3) &&& 31)) 2)) + (lwN (x >>> ((nI 4) &&& 31)) 9))) (ix_nI (by omega) (by decide)) dL_acts_135 ?_
            refine g_iload X 0 dL_acts_136 rfl ?_
            refine g_icmp_ne (tgt := 145) X dL_acts_138 (by decide) (fun c_138 => ?_) (fun c_138 => ?_)
            · refine g_iconst (v := (nI 0)) X dL_acts_145 rfl ?_
              refine g_istore (lv' := [(12, .int (nI 0)), (11, .int (nI (lwN (x >>> ((nI 14) &&& 31)) 64))), (10, .int (nI (lwN (x >>> ((nI 8) &&& 31)) 64))), (9, .int (nI ((8 * (lwN (x >>> ((nI 3) &&& 31)) 2)) + (lwN (x >>> ((nI 4) &&& 31)) 9)))), (8, .int (nI (mmV v (lwN (x >>> ((nI 3) &&& 31)) 2)))), (7, .int (nI (lwN (x >>> ((nI 12) &&& 31)) 11))), (6, .int (nI (lwN (x >>> ((nI 8) &&& 31)) 9))), (5, .int (nI (lwN (x >>> ((nI 4) &&& 31)) 9))), (4, .int (nI (lwN (x >>> ((nI 3) &&& 31)) 2))), (3, .int (nI (lwN x 8))), (0, .ref ad), (1, .ref ae), (2, .int x)]) X dL_acts_146 (by decide) rfl ?_
              refine g_aload_n X 10 dL_acts_148 rfl ?_
              refine g_bipush (v := (nI 16)) X dL_acts_149 rfl ?_
              refine g_iload X 3 dL_acts_151 rfl ?_
              refine g_iaddN X dL_acts_153 ?_
              refine g_iload X 2 dL_acts_154 rfl ?_
              refine g_iast (ws' := [wAr E ad 48 (upd d (16 + ((8 * (lwN (x >>> ((nI 3) &&& 31)) 2)) + (lwN (x >>> ((nI 4) &&& 31)) 9))) (nI (lwN (x >>> ((nI 8) &&& 31)) 64))), wAr E ae 54 e].flatten) X 0 rfl (16 + ((8 * (lwN (x >>> ((nI 3) &&& 31)) 2)) + (lwN (x >>> ((nI 4) &&& 31)) 9))) (ix_nI (by omega) (by decide)) rfl dL_acts_156 ?_
              refine g_aload_n X 10 dL_acts_157 rfl ?_
              refine g_bipush (v := (nI 32)) X dL_acts_158 rfl ?_
              refine g_iload X 3 dL_acts_160 rfl ?_
              refine g_iaddN X dL_acts_162 ?_
              refine g_iload X 1 dL_acts_163 rfl ?_
              refine g_iast (ws' := [wAr E ad 48 (upd (upd d (16 + ((8 * (lwN (x >>> ((nI 3) &&& 31)) 2)) + (lwN (x >>> ((nI 4) &&& 31)) 9))) (nI (lwN (x >>> ((nI 8) &&& 31)) 64))) (32 + ((8 * (lwN (x >>> ((nI 3) &&& 31)) 2)) + (lwN (x >>> ((nI 4) &&& 31)) 9))) (nI (lwN (x >>> ((nI 14) &&& 31)) 64))), wAr E ae 54 e].flatten) X 0 rfl (32 + ((8 * (lwN (x >>> ((nI 3) &&& 31)) 2)) + (lwN (x >>> ((nI 4) &&& 31)) 9))) (ix_nI (by omega) (by decide)) rfl dL_acts_165 ?_
              refine g_iload X 0 dL_acts_166 rfl ?_
              refine g_if_eq (tgt := 176) X dL_acts_168 (by decide) (fun c_168 => ?_) (fun c_168 => absurd c_168 (by decide))
              refine g_iconst (v := (nI 1)) X dL_acts_176 rfl ?_
              exact g_iretv (r := (nI 1)) X hx rfl (by simp [aV, c_69, f_c_69, fn_c_69, c_98, f_c_98, fn_c_98, c_105, f_c_105, fn_c_105, c_112, f_c_112, fn_c_112, c_126, c_138]) (by simp [aD, aE, jnE, ctE, c_69, f_c_69, fn_c_69, c_98, f_c_98, fn_c_98, c_105, f_c_105, fn_c_105, c_112, f_c_112, fn_c_112, c_126, c_138]) dL_acts_177
            · refine g_iconst (v := (nI 1)) X dL_acts_141 rfl ?_
              refine g_goto (tgt := 146) X dL_acts_142 (by decide) ?_
              refine g_istore (lv' := [(12, .int (nI 1)), (11, .int (nI (lwN (x >>> ((nI 14) &&& 31)) 64))), (10, .int (nI (lwN (x >>> ((nI 8) &&& 31)) 64))), (9, .int (nI ((8 * (lwN (x >>> ((nI 3) &&& 31)) 2)) + (lwN (x >>> ((nI 4) &&& 31)) 9)))), (8, .int (nI (mmV v (lwN (x >>> ((nI 3) &&& 31)) 2)))), (7, .int (nI (lwN (x >>> ((nI 12) &&& 31)) 11))), (6, .int (nI (lwN (x >>> ((nI 8) &&& 31)) 9))), (5, .int (nI (lwN (x >>> ((nI 4) &&& 31)) 9))), (4, .int (nI (lwN (x >>> ((nI 3) &&& 31)) 2))), (3, .int (nI (lwN x 8))), (0, .ref ad), (1, .ref ae), (2, .int x)]) X dL_acts_146 (by decide) rfl ?_
              refine g_aload_n X 10 dL_acts_148 rfl ?_
              refine g_bipush (v := (nI 16)) X dL_acts_149 rfl ?_
              refine g_iload X 3 dL_acts_151 rfl ?_
              refine g_iaddN X dL_acts_153 ?_
              refine g_iload X 2 dL_acts_154 rfl ?_
              refine g_iast (ws' := [wAr E ad 48 (upd d (16 + ((8 * (lwN (x >>> ((nI 3) &&& 31)) 2)) + (lwN (x >>> ((nI 4) &&& 31)) 9))) (nI (lwN (x >>> ((nI 8) &&& 31)) 64))), wAr E ae 54 e].flatten) X 0 rfl (16 + ((8 * (lwN (x >>> ((nI 3) &&& 31)) 2)) + (lwN (x >>> ((nI 4) &&& 31)) 9))) (ix_nI (by omega) (by decide)) rfl dL_acts_156 ?_
              refine g_aload_n X 10 dL_acts_157 rfl ?_
              refine g_bipush (v := (nI 32)) X dL_acts_158 rfl ?_
              refine g_iload X 3 dL_acts_160 rfl ?_
              refine g_iaddN X dL_acts_162 ?_
              refine g_iload X 1 dL_acts_163 rfl ?_
              refine g_iast (ws' := [wAr E ad 48 (upd (upd d (16 + ((8 * (lwN (x >>> ((nI 3) &&& 31)) 2)) + (lwN (x >>> ((nI 4) &&& 31)) 9))) (nI (lwN (x >>> ((nI 8) &&& 31)) 64))) (32 + ((8 * (lwN (x >>> ((nI 3) &&& 31)) 2)) + (lwN (x >>> ((nI 4) &&& 31)) 9))) (nI (lwN (x >>> ((nI 14) &&& 31)) 64))), wAr E ae 54 e].flatten) X 0 rfl (32 + ((8 * (lwN (x >>> ((nI 3) &&& 31)) 2)) + (lwN (x >>> ((nI 4) &&& 31)) 9))) (ix_nI (by omega) (by decide)) rfl dL_acts_165 ?_
              refine g_iload X 0 dL_acts_166 rfl ?_
              refine g_if_eq (tgt := 176) X dL_acts_168 (by decide) (fun c_168 => absurd c_168 (by decide)) (fun c_168 => ?_)
              refine g_bipush (v := (-2)) X dL_acts_171 rfl ?_
              refine g_goto (tgt := 177) X dL_acts_173 (by decide) ?_
              exact g_iretv (r := (-2)) X hx rfl (by simp [aV, c_69, f_c_69, fn_c_69, c_98, f_c_98, fn_c_98, c_105, f_c_105, fn_c_105, c_112, f_c_112, fn_c_112, c_126, c_138]) (by simp [aD, aE, jnE, ctE, c_69, f_c_69, fn_c_69, c_98, f_c_98, fn_c_98, c_105, f_c_105, fn_c_105, c_112, f_c_112, fn_c_112, c_126, c_138]) dL_acts_177
        · have f_c_112 : 60 < lwN (x >>> ((nI 14) &&& 31)) 64 := n_nle (by omega) (by omega) c_112
          have fn_c_112 := Nat.not_le.mpr f_c_112
          refine g_iconst (v := (-1)) X dL_acts_115 rfl ?_
          exact g_iretv (r := (-1)) X hx rfl (by simp [aV, c_69, f_c_69, fn_c_69, c_98, f_c_98, fn_c_98, c_105, f_c_105, fn_c_105, c_112, f_c_112, fn_c_112]) (by simp [aD, aE, jnE, ctE, c_69, f_c_69, fn_c_69, c_98, f_c_98, fn_c_98, c_105, f_c_105, fn_c_105, c_112, f_c_112, fn_c_112]) dL_acts_116
