section LAW
variable {E : GE} {nm0 : String} {p : Program} {ev : Env} {s0 : State} {m : MethodId} {b : Nat} {below : List Frame} {meth : Method} {c : Code} {O : Nat → Nat → Nat} {Q : Nat → Nat → Nat → Nat} {ad ae cells slots L : Nat} {xs : Nat → Int32} {v : TV} {w : TXT} {f : Nat → Int32} {oa : PO} {ok : PO} {ta : Nat → TV} {tk : Nat → TV} {d : Nat → Int32} {e : Nat → Int32}
set_option maxHeartbeats 4000000 in
set_option maxRecDepth 100000 in
theorem lw_s4 (X : CX E (m_L nm0) (GL p ev s0 m b below meth c)) (hX : SC (GL p ev s0 m b below meth c) b L xs) (hL : L < 2 ^ 31) (hcs : cells ≤ 600000 ∧ slots ≤ 7302250) {z : ScrT} (rd R0 : Nat) (hrd : rd < 6) (hd : DE v d e) (hR : tR v = nI R0) (hR1 : 1 ≤ R0) (hR2 : R0 ≤ 20) (ho : ordO 8 oa) (hk : ordO 2 ok) (hk0 : ok.2 = 0)(kk : ∀ (v2 : TV) (oa2 : PO) (ta2 : Nat → TV) (ok1 : PO) (tk1 : Nat → TV) (x0 : TV) (z : ScrT), RV v2 → sS (tA v2) = sS (tA v) → ordO 8 oa2 → ordO 2 ok1 → ok1.2 = 1 → tk1 (ok1.1 0) = tCopy v x0 → GG E (m_L nm0) (GL p ev s0 m b below meth c) cells slots (wL E O Q ad ae v2 w f oa2 ok1 ta2 tk1 d e z) [(0, .ref b), (1, .ref (O 0 0)), (2, .ref ad), (3, .ref ae), (4, .int (nI rd)), (5, .int (celV L xs (25 + rd))), (6, .int (nI (sM (tA v)))), (7, .int (nI (sM (tB v)))), (8, .int (nI (sS (tA v)))), (9, .int (nI oa.2)), (10, .int (nI R0)), (11, .int (nI 1)), (12, .int (nI (mtC (cM v) (sM (tA v)))))] 1153 []) : GG E (m_L nm0) (GL p ev s0 m b below meth c) cells slots (wL E O Q ad ae v w f oa ok ta tk d e z) [(0, .ref b), (1, .ref (O 0 0)), (2, .ref ad), (3, .ref ae), (4, .int (nI rd)), (5, .int (celV L xs (25 + rd))), (6, .int (nI (sM (tA v)))), (7, .int (nI (sM (tB v)))), (8, .int (nI (sS (tA v)))), (9, .int (nI oa.2)), (10, .int (nI R0)), (11, .int (nI 1)), (12, .int (nI (mtC (cM v) (sM (tA v)))))] 1007 [] := by
  have hv : okT v := hd.ok
  have h8a := hv.1.1
  have h8b := hv.2.1.1
  have h8s := hv.1.2
  have h8t := hv.2.1.2
  have h1a := hd.1.2.1
  have h1b := hd.1.2.2
  have htn3 := hv.2.2
  have hRR4 : R0 * R0 ≤ 400 := Nat.le_trans (Nat.mul_le_mul hR2 hR2) (by decide)
  refine g_aload_n X 1 dL_law_1007 rfl ?_
  refine g_iconst (v := (nI 5)) X dL_law_1008 rfl ?_
  refine k_count X cs_L_47 rfl (Nat.le_of_ble_eq_true rfl) dL_law_1009 ?_ hcs
  rw [cq_5]
  refine g_istore (lv' := [(16, .int (nI (tN v))), (0, .ref b), (1, .ref (O 0 0)), (2, .ref ad), (3, .ref ae), (4, .int (nI rd)), (5, .int (celV L xs (25 + rd))), (6, .int (nI (sM (tA v)))), (7, .int (nI (sM (tB v)))), (8, .int (nI (sS (tA v)))), (9, .int (nI oa.2)), (10, .int (nI R0)), (11, .int (nI 1)), (12, .int (nI (mtC (cM v) (sM (tA v)))))]) X dL_law_1012 (show 16 < 23 by decide) rfl ?_
  refine g_iload X 12 dL_law_1014 rfl ?_
  refine g_if_eq (tgt := 1047) X dL_law_1016 (by decide) (fun c_1016 => absurd c_1016 (by decide)) (fun c_1016 => ?_)
  refine g_aload_n X 2 dL_law_1019 rfl ?_
  refine k_keep X hk cs_L_117 rfl (Nat.le_of_ble_eq_true rfl) dL_law_1020 ?_ hcs
  obtain ⟨p1, x0, p2⟩ := push2 hk0 tk v
  simp only [if_pos (show ok.2 < 2 by omega)]
  rw [show ok.2 + 1 = 1 by omega]
  obtain ⟨ok1, eok⟩ : ∃ ok1, pushO 2 ok = ok1 := ⟨_, rfl⟩
  obtain ⟨tk1, etk⟩ : ∃ tk1, pushT 2 ok tk v = tk1 := ⟨_, rfl⟩
  rw [eok] at p1
  rw [etk, eok] at p2
  rw [eok, etk]
  have hk1 : ordO 2 ok1 := by rw [← eok]; exact ordO_push hk (by decide)
  refine g_iconst (v := (nI 1)) X dL_law_1023 rfl ?_
  refine g_icmp_ne (tgt := 1047) X dL_law_1024 (by decide) (fun c_1024 => absurd (by decide) c_1024) (fun c_1024 => ?_)
  have J_1050 : ∀ (v2 : TV) (oa2 : PO) (ta2 : Nat → TV) (z : ScrT) (hV2 : RV v2) (ht2 : tN v2 = 0) (hA2 : tA v2 = tA v) (hB2 : tB v2 = tB v) (hRR : tR v2 = tR v) (ho2 : ordO 8 oa2), GG E (m_L nm0) (GL p ev s0 m b below meth c) cells slots (wL E O Q ad ae v2 w f oa2 ok1 ta2 tk1 d e z) [(0, .ref b), (1, .ref (O 0 0)), (2, .ref ad), (3, .ref ae), (4, .int (nI rd)), (5, .int (celV L xs (25 + rd))), (6, .int (nI (sM (tA v)))), (7, .int (nI (sM (tB v)))), (8, .int (nI (sS (tA v)))), (9, .int (nI oa.2)), (10, .int (nI R0)), (12, .int (nI (mtC (cM v) (sM (tA v))))), (16, .int (nI (tN v))), (11, .int (nI 1))] 1050 [] := by
    intro v2 oa2 ta2 z hV2 ht2 hA2 hB2 hRR ho2
    refine g_iconst (v := (nI 0)) X dL_law_1050 rfl ?_
    refine g_istore (lv' := [(17, .int (nI 0)), (0, .ref b), (1, .ref (O 0 0)), (2, .ref ad), (3, .ref ae), (4, .int (nI rd)), (5, .int (celV L xs (25 + rd))), (6, .int (nI (sM (tA v)))), (7, .int (nI (sM (tB v)))), (8, .int (nI (sS (tA v)))), (9, .int (nI oa.2)), (10, .int (nI R0)), (12, .int (nI (mtC (cM v) (sM (tA v))))), (16, .int (nI (tN v))), (11, .int (nI 1))]) X dL_law_1051 (show 17 < 23 by decide) rfl ?_
    have L_1053 : ∀ (n_1053 : Nat) (i : Nat) (z : ScrT) (hi : i ≤ sM (tA v)) (hm_1053 : sM (tA v) - i < n_1053) (x_17 : Int32) (ex_17 : x_17 = (nI i)), GG E (m_L nm0) (GL p ev s0 m b below meth c) cells slots (wL E O Q ad ae v2 w f oa2 ok1 ta2 tk1 d e z) [(0, .ref b), (1, .ref (O 0 0)), (2, .ref ad), (3, .ref ae), (4, .int (nI rd)), (5, .int (celV L xs (25 + rd))), (6, .int (nI (sM (tA v)))), (7, .int (nI (sM (tB v)))), (8, .int (nI (sS (tA v)))), (9, .int (nI oa.2)), (10, .int (nI R0)), (11, .int (nI 1)), (12, .int (nI (mtC (cM v) (sM (tA v))))), (16, .int (nI (tN v))), (17, .int x_17)] 1053 [] := by
      intro n_1053
      induction n_1053 with
      | zero => intro i z hi hm_1053; exact absurd hm_1053 (Nat.not_lt_zero _)
      | succ n_1053 ih_1053 =>
        intro i z hi hm_1053 x_17 ex_17
        subst ex_17
        refine g_iload X 14 dL_law_1053 rfl ?_
        refine g_iload X 6 dL_law_1055 rfl ?_
        refine g_icmp_ge (tgt := 1153) X dL_law_1057 (by decide) (fun c_1057 => ?_) (fun c_1057 => ?_)
        · have f_c_1057 : sM (tA v) ≤ i := n_le (by omega) (by omega) c_1057
          have fn_c_1057 := Nat.not_lt.mpr f_c_1057
          refine GG.lv [0, 1, 2, 3, 4, 5, 6, 7, 8, 9, 10, 11, 12] rfl ?_
          exact kk v2 oa2 ta2 ok1 tk1 x0 z (hV2) (by rw [hA2]) (ho2) (hk1) (p1) (p2)
        · have f_c_1057 : i < sM (tA v) := n_nle (by omega) (by omega) c_1057
          have fn_c_1057 := Nat.not_le.mpr f_c_1057
          refine g_iconst (v := (nI 0)) X dL_law_1060 rfl ?_
          refine g_istore (lv' := [(18, .int (nI 0)), (0, .ref b), (1, .ref (O 0 0)), (2, .ref ad), (3, .ref ae), (4, .int (nI rd)), (5, .int (celV L xs (25 + rd))), (6, .int (nI (sM (tA v)))), (7, .int (nI (sM (tB v)))), (8, .int (nI (sS (tA v)))), (9, .int (nI oa.2)), (10, .int (nI R0)), (11, .int (nI 1)), (12, .int (nI (mtC (cM v) (sM (tA v))))), (16, .int (nI (tN v))), (17, .int (nI i))]) X dL_law_1061 (show 18 < 23 by decide) rfl ?_
          have L_1063 : ∀ (n_1063 : Nat) (k : Nat) (z : ScrT) (hkk : k ≤ sM (tB v)) (hm_1063 : sM (tB v) - k < n_1063) (x_18 : Int32) (ex_18 : x_18 = (nI k)), GG E (m_L nm0) (GL p ev s0 m b below meth c) cells slots (wL E O Q ad ae v2 w f oa2 ok1 ta2 tk1 d e z) [(0, .ref b), (1, .ref (O 0 0)), (2, .ref ad), (3, .ref ae), (4, .int (nI rd)), (5, .int (celV L xs (25 + rd))), (6, .int (nI (sM (tA v)))), (7, .int (nI (sM (tB v)))), (8, .int (nI (sS (tA v)))), (9, .int (nI oa.2)), (10, .int (nI R0)), (11, .int (nI 1)), (12, .int (nI (mtC (cM v) (sM (tA v))))), (16, .int (nI (tN v))), (17, .int (nI i)), (18, .int x_18)] 1063 [] := by
            intro n_1063
            induction n_1063 with
            | zero => intro k z hkk hm_1063; exact absurd hm_1063 (Nat.not_lt_zero _)
            | succ n_1063 ih_1063 =>
              intro k z hkk hm_1063 x_18 ex_18
              subst ex_18
              refine g_iload X 15 dL_law_1063 rfl ?_
              refine g_iload X 7 dL_law_1065 rfl ?_
              refine g_icmp_ge (tgt := 1147) X dL_law_1067 (by decide) (fun c_1067 => ?_) (fun c_1067 => ?_)
              · have f_c_1067 : sM (tB v) ≤ k := n_le (by omega) (by omega) c_1067
                have fn_c_1067 := Nat.not_lt.mpr f_c_1067
                refine g_iincN (lv' := [(17, .int (nI (i + 1))), (0, .ref b), (1, .ref (O 0 0)), (2, .ref ad), (3, .ref ae), (4, .int (nI rd)), (5, .int (celV L xs (25 + rd))), (6, .int (nI (sM (tA v)))), (7, .int (nI (sM (tB v)))), (8, .int (nI (sS (tA v)))), (9, .int (nI oa.2)), (10, .int (nI R0)), (11, .int (nI 1)), (12, .int (nI (mtC (cM v) (sM (tA v))))), (16, .int (nI (tN v))), (18, .int (nI k))]) X 14 dL_law_1147 rfl (show 17 < 23 by decide) rfl ?_
                refine g_goto (tgt := 1053) X dL_law_1150 (by decide) ?_
                refine GG.lv [1, 2, 3, 4, 5, 6, 7, 8, 9, 10, 11, 12, 13, 14, 0] rfl ?_
                exact ih_1053 (i + 1) z (by omega) (by omega) (nI (i + 1)) (by rfl)
              · have f_c_1067 : k < sM (tB v) := n_nle (by omega) (by omega) c_1067
                have fn_c_1067 := Nat.not_le.mpr f_c_1067
                refine g_aload_n X 1 dL_law_1070 rfl ?_
                refine g_iload X 14 dL_law_1071 rfl ?_
                refine g_iload X 15 dL_law_1073 rfl ?_
                refine k_belief X hV2 cs_L_102 rfl (Nat.le_of_ble_eq_true rfl) dL_law_1075 (fun z => ?_) hcs
                obtain ⟨r, dd, r1, r2, hdd, eR, eD, hbe⟩ := be_or hV2 (i := i) (j := k) (by rw [hA2]; omega) (by rw [hB2]; omega)
                have hrR : r = R0 := n_eq (by omega) (by omega) (eR.symm.trans (hRR.trans hR))
                rw [hrR] at hbe
                have eD1 : sqD v i k = nI dd := by rw [← eD]; unfold sqD; rw [hA2, hB2]
                rcases hbe with ⟨b0, -, -⟩ | ⟨cb, cb1, cb2, b0, -, -, hcb0⟩
                · rw [b0]
                  refine g_istore (lv' := [(19, .int (-4)), (0, .ref b), (1, .ref (O 0 0)), (2, .ref ad), (3, .ref ae), (4, .int (nI rd)), (5, .int (celV L xs (25 + rd))), (6, .int (nI (sM (tA v)))), (7, .int (nI (sM (tB v)))), (8, .int (nI (sS (tA v)))), (9, .int (nI oa.2)), (10, .int (nI R0)), (11, .int (nI 1)), (12, .int (nI (mtC (cM v) (sM (tA v))))), (16, .int (nI (tN v))), (17, .int (nI i)), (18, .int (nI k))]) X dL_law_1078 (show 19 < 23 by decide) rfl ?_
                  refine g_iload X 11 dL_law_1080 rfl ?_
                  refine g_iload X 11 dL_law_1082 rfl ?_
                  refine g_imulN X dL_law_1084 ?_
                  refine g_iconst (v := (nI 1)) X dL_law_1085 rfl ?_
                  refine g_iaddN X dL_law_1086 ?_
                  refine g_aload_n X 3 dL_law_1087 rfl ?_
                  refine g_iload X 15 dL_law_1088 rfl ?_
                  refine g_bipush (v := (nI 8)) X dL_law_1090 rfl ?_
                  refine g_iload X 16 dL_law_1092 rfl ?_
                  refine g_iaddN X dL_law_1094 ?_
                  refine k_distance X (a := i) (b := 8 + k) (by omega) (by omega) cs_L_86 rfl (Nat.le_of_ble_eq_true rfl) dL_law_1095 ?_ hcs
                  rw [(dis_eq hd (show i < sM (tA v) by omega) (show k < sM (tB v) by omega)).trans eD1]
                  rcases Nat.lt_or_ge (R0 * R0) dd with hq | hq
                  · skip
                    refine g_isub X dL_law_1098 ?_
                    refine g_istore (lv' := [(20, .int ((nI (R0 * R0 + 1)) - (nI dd))), (19, .int (-4)), (0, .ref b), (1, .ref (O 0 0)), (2, .ref ad), (3, .ref ae), (4, .int (nI rd)), (5, .int (celV L xs (25 + rd))), (6, .int (nI (sM (tA v)))), (7, .int (nI (sM (tB v)))), (8, .int (nI (sS (tA v)))), (9, .int (nI oa.2)), (10, .int (nI R0)), (11, .int (nI 1)), (12, .int (nI (mtC (cM v) (sM (tA v))))), (16, .int (nI (tN v))), (17, .int (nI i)), (18, .int (nI k))]) X dL_law_1099 (show 20 < 23 by decide) rfl ?_
                    refine g_iload X 13 dL_law_1101 rfl ?_
                    refine g_if_eq (tgt := 1138) X dL_law_1103 (by decide) (fun c_1103 => absurd c_1103 (by decide)) (fun c_1103 => ?_)
                    refine g_iload X 1 dL_law_1106 rfl ?_
                    refine g_bipush (v := (-4)) X dL_law_1108 rfl ?_
                    refine g_icmp_eq (tgt := 1134) X dL_law_1110 (by decide) (fun c_1110 => ?_) (fun c_1110 => absurd (by decide) c_1110)
                    refine g_iconst (v := (nI 1)) X dL_law_1134 rfl ?_
                    refine g_goto (tgt := 1139) X dL_law_1135 (by decide) ?_
                    refine g_istore (lv' := [(11, .int (nI 1)), (20, .int ((nI (R0 * R0 + 1)) - (nI dd))), (19, .int (-4)), (0, .ref b), (1, .ref (O 0 0)), (2, .ref ad), (3, .ref ae), (4, .int (nI rd)), (5, .int (celV L xs (25 + rd))), (6, .int (nI (sM (tA v)))), (7, .int (nI (sM (tB v)))), (8, .int (nI (sS (tA v)))), (9, .int (nI oa.2)), (10, .int (nI R0)), (12, .int (nI (mtC (cM v) (sM (tA v))))), (16, .int (nI (tN v))), (17, .int (nI i)), (18, .int (nI k))]) X dL_law_1139 (show 11 < 23 by decide) rfl ?_
                    refine g_iincN (lv' := [(18, .int (nI (k + 1))), (11, .int (nI 1)), (20, .int ((nI (R0 * R0 + 1)) - (nI dd))), (19, .int (-4)), (0, .ref b), (1, .ref (O 0 0)), (2, .ref ad), (3, .ref ae), (4, .int (nI rd)), (5, .int (celV L xs (25 + rd))), (6, .int (nI (sM (tA v)))), (7, .int (nI (sM (tB v)))), (8, .int (nI (sS (tA v)))), (9, .int (nI oa.2)), (10, .int (nI R0)), (12, .int (nI (mtC (cM v) (sM (tA v))))), (16, .int (nI (tN v))), (17, .int (nI i))]) X 17 dL_law_1141 rfl (show 18 < 23 by decide) rfl ?_
                    refine g_goto (tgt := 1063) X dL_law_1144 (by decide) ?_
                    refine GG.lv [4, 5, 6, 7, 8, 9, 10, 11, 12, 13, 14, 1, 15, 16, 17, 0] rfl ?_
                    exact ih_1063 (k + 1) z (by omega) (by omega) (nI (k + 1)) (by rfl)
                  · skip
                    refine g_isubN X (by omega) dL_law_1098 ?_
                    refine g_istore (lv' := [(20, .int (nI (((R0 * R0) + 1) - dd))), (19, .int (-4)), (0, .ref b), (1, .ref (O 0 0)), (2, .ref ad), (3, .ref ae), (4, .int (nI rd)), (5, .int (celV L xs (25 + rd))), (6, .int (nI (sM (tA v)))), (7, .int (nI (sM (tB v)))), (8, .int (nI (sS (tA v)))), (9, .int (nI oa.2)), (10, .int (nI R0)), (11, .int (nI 1)), (12, .int (nI (mtC (cM v) (sM (tA v))))), (16, .int (nI (tN v))), (17, .int (nI i)), (18, .int (nI k))]) X dL_law_1099 (show 20 < 23 by decide) rfl ?_
                    refine g_iload X 13 dL_law_1101 rfl ?_
                    refine g_if_eq (tgt := 1138) X dL_law_1103 (by decide) (fun c_1103 => absurd c_1103 (by decide)) (fun c_1103 => ?_)
                    refine g_iload X 1 dL_law_1106 rfl ?_
                    refine g_bipush (v := (-4)) X dL_law_1108 rfl ?_
                    refine g_icmp_eq (tgt := 1134) X dL_law_1110 (by decide) (fun c_1110 => ?_) (fun c_1110 => absurd (by decide) c_1110)
                    refine g_iconst (v := (nI 1)) X dL_law_1134 rfl ?_
                    refine g_goto (tgt := 1139) X dL_law_1135 (by decide) ?_
                    refine g_istore (lv' := [(11, .int (nI 1)), (20, .int (nI (((R0 * R0) + 1) - dd))), (19, .int (-4)), (0, .ref b), (1, .ref (O 0 0)), (2, .ref ad), (3, .ref ae), (4, .int (nI rd)), (5, .int (celV L xs (25 + rd))), (6, .int (nI (sM (tA v)))), (7, .int (nI (sM (tB v)))), (8, .int (nI (sS (tA v)))), (9, .int (nI oa.2)), (10, .int (nI R0)), (12, .int (nI (mtC (cM v) (sM (tA v))))), (16, .int (nI (tN v))), (17, .int (nI i)), (18, .int (nI k))]) X dL_law_1139 (show 11 < 23 by decide) rfl ?_
                    refine g_iincN (lv' := [(18, .int (nI (k + 1))), (11, .int (nI 1)), (20, .int (nI (((R0 * R0) + 1) - dd))), (19, .int (-4)), (0, .ref b), (1, .ref (O 0 0)), (2, .ref ad), (3, .ref ae), (4, .int (nI rd)), (5, .int (celV L xs (25 + rd))), (6, .int (nI (sM (tA v)))), (7, .int (nI (sM (tB v)))), (8, .int (nI (sS (tA v)))), (9, .int (nI oa.2)), (10, .int (nI R0)), (12, .int (nI (mtC (cM v) (sM (tA v))))), (16, .int (nI (tN v))), (17, .int (nI i))]) X 17 dL_law_1141 rfl (show 18 < 23 by decide) rfl ?_
                    refine g_goto (tgt := 1063) X dL_law_1144 (by decide) ?_
                    refine GG.lv [4, 5, 6, 7, 8, 9, 10, 11, 12, 13, 14, 1, 15, 16, 17, 0] rfl ?_
                    exact ih_1063 (k + 1) z (by omega) (by omega) (nI (k + 1)) (by rfl)
                · rw [b0]
                  have hcb := hcb0 ht2
                  refine g_istore (lv' := [(19, .int (nI cb)), (0, .ref b), (1, .ref (O 0 0)), (2, .ref ad), (3, .ref ae), (4, .int (nI rd)), (5, .int (celV L xs (25 + rd))), (6, .int (nI (sM (tA v)))), (7, .int (nI (sM (tB v)))), (8, .int (nI (sS (tA v)))), (9, .int (nI oa.2)), (10, .int (nI R0)), (11, .int (nI 1)), (12, .int (nI (mtC (cM v) (sM (tA v))))), (16, .int (nI (tN v))), (17, .int (nI i)), (18, .int (nI k))]) X dL_law_1078 (show 19 < 23 by decide) rfl ?_
                  refine g_iload X 11 dL_law_1080 rfl ?_
                  refine g_iload X 11 dL_law_1082 rfl ?_
                  refine g_imulN X dL_law_1084 ?_
                  refine g_iconst (v := (nI 1)) X dL_law_1085 rfl ?_
                  refine g_iaddN X dL_law_1086 ?_
                  refine g_aload_n X 3 dL_law_1087 rfl ?_
                  refine g_iload X 15 dL_law_1088 rfl ?_
                  refine g_bipush (v := (nI 8)) X dL_law_1090 rfl ?_
                  refine g_iload X 16 dL_law_1092 rfl ?_
                  refine g_iaddN X dL_law_1094 ?_
                  refine k_distance X (a := i) (b := 8 + k) (by omega) (by omega) cs_L_86 rfl (Nat.le_of_ble_eq_true rfl) dL_law_1095 ?_ hcs
                  rw [(dis_eq hd (show i < sM (tA v) by omega) (show k < sM (tB v) by omega)).trans eD1]
                  rcases Nat.lt_or_ge (R0 * R0) dd with hq | hq
                  · have hcb2 : cb = 512 := by rw [hcb, if_neg (show ¬ 1 < R0 * R0 + 1 - dd by omega)]
                    refine g_isub X dL_law_1098 ?_
                    refine g_istore (lv' := [(20, .int ((nI (R0 * R0 + 1)) - (nI dd))), (19, .int (nI cb)), (0, .ref b), (1, .ref (O 0 0)), (2, .ref ad), (3, .ref ae), (4, .int (nI rd)), (5, .int (celV L xs (25 + rd))), (6, .int (nI (sM (tA v)))), (7, .int (nI (sM (tB v)))), (8, .int (nI (sS (tA v)))), (9, .int (nI oa.2)), (10, .int (nI R0)), (11, .int (nI 1)), (12, .int (nI (mtC (cM v) (sM (tA v))))), (16, .int (nI (tN v))), (17, .int (nI i)), (18, .int (nI k))]) X dL_law_1099 (show 20 < 23 by decide) rfl ?_
                    refine g_iload X 13 dL_law_1101 rfl ?_
                    refine g_if_eq (tgt := 1138) X dL_law_1103 (by decide) (fun c_1103 => absurd c_1103 (by decide)) (fun c_1103 => ?_)
                    refine g_iload X 1 dL_law_1106 rfl ?_
                    refine g_bipush (v := (-4)) X dL_law_1108 rfl ?_
                    refine g_icmp_eq (tgt := 1134) X dL_law_1110 (by decide) (fun c_1110 => absurd c_1110 (ng_eq (by omega) (by decide))) (fun c_1110 => ?_)
                    refine g_iload X 1 dL_law_1113 rfl ?_
                    refine g_sipush (v := (nI 512)) X dL_law_1115 rfl ?_
                    refine g_iload X 0 dL_law_1118 rfl ?_
                    refine g_iconst (v := (nI 1)) X dL_law_1120 rfl ?_
                    refine g_icmp_ge (tgt := 1128) X dL_law_1121 (by decide) (fun c_1121 => absurd c_1121 (by rw [i_le, pk_sub_toInt (by omega) (by omega), nI_toInt (by decide)]; omega)) (fun c_1121 => ?_)
                    refine g_iconst (v := (nI 1)) X dL_law_1124 rfl ?_
                    refine g_goto (tgt := 1130) X dL_law_1125 (by decide) ?_
                    refine g_imulN X dL_law_1130 ?_
                    refine g_icmp_ne (tgt := 1138) X dL_law_1131 (by decide) (fun c_1131 => by exfalso; have f_ : ¬ cb = 512 := n_ne (by omega) (by omega) c_1131; omega) (fun c_1131 => ?_)
                    refine g_iconst (v := (nI 1)) X dL_law_1134 rfl ?_
                    refine g_goto (tgt := 1139) X dL_law_1135 (by decide) ?_
                    refine g_istore (lv' := [(11, .int (nI 1)), (20, .int ((nI (R0 * R0 + 1)) - (nI dd))), (19, .int (nI cb)), (0, .ref b), (1, .ref (O 0 0)), (2, .ref ad), (3, .ref ae), (4, .int (nI rd)), (5, .int (celV L xs (25 + rd))), (6, .int (nI (sM (tA v)))), (7, .int (nI (sM (tB v)))), (8, .int (nI (sS (tA v)))), (9, .int (nI oa.2)), (10, .int (nI R0)), (12, .int (nI (mtC (cM v) (sM (tA v))))), (16, .int (nI (tN v))), (17, .int (nI i)), (18, .int (nI k))]) X dL_law_1139 (show 11 < 23 by decide) rfl ?_
                    refine g_iincN (lv' := [(18, .int (nI (k + 1))), (11, .int (nI 1)), (20, .int ((nI (R0 * R0 + 1)) - (nI dd))), (19, .int (nI cb)), (0, .ref b), (1, .ref (O 0 0)), (2, .ref ad), (3, .ref ae), (4, .int (nI rd)), (5, .int (celV L xs (25 + rd))), (6, .int (nI (sM (tA v)))), (7, .int (nI (sM (tB v)))), (8, .int (nI (sS (tA v)))), (9, .int (nI oa.2)), (10, .int (nI R0)), (12, .int (nI (mtC (cM v) (sM (tA v))))), (16, .int (nI (tN v))), (17, .int (nI i))]) X 17 dL_law_1141 rfl (show 18 < 23 by decide) rfl ?_
                    refine g_goto (tgt := 1063) X dL_law_1144 (by decide) ?_
                    refine GG.lv [4, 5, 6, 7, 8, 9, 10, 11, 12, 13, 14, 1, 15, 16, 17, 0] rfl ?_
                    exact ih_1063 (k + 1) z (by omega) (by omega) (nI (k + 1)) (by rfl)
                  · have hcb2 : cb = 512 * (R0 * R0 + 1 - dd) := by rw [hcb]; split <;> omega
                    refine g_isubN X (by omega) dL_law_1098 ?_
                    refine g_istore (lv' := [(20, .int (nI (((R0 * R0) + 1) - dd))), (19, .int (nI cb)), (0, .ref b), (1, .ref (O 0 0)), (2, .ref ad), (3, .ref ae), (4, .int (nI rd)), (5, .int (celV L xs (25 + rd))), (6, .int (nI (sM (tA v)))), (7, .int (nI (sM (tB v)))), (8, .int (nI (sS (tA v)))), (9, .int (nI oa.2)), (10, .int (nI R0)), (11, .int (nI 1)), (12, .int (nI (mtC (cM v) (sM (tA v))))), (16, .int (nI (tN v))), (17, .int (nI i)), (18, .int (nI k))]) X dL_law_1099 (show 20 < 23 by decide) rfl ?_
                    refine g_iload X 13 dL_law_1101 rfl ?_
                    refine g_if_eq (tgt := 1138) X dL_law_1103 (by decide) (fun c_1103 => absurd c_1103 (by decide)) (fun c_1103 => ?_)
                    refine g_iload X 1 dL_law_1106 rfl ?_
                    refine g_bipush (v := (-4)) X dL_law_1108 rfl ?_
                    refine g_icmp_eq (tgt := 1134) X dL_law_1110 (by decide) (fun c_1110 => absurd c_1110 (ng_eq (by omega) (by decide))) (fun c_1110 => ?_)
                    refine g_iload X 1 dL_law_1113 rfl ?_
                    refine g_sipush (v := (nI 512)) X dL_law_1115 rfl ?_
                    refine g_iload X 0 dL_law_1118 rfl ?_
                    refine g_iconst (v := (nI 1)) X dL_law_1120 rfl ?_
                    refine g_icmp_ge (tgt := 1128) X dL_law_1121 (by decide) (fun c_1121 => ?_) (fun c_1121 => by exfalso; have f_ : ((R0 * R0) + 1) - dd < 1 := n_nle (by omega) (by omega) c_1121; omega)
                    refine g_iload X 0 dL_law_1128 rfl ?_
                    refine g_imulN X dL_law_1130 ?_
                    refine g_icmp_ne (tgt := 1138) X dL_law_1131 (by decide) (fun c_1131 => by exfalso; have f_ : ¬ cb = 512 * (((R0 * R0) + 1) - dd) := n_ne (by omega) (by omega) c_1131; omega) (fun c_1131 => ?_)
                    refine g_iconst (v := (nI 1)) X dL_law_1134 rfl ?_
                    refine g_goto (tgt := 1139) X dL_law_1135 (by decide) ?_
                    refine g_istore (lv' := [(11, .int (nI 1)), (20, .int (nI (((R0 * R0) + 1) - dd))), (19, .int (nI cb)), (0, .ref b), (1, .ref (O 0 0)), (2, .ref ad), (3, .ref ae), (4, .int (nI rd)), (5, .int (celV L xs (25 + rd))), (6, .int (nI (sM (tA v)))), (7, .int (nI (sM (tB v)))), (8, .int (nI (sS (tA v)))), (9, .int (nI oa.2)), (10, .int (nI R0)), (12, .int (nI (mtC (cM v) (sM (tA v))))), (16, .int (nI (tN v))), (17, .int (nI i)), (18, .int (nI k))]) X dL_law_1139 (show 11 < 23 by decide) rfl ?_
                    refine g_iincN (lv' := [(18, .int (nI (k + 1))), (11, .int (nI 1)), (20, .int (nI (((R0 * R0) + 1) - dd))), (19, .int (nI cb)), (0, .ref b), (1, .ref (O 0 0)), (2, .ref ad), (3, .ref ae), (4, .int (nI rd)), (5, .int (celV L xs (25 + rd))), (6, .int (nI (sM (tA v)))), (7, .int (nI (sM (tB v)))), (8, .int (nI (sS (tA v)))), (9, .int (nI oa.2)), (10, .int (nI R0)), (12, .int (nI (mtC (cM v) (sM (tA v))))), (16, .int (nI (tN v))), (17, .int (nI i))]) X 17 dL_law_1141 rfl (show 18 < 23 by decide) rfl ?_
                    refine g_goto (tgt := 1063) X dL_law_1144 (by decide) ?_
                    refine GG.lv [4, 5, 6, 7, 8, 9, 10, 11, 12, 13, 14, 1, 15, 16, 17, 0] rfl ?_
                    exact ih_1063 (k + 1) z (by omega) (by omega) (nI (k + 1)) (by rfl)
          refine GG.lv [1, 2, 3, 4, 5, 6, 7, 8, 9, 10, 11, 12, 13, 14, 15, 0] rfl ?_
          exact L_1063 (sM (tB v) + 1) 0 z (by omega) (by omega) (nI 0) (by rfl)
    refine GG.lv [1, 2, 3, 4, 5, 6, 7, 8, 9, 10, 11, 14, 12, 13, 0] rfl ?_
    exact L_1053 (sM (tA v) + 1) 0 z (by omega) (by omega) (nI 0) (by rfl)
  refine g_iload X 0 dL_law_1027 rfl ?_
  refine g_if_eq (tgt := 1043) X dL_law_1029 (by decide) (fun c_1029 => ?_) (fun c_1029 => ?_)
  · have f_c_1029 : tN v = 0 := n_eq (by omega) (by omega) c_1029
    refine g_iconst (v := (nI 1)) X dL_law_1043 rfl ?_
    refine g_goto (tgt := 1048) X dL_law_1044 (by decide) ?_
    refine g_istore (lv' := [(11, .int (nI 1)), (16, .int (nI (tN v))), (0, .ref b), (1, .ref (O 0 0)), (2, .ref ad), (3, .ref ae), (4, .int (nI rd)), (5, .int (celV L xs (25 + rd))), (6, .int (nI (sM (tA v)))), (7, .int (nI (sM (tB v)))), (8, .int (nI (sS (tA v)))), (9, .int (nI oa.2)), (10, .int (nI R0)), (12, .int (nI (mtC (cM v) (sM (tA v)))))]) X dL_law_1048 (show 11 < 23 by decide) rfl ?_
    refine GG.lv [2, 3, 4, 5, 6, 7, 8, 9, 10, 11, 12, 13, 1, 0] rfl ?_
    exact J_1050 v oa ta z (hd.rv) (by omega) (rfl) (rfl) (rfl) (ho)
  · have f_c_1029 : ¬ tN v = 0 := n_ne (by omega) (by omega) c_1029
    refine g_aload_n X 2 dL_law_1032 rfl ?_
    refine g_iconst (v := (nI 1)) X dL_law_1033 rfl ?_
    refine g_iconst (v := (nI 0)) X dL_law_1034 rfl ?_
    refine k_tune X hv ho cs_L_72 rfl (Nat.le_of_ble_eq_true rfl) dL_law_1035 ?_ hcs
    obtain ⟨t1, t2, t3⟩ := tn_0 (v := v) (by omega) hv.2.2
    simp only [t1, t2, t3, if_true]
    refine g_iload X 0 dL_law_1038 rfl ?_
    refine g_icmp_ne (tgt := 1047) X dL_law_1040 (by decide) (fun c_1040 => absurd rfl c_1040) (fun c_1040 => ?_)
    refine g_iconst (v := (nI 1)) X dL_law_1043 rfl ?_
    refine g_goto (tgt := 1048) X dL_law_1044 (by decide) ?_
    refine g_istore (lv' := [(11, .int (nI 1)), (16, .int (nI (tN v))), (0, .ref b), (1, .ref (O 0 0)), (2, .ref ad), (3, .ref ae), (4, .int (nI rd)), (5, .int (celV L xs (25 + rd))), (6, .int (nI (sM (tA v)))), (7, .int (nI (sM (tB v)))), (8, .int (nI (sS (tA v)))), (9, .int (nI oa.2)), (10, .int (nI R0)), (12, .int (nI (mtC (cM v) (sM (tA v)))))]) X dL_law_1048 (show 11 < 23 by decide) rfl ?_
    refine GG.lv [2, 3, 4, 5, 6, 7, 8, 9, 10, 11, 12, 13, 1, 0] rfl ?_
    exact J_1050 (tA v, tB v, tR v, 0) (pushO 8 oa) (pushT 8 oa ta v) z (rv_tune hd.rv) (rfl) (rfl) (rfl) (rfl) (ordO_push ho (by decide))
end LAW
