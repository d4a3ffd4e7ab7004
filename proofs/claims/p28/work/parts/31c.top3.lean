set_option maxHeartbeats 4000000 in
set_option maxRecDepth 100000 in
theorem c_X9_expressedStreets (E : GE) (O : Nat → Nat → Nat) (t : Nat) (a : Nat → Nat) (b : Nat → Nat) (v : TV) (P : Nat) (M : Nat → Int32) (wv : WY) (hv : okT v) : CT E m_X9_expressedStreets [.ref (O 0 0), .ref t] ([wTS E O, wTw E t a b (tR v) (tN v), wSv E a (tA v), wSv E b (tB v), wMo E (O 12) (O 13) (O 14) P, wAr E (O 12 3) 8 M, wWy E (O 15) wv].flatten) (some (.int (nI ((xsN v M (sS (tA v)) wv).1)))) ([wTS E O, wTw E t a b (tR v) (tN v), wSv E a (tA v), wSv E b (tB v), wMo E (O 12) (O 13) (O 14) P, wAr E (O 12 3) 8 M, wWy E (O 15) ((xsN v M (sS (tA v)) wv).2)].flatten) := by
  refine CT.intro (by decide +kernel) (Nat.le_of_ble_eq_true rfl) (fun Γ X hx => ?_)
  refine GG.lv [0, 1] (lv' := [(0, .ref (O 0 0)), (1, .ref t)]) rfl ?_
  have hA : okS (tA v) := hv.1
  have hB : okS (tB v) := hv.2.1
  have hv1 : sM (tA v) ≤ 8 := hA.1
  have hv2 : sS (tA v) ≤ 8 := hA.2
  have hv3 : sM (tB v) ≤ 8 := hB.1
  have hv4 : sS (tB v) ≤ 8 := hB.2
  have hv5 : tN v ≤ 3 := hv.2.2
  refine g_iconst (v := (nI 0)) X dX9_expressedStreets_0 rfl ?_
  refine g_istore_n (lv' := [(2, .int (nI 0)), (0, .ref (O 0 0)), (1, .ref t)]) X dX9_expressedStreets_1 (by decide) rfl ?_
  refine g_iconst (v := (nI 0)) X dX9_expressedStreets_2 rfl ?_
  refine g_istore_n (lv' := [(3, .int (nI 0)), (2, .int (nI 0)), (0, .ref (O 0 0)), (1, .ref t)]) X dX9_expressedStreets_3 (by decide) rfl ?_
  have L_4 : ∀ (n_4 : Nat) (k : Nat) (hk : k ≤ sS (tA v)) (hm_4 : sS (tA v) - k < n_4) (x_2 : Int32) (ex_2 : x_2 = (nI ((xsN v M k wv).1))) (x_3 : Int32) (ex_3 : x_3 = (nI k)) (u_0 : WY) (eu_0 : u_0 = (xsN v M k wv).2), GG E m_X9_expressedStreets Γ 0 0 ([wTS E O, wTw E t a b (tR v) (tN v), wSv E a (tA v), wSv E b (tB v), wMo E (O 12) (O 13) (O 14) P, wAr E (O 12 3) 8 M, wWy E (O 15) u_0].flatten) [(0, .ref (O 0 0)), (1, .ref t), (2, .int x_2), (3, .int x_3)] 4 [] := by
    intro n_4
    induction n_4 with
    | zero => intro k hk hm_4; exact absurd hm_4 (Nat.not_lt_zero _)
    | succ n_4 ih_4 =>
      intro k hk hm_4 x_2 ex_2 x_3 ex_3 u_0 eu_0
      subst ex_2
      subst ex_3
      subst eu_0
      refine g_iload_n X 3 dX9_expressedStreets_4 rfl ?_
      refine g_aload_n X 1 dX9_expressedStreets_5 rfl ?_
      refine g_iconst (v := (nI 0)) X dX9_expressedStreets_6 rfl ?_
      refine g_callVr (st2 := [.ref (a 0), .int (nI k)]) (q0 := 0) X (c_X6_surveyOf_0 E t a b v) cs_X9_92 rfl [1, 2, 3] [0, 4, 5, 6] 7 rfl (by decide) rfl rfl rfl rfl rfl (Nat.le_of_ble_eq_true rfl) dX9_expressedStreets_7 rfl ?_
      refine g_callVr (st2 := [.int (nI (sS (tA v))), .int (nI k)]) (q0 := 0) X (c_X4_streets E a (tA v)) cs_X9_161 rfl [2] [0, 1, 3, 4, 5, 6] 7 rfl (by decide) rfl rfl rfl rfl rfl (Nat.le_of_ble_eq_true rfl) dX9_expressedStreets_10 rfl ?_
      refine g_icmp_ge (tgt := 41) X dX9_expressedStreets_13 (by decide) (fun c_13 => ?_) (fun c_13 => ?_)
      · have f_c_13 : sS (tA v) ≤ k := n_le (by omega) (by omega) c_13
        have fn_c_13 := Nat.not_lt.mpr f_c_13
        refine g_iload_n X 2 dX9_expressedStreets_41 rfl ?_
        exact g_iretv (r := (nI ((xsN v M k wv).1))) X hx rfl (by rw [show sS (tA v) = k by omega]) (by rw [show sS (tA v) = k by omega]) dX9_expressedStreets_42
      · have f_c_13 : k < sS (tA v) := n_nle (by omega) (by omega) c_13
        have fn_c_13 := Nat.not_le.mpr f_c_13
        refine g_aload_n X 0 dX9_expressedStreets_16 rfl ?_
        refine g_aload_n X 1 dX9_expressedStreets_17 rfl ?_
        refine g_iload_n X 3 dX9_expressedStreets_18 rfl ?_
        refine g_callV (st2 := []) (S' := [wTS E O, wTw E t a b (tR v) (tN v), wSv E a (tA v), wSv E b (tB v), wMo E (O 12) (O 13) (O 14) P, wAr E (O 12 3) 8 M, wWy E (O 15) (exW v M k ((xsN v M k wv).2))]) (q0 := 0) X (c_X9_express E O t a b v P M ((xsN v M k wv).2) k (by first | assumption | omega) (by first | assumption | omega)) cs_X9_207 rfl [0, 1, 2, 3, 4, 5, 6] [] 7 rfl rfl (by decide) [] rfl rfl rfl rfl (by simp only [List.map_cons, List.map_nil, fsAr, fsMo, fsSv, fsTS, fsTw, fsWy]) rfl rfl rfl rfl (Nat.le_of_ble_eq_true rfl) dX9_expressedStreets_19 rfl ?_
        refine g_aload_n X 0 dX9_expressedStreets_22 rfl ?_
        refine g_getf (v := .ref (O 15 0)) X fs_X9_59 0 rfl rfl dX9_expressedStreets_23 ?_
        refine g_callVr (st2 := [.int (b2i (decide (0 < (exW v M k ((xsN v M k wv).2)).2)))]) (q0 := 0) X (c_X8_isFound E (O 15) (exW v M k ((xsN v M k wv).2)) (exW_3 _ _ _ _)) cs_X9_211 rfl [6] [0, 1, 2, 3, 4, 5] 7 rfl (by decide) rfl rfl rfl rfl rfl (Nat.le_of_ble_eq_true rfl) dX9_expressedStreets_26 rfl ?_
        refine g_bif_eq (tgt := 35) X dX9_expressedStreets_29 (by decide) (fun c_29 => ?_) (fun c_29 => ?_)
        · have e29 := of_decide_eq_false c_29
          refine g_iincN (lv' := [(3, .int (nI (k + 1))), (0, .ref (O 0 0)), (1, .ref t), (2, .int (nI ((xsN v M k wv).1)))]) X 3 dX9_expressedStreets_35 rfl (by decide) rfl ?_
          refine g_goto (tgt := 4) X dX9_expressedStreets_38 (by decide) ?_
          refine GG.lv [1, 2, 3, 0] rfl ?_
          exact ih_4 (k + 1) (by omega) (by omega) (nI ((xsN v M k wv).1)) (by simp only [xsN, c_13, f_c_13, fn_c_13, c_29, e29, decide_true, decide_false, not_true_eq_false, not_false_eq_true, Bool.true_and, Bool.false_and, Bool.and_true, Bool.and_false, Bool.true_or, Bool.false_or, Bool.or_true, Bool.or_false, and_true, true_and, and_false, false_and, or_true, true_or, or_false, false_or, if_true, if_false, Bool.false_eq_true, decide_eq_true_eq]) (nI (k + 1)) (by rfl) (exW v M k ((xsN v M k wv).2)) (by rfl)
        · have e29 := of_decide_eq_true c_29
          refine g_iincN (lv' := [(2, .int (nI ((xsN v M k wv).1 + 1))), (0, .ref (O 0 0)), (1, .ref t), (3, .int (nI k))]) X 2 dX9_expressedStreets_32 rfl (by decide) rfl ?_
          refine g_iincN (lv' := [(3, .int (nI (k + 1))), (2, .int (nI ((xsN v M k wv).1 + 1))), (0, .ref (O 0 0)), (1, .ref t)]) X 3 dX9_expressedStreets_35 rfl (by decide) rfl ?_
          refine g_goto (tgt := 4) X dX9_expressedStreets_38 (by decide) ?_
          refine GG.lv [2, 3, 1, 0] rfl ?_
          exact ih_4 (k + 1) (by omega) (by omega) (nI ((xsN v M k wv).1 + 1)) (by simp only [xsN, c_13, f_c_13, fn_c_13, c_29, e29, decide_true, decide_false, not_true_eq_false, not_false_eq_true, Bool.true_and, Bool.false_and, Bool.and_true, Bool.and_false, Bool.true_or, Bool.false_or, Bool.or_true, Bool.or_false, and_true, true_and, and_false, false_and, or_true, true_or, or_false, false_or, if_true, if_false, Bool.false_eq_true, decide_eq_true_eq]) (nI (k + 1)) (by rfl) (exW v M k ((xsN v M k wv).2)) (by rfl)
  refine GG.lv [2, 3, 1, 0] rfl ?_
  exact L_4 (sS (tA v) + 1) 0 (by omega) (by omega) (nI 0) (by rfl) (nI 0) (by rfl) wv (by rfl)
