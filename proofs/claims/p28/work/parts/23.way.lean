set_option maxHeartbeats 4000000 in
set_option maxRecDepth 100000 in
theorem c_X8_isFound (E : GE) (wy : Nat → Nat) (w : WY) (hw : w.2 ≤ 3) : CT E m_X8_isFound [.ref (wy 0)] ([wWy E wy w].flatten) (some (.int (b2i (decide (0 < w.2))))) ([wWy E wy w].flatten) := by
  refine CT.intro (by decide +kernel) (Nat.le_of_ble_eq_true rfl) (fun Γ X hx => ?_)
  refine GG.lv [0] (lv' := [(0, .ref (wy 0))]) rfl ?_
  refine g_aload_n X 0 dX8_isFound_0 rfl ?_
  refine g_getf (v := .int (nI w.2)) X fs_X8_15 0 rfl rfl dX8_isFound_1 ?_
  refine g_if_le (tgt := 11) X dX8_isFound_4 (by decide) (fun c_4 => ?_) (fun c_4 => ?_)
  · have f_c_4 : w.2 ≤ 0 := n_le (by omega) (by omega) c_4
    have fn_c_4 := Nat.not_lt.mpr f_c_4
    refine g_iconst (v := (nI 0)) X dX8_isFound_11 rfl ?_
    exact g_zretv (r := (nI 0)) X hx rfl (by simp [b2i, c_4, f_c_4, fn_c_4]; try rfl) (by rfl) dX8_isFound_12
  · have f_c_4 : 0 < w.2 := n_nle (by omega) (by omega) c_4
    have fn_c_4 := Nat.not_le.mpr f_c_4
    refine g_iconst (v := (nI 1)) X dX8_isFound_7 rfl ?_
    refine g_goto (tgt := 12) X dX8_isFound_8 (by decide) ?_
    exact g_zretv (r := (nI 1)) X hx rfl (by simp [b2i, c_4, f_c_4, fn_c_4]; try rfl) (by rfl) dX8_isFound_12
set_option maxHeartbeats 4000000 in
set_option maxRecDepth 100000 in
theorem c_X8_streets (E : GE) (wy : Nat → Nat) (w : WY) : CT E m_X8_streets [.ref (wy 0)] ([wWy E wy w].flatten) (some (.int (nI w.2))) ([wWy E wy w].flatten) := by
  refine CT.intro (by decide +kernel) (Nat.le_of_ble_eq_true rfl) (fun Γ X hx => ?_)
  refine GG.lv [0] (lv' := [(0, .ref (wy 0))]) rfl ?_
  refine g_aload_n X 0 dX8_streets_0 rfl ?_
  refine g_getf (v := .int (nI w.2)) X fs_X8_15 0 rfl rfl dX8_streets_1 ?_
  exact g_iretv (r := (nI w.2)) X hx rfl (by rfl) (by rfl) dX8_streets_4
set_option maxHeartbeats 4000000 in
set_option maxRecDepth 100000 in
theorem c_X8_stopAt (E : GE) (wy : Nat → Nat) (w : WY) (k : Int32) (hw : w.2 ≤ 3) : CT E m_X8_stopAt [.ref (wy 0), .int k] ([wWy E wy w].flatten) (some (.int (wyStop w k))) ([wWy E wy w].flatten) := by
  refine CT.intro (by decide +kernel) (Nat.le_of_ble_eq_true rfl) (fun Γ X hx => ?_)
  refine GG.lv [0, 1] (lv' := [(0, .ref (wy 0)), (1, .int k)]) rfl ?_
  refine g_aload_n X 0 dX8_stopAt_0 rfl ?_
  refine g_callVr (st2 := [.int (b2i (decide (0 < w.2)))]) (q0 := 0) X (c_X8_isFound E wy w (by first | assumption | omega)) cs_X8_19 rfl [0] [] 1 rfl (by decide) rfl rfl rfl rfl rfl (Nat.le_of_ble_eq_true rfl) dX8_stopAt_1 rfl ?_
  refine g_bif_eq (tgt := 28) X dX8_stopAt_4 (by decide) (fun c_4 => ?_) (fun c_4 => ?_)
  · refine g_bipush (v := (-4)) X dX8_stopAt_28 rfl ?_
    exact g_iretv (r := (-4)) X hx rfl (by simp only [wyStop, c_4, decide_true, decide_false, not_true_eq_false, not_false_eq_true, Bool.true_and, Bool.false_and, Bool.and_true, Bool.and_false, Bool.true_or, Bool.false_or, Bool.or_true, Bool.or_false, and_true, true_and, and_false, false_and, or_true, true_or, or_false, false_or, if_true, if_false, Bool.false_eq_true, decide_eq_true_eq]) (by rfl) dX8_stopAt_30
  · refine g_iload_n X 1 dX8_stopAt_7 rfl ?_
    refine g_iconst (v := (nI 0)) X dX8_stopAt_8 rfl ?_
    refine g_aload_n X 0 dX8_stopAt_9 rfl ?_
    refine g_getf (v := .int (nI w.2)) X fs_X8_15 0 rfl rfl dX8_stopAt_10 ?_
    refine g_callN (st2 := [.int (b2i (inR k (nI 0) (nI w.2)))]) X (c_X9_isWithin E k (nI 0) (nI w.2)) cs_X8_23 rfl rfl rfl (Nat.le_of_ble_eq_true rfl) dX8_stopAt_13 rfl ?_
    refine g_bif_eq (tgt := 28) X dX8_stopAt_16 (by decide) (fun c_16 => ?_) (fun c_16 => ?_)
    · refine g_bipush (v := (-4)) X dX8_stopAt_28 rfl ?_
      exact g_iretv (r := (-4)) X hx rfl (by simp only [wyStop, c_4, c_16, decide_true, decide_false, not_true_eq_false, not_false_eq_true, Bool.true_and, Bool.false_and, Bool.and_true, Bool.and_false, Bool.true_or, Bool.false_or, Bool.or_true, Bool.or_false, and_true, true_and, and_false, false_and, or_true, true_or, or_false, false_or, if_true, if_false, Bool.false_eq_true, decide_eq_true_eq]) (by rfl) dX8_stopAt_30
    · obtain ⟨k1, hk1, rfl⟩ := inR_nI c_16 (by omega)
      refine g_aload_n X 0 dX8_stopAt_19 rfl ?_
      refine g_getf (v := .ref (wy 1)) X fs_X8_9 0 rfl rfl dX8_stopAt_20 ?_
      refine g_iload_n X 1 dX8_stopAt_23 rfl ?_
      refine g_iald X 1 rfl k1 (ix_nI (by omega) (by decide)) dX8_stopAt_24 ?_
      refine g_goto (tgt := 30) X dX8_stopAt_25 (by decide) ?_
      exact g_iretv (r := (w.1 k1)) X hx rfl (by simp only [wyStop, c_4, c_16, decide_true, decide_false, not_true_eq_false, not_false_eq_true, Bool.true_and, Bool.false_and, Bool.and_true, Bool.and_false, Bool.true_or, Bool.false_or, Bool.or_true, Bool.or_false, and_true, true_and, and_false, false_and, or_true, true_or, or_false, false_or, if_true, if_false, Bool.false_eq_true, decide_eq_true_eq]; rw [nI_clamp (by omega)]) (by rfl) dX8_stopAt_30
set_option maxHeartbeats 4000000 in
set_option maxRecDepth 100000 in
theorem c_X8_findOne (E : GE) (wy : Nat → Nat) (w : WY) (a : Nat → Nat) (v : SV) (x : Int32) (y : Int32) (hv : okS v) : CT E m_X8_findOne [.ref (wy 0), .ref (a 0), .int x, .int y] ([wWy E wy w, wSv E a v].flatten) (some (.int (b2i ((f1W v x y).isSome)))) ([wWy E wy (wy1 w.1 (f1W v x y), w.2), wSv E a v].flatten) := by
  refine CT.intro (by decide +kernel) (Nat.le_of_ble_eq_true rfl) (fun Γ X hx => ?_)
  refine GG.lv [0, 1, 2, 3] (lv' := [(0, .ref (wy 0)), (1, .ref (a 0)), (2, .int x), (3, .int y)]) rfl ?_
  have hv1 : sM v ≤ 8 := hv.1
  have hv2 : sS v ≤ 8 := hv.2
  refine g_iconst (v := (nI 0)) X dX8_findOne_0 rfl ?_
  refine g_istore (lv' := [(4, .int (nI 0)), (0, .ref (wy 0)), (1, .ref (a 0)), (2, .int x), (3, .int y)]) X dX8_findOne_1 (by decide) rfl ?_
  have L_3 : ∀ (n_3 : Nat) (m : Nat) (hm : m ≤ sM v) (hf : findF (fun m => sbQ v x (nI m) && sbQ v (nI m) y) m = none) (hm_3 : sM v - m < n_3) (x_4 : Int32) (ex_4 : x_4 = (nI m)), GG E m_X8_findOne Γ 0 0 ([wWy E wy w, wSv E a v].flatten) [(0, .ref (wy 0)), (1, .ref (a 0)), (2, .int x), (3, .int y), (4, .int x_4)] 3 [] := by
    intro n_3
    induction n_3 with
    | zero => intro m hm hf hm_3; exact absurd hm_3 (Nat.not_lt_zero _)
    | succ n_3 ih_3 =>
      intro m hm hf hm_3 x_4 ex_4
      subst ex_4
      refine g_iload X 4 dX8_findOne_3 rfl ?_
      refine g_aload_n X 1 dX8_findOne_5 rfl ?_
      refine g_callVr (st2 := [.int (nI (sM v)), .int (nI m)]) (q0 := 0) X (c_X4_meetings E a v) cs_X8_48 rfl [1] [0] 2 rfl (by decide) rfl rfl rfl rfl rfl (Nat.le_of_ble_eq_true rfl) dX8_findOne_6 rfl ?_
      refine g_icmp_ge (tgt := 50) X dX8_findOne_9 (by decide) (fun c_9 => ?_) (fun c_9 => ?_)
      · have f_c_9 : sM v ≤ m := n_le (by omega) (by omega) c_9
        have fn_c_9 := Nat.not_lt.mpr f_c_9
        refine g_iconst (v := (nI 0)) X dX8_findOne_50 rfl ?_
        exact g_zretv (r := (nI 0)) X hx rfl (by unfold f1W; rw [show sM v = m by omega, hf]; rfl) (by have h1 : f1W v x y = none := (by unfold f1W; rw [show sM v = m by omega]; exact hf); rw [h1]; rfl) dX8_findOne_51
      · have f_c_9 : m < sM v := n_nle (by omega) (by omega) c_9
        have fn_c_9 := Nat.not_le.mpr f_c_9
        refine g_aload_n X 1 dX8_findOne_12 rfl ?_
        refine g_iload_n X 2 dX8_findOne_13 rfl ?_
        refine g_iload X 4 dX8_findOne_14 rfl ?_
        refine g_callVr (st2 := [.int (oI (sbF v x (nI m)))]) (q0 := 0) X (c_X4_streetBetween E a v x (nI m) (by first | assumption | omega)) cs_X8_33 rfl [1] [0] 2 rfl (by decide) rfl rfl rfl rfl rfl (Nat.le_of_ble_eq_true rfl) dX8_findOne_16 rfl ?_
        refine g_iconst (v := (-1)) X dX8_findOne_19 rfl ?_
        refine g_icmp_eq (tgt := 44) X dX8_findOne_20 (by decide) (fun c_20 => ?_) (fun c_20 => ?_)
        · refine g_iincN (lv' := [(4, .int (nI (m + 1))), (0, .ref (wy 0)), (1, .ref (a 0)), (2, .int x), (3, .int y)]) X 4 dX8_findOne_44 rfl (by decide) rfl ?_
          refine g_goto (tgt := 3) X dX8_findOne_47 (by decide) ?_
          refine GG.lv [1, 2, 3, 4, 0] rfl ?_
          exact ih_3 (m + 1) (by omega) (findF_none hf (by simp [sbQ, c_9, f_c_9, fn_c_9, c_20])) (by omega) (nI (m + 1)) (by rfl)
        · refine g_aload_n X 1 dX8_findOne_23 rfl ?_
          refine g_iload X 4 dX8_findOne_24 rfl ?_
          refine g_iload_n X 3 dX8_findOne_26 rfl ?_
          refine g_callVr (st2 := [.int (oI (sbF v (nI m) y))]) (q0 := 0) X (c_X4_streetBetween E a v (nI m) y (by first | assumption | omega)) cs_X8_33 rfl [1] [0] 2 rfl (by decide) rfl rfl rfl rfl rfl (Nat.le_of_ble_eq_true rfl) dX8_findOne_27 rfl ?_
          refine g_iconst (v := (-1)) X dX8_findOne_30 rfl ?_
          refine g_icmp_eq (tgt := 44) X dX8_findOne_31 (by decide) (fun c_31 => ?_) (fun c_31 => ?_)
          · refine g_iincN (lv' := [(4, .int (nI (m + 1))), (0, .ref (wy 0)), (1, .ref (a 0)), (2, .int x), (3, .int y)]) X 4 dX8_findOne_44 rfl (by decide) rfl ?_
            refine g_goto (tgt := 3) X dX8_findOne_47 (by decide) ?_
            refine GG.lv [1, 2, 3, 4, 0] rfl ?_
            exact ih_3 (m + 1) (by omega) (findF_none hf (by simp [sbQ, c_9, f_c_9, fn_c_9, c_20, c_31])) (by omega) (nI (m + 1)) (by rfl)
          · refine g_aload_n X 0 dX8_findOne_34 rfl ?_
            refine g_getf (v := .ref (wy 1)) X fs_X8_9 0 rfl rfl dX8_findOne_35 ?_
            refine g_iconst (v := (nI 1)) X dX8_findOne_38 rfl ?_
            refine g_iload X 4 dX8_findOne_39 rfl ?_
            refine g_iast (ws' := [wWy E wy (upd w.1 1 (nI m), w.2), wSv E a v].flatten) X 1 rfl 1 (ix_nI (by omega) (by decide)) rfl dX8_findOne_41 ?_
            refine g_iconst (v := (nI 1)) X dX8_findOne_42 rfl ?_
            exact g_zretv (r := (nI 1)) X hx rfl (by unfold f1W; rw [findF_hit hf (by simp [sbQ, c_9, f_c_9, fn_c_9, c_20, c_31]) _ f_c_9]; rfl) (by have h1 : f1W v x y = some m := findF_hit hf (by simp [sbQ, c_9, f_c_9, fn_c_9, c_20, c_31]) _ f_c_9; rw [h1]; rfl) dX8_findOne_43
  refine GG.lv [1, 2, 3, 4, 0] rfl ?_
  exact L_3 (sM v + 1) 0 (by omega) (rfl) (by omega) (nI 0) (by rfl)
set_option maxHeartbeats 4000000 in
set_option maxRecDepth 100000 in
theorem c_X8_findTwo (E : GE) (wy : Nat → Nat) (w : WY) (a : Nat → Nat) (v : SV) (x : Int32) (y : Int32) (hv : okS v) : CT E m_X8_findTwo [.ref (wy 0), .ref (a 0), .int x, .int y] ([wWy E wy w, wSv E a v].flatten) (some (.int (b2i ((f2W v x y).isSome)))) ([wWy E wy (wy2 v x y w.1, w.2), wSv E a v].flatten) := by
  refine CT.intro (by decide +kernel) (Nat.le_of_ble_eq_true rfl) (fun Γ X hx => ?_)
  refine GG.lv [0, 1, 2, 3] (lv' := [(0, .ref (wy 0)), (1, .ref (a 0)), (2, .int x), (3, .int y)]) rfl ?_
  have hv1 : sM v ≤ 8 := hv.1
  have hv2 : sS v ≤ 8 := hv.2
  refine g_iconst (v := (nI 0)) X dX8_findTwo_0 rfl ?_
  refine g_istore (lv' := [(4, .int (nI 0)), (0, .ref (wy 0)), (1, .ref (a 0)), (2, .int x), (3, .int y)]) X dX8_findTwo_1 (by decide) rfl ?_
  have L_3 : ∀ (n_3 : Nat) (m : Nat) (hm : m ≤ sM v) (hf : findF (fun m => (f2I v x y m).isSome) m = none) (hm_3 : sM v - m < n_3) (x_4 : Int32) (ex_4 : x_4 = (nI m)), GG E m_X8_findTwo Γ 0 0 ([wWy E wy w, wSv E a v].flatten) [(0, .ref (wy 0)), (1, .ref (a 0)), (2, .int x), (3, .int y), (4, .int x_4)] 3 [] := by
    intro n_3
    induction n_3 with
    | zero => intro m hm hf hm_3; exact absurd hm_3 (Nat.not_lt_zero _)
    | succ n_3 ih_3 =>
      intro m hm hf hm_3 x_4 ex_4
      subst ex_4
      refine g_iload X 4 dX8_findTwo_3 rfl ?_
      refine g_aload_n X 1 dX8_findTwo_5 rfl ?_
      refine g_callVr (st2 := [.int (nI (sM v)), .int (nI m)]) (q0 := 0) X (c_X4_meetings E a v) cs_X8_48 rfl [1] [0] 2 rfl (by decide) rfl rfl rfl rfl rfl (Nat.le_of_ble_eq_true rfl) dX8_findTwo_6 rfl ?_
      refine g_icmp_ge (tgt := 100) X dX8_findTwo_9 (by decide) (fun c_9 => ?_) (fun c_9 => ?_)
      · have f_c_9 : sM v ≤ m := n_le (by omega) (by omega) c_9
        have fn_c_9 := Nat.not_lt.mpr f_c_9
        refine g_iconst (v := (nI 0)) X dX8_findTwo_100 rfl ?_
        exact g_zretv (r := (nI 0)) X hx rfl (by have h2 : f2W v x y = none := (by unfold f2W; rw [show sM v = m by omega]; exact hf); rw [h2]; rfl) (by have h2 : f2W v x y = none := (by unfold f2W; rw [show sM v = m by omega]; exact hf); simp only [wy2, h2]) dX8_findTwo_101
      · have f_c_9 : m < sM v := n_nle (by omega) (by omega) c_9
        have fn_c_9 := Nat.not_le.mpr f_c_9
        refine g_iconst (v := (nI 0)) X dX8_findTwo_12 rfl ?_
        refine g_istore (lv' := [(5, .int (nI 0)), (0, .ref (wy 0)), (1, .ref (a 0)), (2, .int x), (3, .int y), (4, .int (nI m))]) X dX8_findTwo_13 (by decide) rfl ?_
        have L_15 : ∀ (n_15 : Nat) (n : Nat) (hn : n ≤ sM v) (hn1 : findF (fun n => sbQ v x (nI m) && (sbQ v (nI m) (nI n) && sbQ v (nI n) y)) n = none) (hm_15 : sM v - n < n_15) (x_5 : Int32) (ex_5 : x_5 = (nI n)), GG E m_X8_findTwo Γ 0 0 ([wWy E wy w, wSv E a v].flatten) [(0, .ref (wy 0)), (1, .ref (a 0)), (2, .int x), (3, .int y), (4, .int (nI m)), (5, .int x_5)] 15 [] := by
          intro n_15
          induction n_15 with
          | zero => intro n hn hn1 hm_15; exact absurd hm_15 (Nat.not_lt_zero _)
          | succ n_15 ih_15 =>
            intro n hn hn1 hm_15 x_5 ex_5
            subst ex_5
            refine g_iload X 5 dX8_findTwo_15 rfl ?_
            refine g_aload_n X 1 dX8_findTwo_17 rfl ?_
            refine g_callVr (st2 := [.int (nI (sM v)), .int (nI n)]) (q0 := 0) X (c_X4_meetings E a v) cs_X8_48 rfl [1] [0] 2 rfl (by decide) rfl rfl rfl rfl rfl (Nat.le_of_ble_eq_true rfl) dX8_findTwo_18 rfl ?_
            refine g_icmp_ge (tgt := 94) X dX8_findTwo_21 (by decide) (fun c_21 => ?_) (fun c_21 => ?_)
            · have f_c_21 : sM v ≤ n := n_le (by omega) (by omega) c_21
              have fn_c_21 := Nat.not_lt.mpr f_c_21
              refine g_iincN (lv' := [(4, .int (nI (m + 1))), (0, .ref (wy 0)), (1, .ref (a 0)), (2, .int x), (3, .int y), (5, .int (nI n))]) X 4 dX8_findTwo_94 rfl (by decide) rfl ?_
              refine g_goto (tgt := 3) X dX8_findTwo_97 (by decide) ?_
              refine GG.lv [1, 2, 3, 4, 0] rfl ?_
              exact ih_3 (m + 1) (by omega) (findF_none hf (by show (f2I v x y m).isSome = false; unfold f2I; rw [show sM v = n by omega, hn1]; rfl)) (by omega) (nI (m + 1)) (by rfl)
            · have f_c_21 : n < sM v := n_nle (by omega) (by omega) c_21
              have fn_c_21 := Nat.not_le.mpr f_c_21
              refine g_aload_n X 1 dX8_findTwo_24 rfl ?_
              refine g_iload_n X 2 dX8_findTwo_25 rfl ?_
              refine g_iload X 4 dX8_findTwo_26 rfl ?_
              refine g_callVr (st2 := [.int (oI (sbF v x (nI m)))]) (q0 := 0) X (c_X4_streetBetween E a v x (nI m) (by first | assumption | omega)) cs_X8_33 rfl [1] [0] 2 rfl (by decide) rfl rfl rfl rfl rfl (Nat.le_of_ble_eq_true rfl) dX8_findTwo_28 rfl ?_
              refine g_iconst (v := (-1)) X dX8_findTwo_31 rfl ?_
              refine g_icmp_eq (tgt := 62) X dX8_findTwo_32 (by decide) (fun c_32 => ?_) (fun c_32 => ?_)
              · refine g_iconst (v := (nI 0)) X dX8_findTwo_62 rfl ?_
                refine g_istore (lv' := [(6, .int (nI 0)), (0, .ref (wy 0)), (1, .ref (a 0)), (2, .int x), (3, .int y), (4, .int (nI m)), (5, .int (nI n))]) X dX8_findTwo_63 (by decide) rfl ?_
                refine g_iload X 0 dX8_findTwo_65 rfl ?_
                refine g_if_eq (tgt := 88) X dX8_findTwo_67 (by decide) (fun c_67 => ?_) (fun c_67 => absurd c_67 (by decide))
                refine g_iincN (lv' := [(5, .int (nI (n + 1))), (6, .int (nI 0)), (0, .ref (wy 0)), (1, .ref (a 0)), (2, .int x), (3, .int y), (4, .int (nI m))]) X 6 dX8_findTwo_88 rfl (by decide) rfl ?_
                refine g_goto (tgt := 15) X dX8_findTwo_91 (by decide) ?_
                refine GG.lv [2, 3, 4, 5, 6, 0] rfl ?_
                exact ih_15 (n + 1) (by omega) (findF_none hn1 (by simp [sbQ, c_9, f_c_9, fn_c_9, c_21, f_c_21, fn_c_21, c_32])) (by omega) (nI (n + 1)) (by rfl)
              · refine g_aload_n X 1 dX8_findTwo_35 rfl ?_
                refine g_iload X 4 dX8_findTwo_36 rfl ?_
                refine g_iload X 5 dX8_findTwo_38 rfl ?_
                refine g_callVr (st2 := [.int (oI (sbF v (nI m) (nI n)))]) (q0 := 0) X (c_X4_streetBetween E a v (nI m) (nI n) (by first | assumption | omega)) cs_X8_33 rfl [1] [0] 2 rfl (by decide) rfl rfl rfl rfl rfl (Nat.le_of_ble_eq_true rfl) dX8_findTwo_40 rfl ?_
                refine g_iconst (v := (-1)) X dX8_findTwo_43 rfl ?_
                refine g_icmp_eq (tgt := 62) X dX8_findTwo_44 (by decide) (fun c_44 => ?_) (fun c_44 => ?_)
                · refine g_iconst (v := (nI 0)) X dX8_findTwo_62 rfl ?_
                  refine g_istore (lv' := [(6, .int (nI 0)), (0, .ref (wy 0)), (1, .ref (a 0)), (2, .int x), (3, .int y), (4, .int (nI m)), (5, .int (nI n))]) X dX8_findTwo_63 (by decide) rfl ?_
                  refine g_iload X 0 dX8_findTwo_65 rfl ?_
                  refine g_if_eq (tgt := 88) X dX8_findTwo_67 (by decide) (fun c_67 => ?_) (fun c_67 => absurd c_67 (by decide))
                  refine g_iincN (lv' := [(5, .int (nI (n + 1))), (6, .int (nI 0)), (0, .ref (wy 0)), (1, .ref (a 0)), (2, .int x), (3, .int y), (4, .int (nI m))]) X 6 dX8_findTwo_88 rfl (by decide) rfl ?_
                  refine g_goto (tgt := 15) X dX8_findTwo_91 (by decide) ?_
                  refine GG.lv [2, 3, 4, 5, 6, 0] rfl ?_
                  exact ih_15 (n + 1) (by omega) (findF_none hn1 (by simp [sbQ, c_9, f_c_9, fn_c_9, c_21, f_c_21, fn_c_21, c_32, c_44])) (by omega) (nI (n + 1)) (by rfl)
                · refine g_aload_n X 1 dX8_findTwo_47 rfl ?_
                  refine g_iload X 5 dX8_findTwo_48 rfl ?_
                  refine g_iload_n X 3 dX8_findTwo_50 rfl ?_
                  refine g_callVr (st2 := [.int (oI (sbF v (nI n) y))]) (q0 := 0) X (c_X4_streetBetween E a v (nI n) y (by first | assumption | omega)) cs_X8_33 rfl [1] [0] 2 rfl (by decide) rfl rfl rfl rfl rfl (Nat.le_of_ble_eq_true rfl) dX8_findTwo_51 rfl ?_
                  refine g_iconst (v := (-1)) X dX8_findTwo_54 rfl ?_
                  refine g_icmp_eq (tgt := 62) X dX8_findTwo_55 (by decide) (fun c_55 => ?_) (fun c_55 => ?_)
                  · refine g_iconst (v := (nI 0)) X dX8_findTwo_62 rfl ?_
                    refine g_istore (lv' := [(6, .int (nI 0)), (0, .ref (wy 0)), (1, .ref (a 0)), (2, .int x), (3, .int y), (4, .int (nI m)), (5, .int (nI n))]) X dX8_findTwo_63 (by decide) rfl ?_
                    refine g_iload X 0 dX8_findTwo_65 rfl ?_
                    refine g_if_eq (tgt := 88) X dX8_findTwo_67 (by decide) (fun c_67 => ?_) (fun c_67 => absurd c_67 (by decide))
                    refine g_iincN (lv' := [(5, .int (nI (n + 1))), (6, .int (nI 0)), (0, .ref (wy 0)), (1, .ref (a 0)), (2, .int x), (3, .int y), (4, .int (nI m))]) X 6 dX8_findTwo_88 rfl (by decide) rfl ?_
                    refine g_goto (tgt := 15) X dX8_findTwo_91 (by decide) ?_
                    refine GG.lv [2, 3, 4, 5, 6, 0] rfl ?_
                    exact ih_15 (n + 1) (by omega) (findF_none hn1 (by simp [sbQ, c_9, f_c_9, fn_c_9, c_21, f_c_21, fn_c_21, c_32, c_44, c_55])) (by omega) (nI (n + 1)) (by rfl)
                  · refine g_iconst (v := (nI 1)) X dX8_findTwo_58 rfl ?_
                    refine g_goto (tgt := 63) X dX8_findTwo_59 (by decide) ?_
                    refine g_istore (lv' := [(6, .int (nI 1)), (0, .ref (wy 0)), (1, .ref (a 0)), (2, .int x), (3, .int y), (4, .int (nI m)), (5, .int (nI n))]) X dX8_findTwo_63 (by decide) rfl ?_
                    refine g_iload X 0 dX8_findTwo_65 rfl ?_
                    refine g_if_eq (tgt := 88) X dX8_findTwo_67 (by decide) (fun c_67 => absurd c_67 (by decide)) (fun c_67 => ?_)
                    refine g_aload_n X 1 dX8_findTwo_70 rfl ?_
                    refine g_getf (v := .ref (wy 1)) X fs_X8_9 0 rfl rfl dX8_findTwo_71 ?_
                    refine g_iconst (v := (nI 1)) X dX8_findTwo_74 rfl ?_
                    refine g_iload X 5 dX8_findTwo_75 rfl ?_
                    refine g_iast (ws' := [wWy E wy (upd w.1 1 (nI m), w.2), wSv E a v].flatten) X 1 rfl 1 (ix_nI (by omega) (by decide)) rfl dX8_findTwo_77 ?_
                    refine g_aload_n X 1 dX8_findTwo_78 rfl ?_
                    refine g_getf (v := .ref (wy 1)) X fs_X8_9 0 rfl rfl dX8_findTwo_79 ?_
                    refine g_iconst (v := (nI 2)) X dX8_findTwo_82 rfl ?_
                    refine g_iload X 6 dX8_findTwo_83 rfl ?_
                    refine g_iast (ws' := [wWy E wy (upd (upd w.1 1 (nI m)) 2 (nI n), w.2), wSv E a v].flatten) X 1 rfl 2 (ix_nI (by omega) (by decide)) rfl dX8_findTwo_85 ?_
                    refine g_iconst (v := (nI 1)) X dX8_findTwo_86 rfl ?_
                    exact g_zretv (r := (nI 1)) X hx rfl (by have h1 : f2I v x y m = some n := findF_hit hn1 (by simp [sbQ, c_9, f_c_9, fn_c_9, c_21, f_c_21, fn_c_21, c_32, c_44, c_55]) _ (by omega); have h2 : f2W v x y = some m := findF_hit hf (by show (f2I v x y m).isSome = true; rw [h1]; rfl) _ (by omega); rw [h2]; rfl) (by have h1 : f2I v x y m = some n := findF_hit hn1 (by simp [sbQ, c_9, f_c_9, fn_c_9, c_21, f_c_21, fn_c_21, c_32, c_44, c_55]) _ (by omega); have h2 : f2W v x y = some m := findF_hit hf (by show (f2I v x y m).isSome = true; rw [h1]; rfl) _ (by omega); simp only [wy2, h1, h2]) dX8_findTwo_87
        refine GG.lv [1, 2, 3, 4, 5, 0] rfl ?_
        exact L_15 (sM v + 1) 0 (by omega) (rfl) (by omega) (nI 0) (by rfl)
  refine GG.lv [1, 2, 3, 4, 0] rfl ?_
  exact L_3 (sM v + 1) 0 (by omega) (rfl) (by omega) (nI 0) (by rfl)
set_option maxHeartbeats 4000000 in
set_option maxRecDepth 100000 in
theorem c_X8_find (E : GE) (wy : Nat → Nat) (w : WY) (a : Nat → Nat) (v : SV) (x : Int32) (y : Int32) (hv : okS v) : CT E m_X8_find [.ref (wy 0), .ref (a 0), .int x, .int y] ([wWy E wy w, wSv E a v].flatten) none ([wWy E wy (wyFind v x y w), wSv E a v].flatten) := by
  refine CT.intro (by decide +kernel) (Nat.le_of_ble_eq_true rfl) (fun Γ X hx => ?_)
  refine GG.lv [0, 1, 2, 3] (lv' := [(0, .ref (wy 0)), (1, .ref (a 0)), (2, .int x), (3, .int y)]) rfl ?_
  have hv1 : sM v ≤ 8 := hv.1
  have hv2 : sS v ≤ 8 := hv.2
  refine g_aload_n X 0 dX8_find_0 rfl ?_
  refine g_iconst (v := (nI 0)) X dX8_find_1 rfl ?_
  refine g_putf (ws' := [wWy E wy (w.1, 0), wSv E a v].flatten) X ps_X8_15 0 rfl rfl rfl (Nat.le_of_ble_eq_true rfl) rfl dX8_find_2 ?_
  refine g_aload_n X 1 dX8_find_5 rfl ?_
  refine g_iload_n X 2 dX8_find_6 rfl ?_
  refine g_callVr (st2 := [.int (b2i (hasN (sM v) x))]) (q0 := 0) X (c_X4_hasMeeting E a v x) cs_X8_27 rfl [1] [0] 2 rfl (by decide) rfl rfl rfl rfl rfl (Nat.le_of_ble_eq_true rfl) dX8_find_7 rfl ?_
  refine g_bif_eq (tgt := 21) X dX8_find_10 (by decide) (fun c_10 => ?_) (fun c_10 => ?_)
  · exact g_vret X hx rfl rfl (by simp only [wyFind, c_10, decide_true, decide_false, not_true_eq_false, not_false_eq_true, Bool.true_and, Bool.false_and, Bool.and_true, Bool.and_false, Bool.true_or, Bool.false_or, Bool.or_true, Bool.or_false, and_true, true_and, and_false, false_and, or_true, true_or, or_false, false_or, if_true, if_false, Bool.false_eq_true, decide_eq_true_eq]) dX8_find_21
  · refine g_aload_n X 1 dX8_find_13 rfl ?_
    refine g_iload_n X 3 dX8_find_14 rfl ?_
    refine g_callVr (st2 := [.int (b2i (hasN (sM v) y))]) (q0 := 0) X (c_X4_hasMeeting E a v y) cs_X8_27 rfl [1] [0] 2 rfl (by decide) rfl rfl rfl rfl rfl (Nat.le_of_ble_eq_true rfl) dX8_find_15 rfl ?_
    refine g_bif_ne (tgt := 22) X dX8_find_18 (by decide) (fun c_18 => ?_) (fun c_18 => ?_)
    · refine g_aload_n X 0 dX8_find_22 rfl ?_
      refine g_getf (v := .ref (wy 1)) X fs_X8_9 0 rfl rfl dX8_find_23 ?_
      refine g_iconst (v := (nI 0)) X dX8_find_26 rfl ?_
      refine g_iload_n X 2 dX8_find_27 rfl ?_
      refine g_iast (ws' := [wWy E wy (upd w.1 0 x, 0), wSv E a v].flatten) X 1 rfl 0 (ix_nI (by omega) (by decide)) rfl dX8_find_28 ?_
      refine g_aload_n X 1 dX8_find_29 rfl ?_
      refine g_iload_n X 2 dX8_find_30 rfl ?_
      refine g_iload_n X 3 dX8_find_31 rfl ?_
      refine g_callVr (st2 := [.int (oI (sbF v x y))]) (q0 := 0) X (c_X4_streetBetween E a v x y (by first | assumption | omega)) cs_X8_33 rfl [1] [0] 2 rfl (by decide) rfl rfl rfl rfl rfl (Nat.le_of_ble_eq_true rfl) dX8_find_32 rfl ?_
      refine g_iconst (v := (-1)) X dX8_find_35 rfl ?_
      refine g_icmp_eq (tgt := 54) X dX8_find_36 (by decide) (fun c_36 => ?_) (fun c_36 => ?_)
      · have hq : sbQ v x y = false := decide_eq_false (fun h => h c_36)
        refine g_aload_n X 0 dX8_find_54 rfl ?_
        refine g_aload_n X 1 dX8_find_55 rfl ?_
        refine g_iload_n X 2 dX8_find_56 rfl ?_
        refine g_iload_n X 3 dX8_find_57 rfl ?_
        refine g_callV (st2 := [.int (b2i ((f1W v x y).isSome))]) (S' := [wWy E wy (wy1 (upd w.1 0 x) (f1W v x y), 0), wSv E a v]) (q0 := 0) X (c_X8_findOne E wy (upd w.1 0 x, 0) a v x y (by first | assumption | omega)) cs_X8_37 rfl [0, 1] [] 2 rfl rfl (by decide) [] rfl rfl rfl rfl (by simp only [List.map_cons, List.map_nil, fsSv, fsWy]) rfl rfl rfl rfl (Nat.le_of_ble_eq_true rfl) dX8_find_58 rfl ?_
        refine g_bif_eq (tgt := 79) X dX8_find_61 (by decide) (fun c_61 => ?_) (fun c_61 => ?_)
        · refine g_aload_n X 0 dX8_find_79 rfl ?_
          refine g_aload_n X 1 dX8_find_80 rfl ?_
          refine g_iload_n X 2 dX8_find_81 rfl ?_
          refine g_iload_n X 3 dX8_find_82 rfl ?_
          refine g_callV (st2 := [.int (b2i ((f2W v x y).isSome))]) (S' := [wWy E wy (wy2 v x y (wy1 (upd w.1 0 x) (f1W v x y)), 0), wSv E a v]) (q0 := 0) X (c_X8_findTwo E wy (wy1 (upd w.1 0 x) (f1W v x y), 0) a v x y (by first | assumption | omega)) cs_X8_41 rfl [0, 1] [] 2 rfl rfl (by decide) [] rfl rfl rfl rfl (by simp only [List.map_cons, List.map_nil, fsSv, fsWy]) rfl rfl rfl rfl (Nat.le_of_ble_eq_true rfl) dX8_find_83 rfl ?_
          refine g_bif_eq (tgt := 101) X dX8_find_86 (by decide) (fun c_86 => ?_) (fun c_86 => ?_)
          · exact g_vret X hx rfl rfl (by simp only [wyFind, c_10, c_18, c_36, c_61, c_86, hq, decide_true, decide_false, not_true_eq_false, not_false_eq_true, Bool.true_and, Bool.false_and, Bool.and_true, Bool.and_false, Bool.true_or, Bool.false_or, Bool.or_true, Bool.or_false, and_true, true_and, and_false, false_and, or_true, true_or, or_false, false_or, if_true, if_false, Bool.false_eq_true, decide_eq_true_eq]) dX8_find_101
          · refine g_aload_n X 0 dX8_find_89 rfl ?_
            refine g_getf (v := .ref (wy 1)) X fs_X8_9 0 rfl rfl dX8_find_90 ?_
            refine g_iconst (v := (nI 3)) X dX8_find_93 rfl ?_
            refine g_iload_n X 3 dX8_find_94 rfl ?_
            refine g_iast (ws' := [wWy E wy (upd (wy2 v x y (wy1 (upd w.1 0 x) (f1W v x y))) 3 y, 0), wSv E a v].flatten) X 1 rfl 3 (ix_nI (by omega) (by decide)) rfl dX8_find_95 ?_
            refine g_aload_n X 0 dX8_find_96 rfl ?_
            refine g_iconst (v := (nI 3)) X dX8_find_97 rfl ?_
            refine g_putf (ws' := [wWy E wy (upd (wy2 v x y (wy1 (upd w.1 0 x) (f1W v x y))) 3 y, 3), wSv E a v].flatten) X ps_X8_15 0 rfl rfl rfl (Nat.le_of_ble_eq_true rfl) rfl dX8_find_98 ?_
            exact g_vret X hx rfl rfl (by simp only [wyFind, c_10, c_18, c_36, c_61, c_86, hq, decide_true, decide_false, not_true_eq_false, not_false_eq_true, Bool.true_and, Bool.false_and, Bool.and_true, Bool.and_false, Bool.true_or, Bool.false_or, Bool.or_true, Bool.or_false, and_true, true_and, and_false, false_and, or_true, true_or, or_false, false_or, if_true, if_false, Bool.false_eq_true, decide_eq_true_eq]) dX8_find_101
        · refine g_aload_n X 0 dX8_find_64 rfl ?_
          refine g_getf (v := .ref (wy 1)) X fs_X8_9 0 rfl rfl dX8_find_65 ?_
          refine g_iconst (v := (nI 2)) X dX8_find_68 rfl ?_
          refine g_iload_n X 3 dX8_find_69 rfl ?_
          refine g_iast (ws' := [wWy E wy (upd (wy1 (upd w.1 0 x) (f1W v x y)) 2 y, 0), wSv E a v].flatten) X 1 rfl 2 (ix_nI (by omega) (by decide)) rfl dX8_find_70 ?_
          refine g_aload_n X 0 dX8_find_71 rfl ?_
          refine g_iconst (v := (nI 2)) X dX8_find_72 rfl ?_
          refine g_putf (ws' := [wWy E wy (upd (wy1 (upd w.1 0 x) (f1W v x y)) 2 y, 2), wSv E a v].flatten) X ps_X8_15 0 rfl rfl rfl (Nat.le_of_ble_eq_true rfl) rfl dX8_find_73 ?_
          refine g_goto (tgt := 101) X dX8_find_76 (by decide) ?_
          exact g_vret X hx rfl rfl (by simp only [wyFind, c_10, c_18, c_36, c_61, hq, decide_true, decide_false, not_true_eq_false, not_false_eq_true, Bool.true_and, Bool.false_and, Bool.and_true, Bool.and_false, Bool.true_or, Bool.false_or, Bool.or_true, Bool.or_false, and_true, true_and, and_false, false_and, or_true, true_or, or_false, false_or, if_true, if_false, Bool.false_eq_true, decide_eq_true_eq]) dX8_find_101
      · have hq : sbQ v x y = true := decide_eq_true c_36
        refine g_aload_n X 0 dX8_find_39 rfl ?_
        refine g_getf (v := .ref (wy 1)) X fs_X8_9 0 rfl rfl dX8_find_40 ?_
        refine g_iconst (v := (nI 1)) X dX8_find_43 rfl ?_
        refine g_iload_n X 3 dX8_find_44 rfl ?_
        refine g_iast (ws' := [wWy E wy (upd (upd w.1 0 x) 1 y, 0), wSv E a v].flatten) X 1 rfl 1 (ix_nI (by omega) (by decide)) rfl dX8_find_45 ?_
        refine g_aload_n X 0 dX8_find_46 rfl ?_
        refine g_iconst (v := (nI 1)) X dX8_find_47 rfl ?_
        refine g_putf (ws' := [wWy E wy (upd (upd w.1 0 x) 1 y, 1), wSv E a v].flatten) X ps_X8_15 0 rfl rfl rfl (Nat.le_of_ble_eq_true rfl) rfl dX8_find_48 ?_
        refine g_goto (tgt := 101) X dX8_find_51 (by decide) ?_
        exact g_vret X hx rfl rfl (by simp only [wyFind, c_10, c_18, c_36, hq, decide_true, decide_false, not_true_eq_false, not_false_eq_true, Bool.true_and, Bool.false_and, Bool.and_true, Bool.and_false, Bool.true_or, Bool.false_or, Bool.or_true, Bool.or_false, and_true, true_and, and_false, false_and, or_true, true_or, or_false, false_or, if_true, if_false, Bool.false_eq_true, decide_eq_true_eq]) dX8_find_101
    · exact g_vret X hx rfl rfl (by simp only [wyFind, c_10, c_18, decide_true, decide_false, not_true_eq_false, not_false_eq_true, Bool.true_and, Bool.false_and, Bool.and_true, Bool.and_false, Bool.true_or, Bool.false_or, Bool.or_true, Bool.or_false, and_true, true_and, and_false, false_and, or_true, true_or, or_false, false_or, if_true, if_false, Bool.false_eq_true, decide_eq_true_eq]) dX8_find_21
set_option maxHeartbeats 4000000 in
set_option maxRecDepth 100000 in
theorem c_X8_commonName (E : GE) (wy : Nat → Nat) (w : WY) (a : Nat → Nat) (v : SV) (hv : okS v) (hw : w.2 ≤ 3) (hway : ∀ n, n < w.2 → ∃ j, sbF v (w.1 n) (w.1 (n + 1)) = some j) : CT E m_X8_commonName [.ref (wy 0), .ref (a 0)] ([wWy E wy w, wSv E a v].flatten) (some (.int (cmL v w w.2 0 (nI 0)))) ([wWy E wy w, wSv E a v].flatten) := by
  refine CT.intro (by decide +kernel) (Nat.le_of_ble_eq_true rfl) (fun Γ X hx => ?_)
  refine GG.lv [0, 1] (lv' := [(0, .ref (wy 0)), (1, .ref (a 0))]) rfl ?_
  have hv1 : sM v ≤ 8 := hv.1
  have hv2 : sS v ≤ 8 := hv.2
  refine g_iconst (v := (nI 0)) X dX8_commonName_0 rfl ?_
  refine g_istore_n (lv' := [(2, .int (nI 0)), (0, .ref (wy 0)), (1, .ref (a 0))]) X dX8_commonName_1 (by decide) rfl ?_
  refine g_iconst (v := (nI 0)) X dX8_commonName_2 rfl ?_
  refine g_istore_n (lv' := [(3, .int (nI 0)), (2, .int (nI 0)), (0, .ref (wy 0)), (1, .ref (a 0))]) X dX8_commonName_3 (by decide) rfl ?_
  have L_4 : ∀ (n_4 : Nat) (n : Nat) (c : Int32) (hn : n ≤ w.2) (he : cmL v w w.2 0 (nI 0) = cmL v w (w.2 - n) n c) (hm_4 : w.2 - n < n_4) (x_3 : Int32) (ex_3 : x_3 = (nI n)), GG E m_X8_commonName Γ 0 0 ([wWy E wy w, wSv E a v].flatten) [(0, .ref (wy 0)), (1, .ref (a 0)), (2, .int c), (3, .int x_3)] 4 [] := by
    intro n_4
    induction n_4 with
    | zero => intro n c hn he hm_4; exact absurd hm_4 (Nat.not_lt_zero _)
    | succ n_4 ih_4 =>
      intro n c hn he hm_4 x_3 ex_3
      subst ex_3
      refine g_iload_n X 3 dX8_commonName_4 rfl ?_
      refine g_aload_n X 0 dX8_commonName_5 rfl ?_
      refine g_getf (v := .int (nI w.2)) X fs_X8_15 0 rfl rfl dX8_commonName_6 ?_
      refine g_icmp_ge (tgt := 68) X dX8_commonName_9 (by decide) (fun c_9 => ?_) (fun c_9 => ?_)
      · have f_c_9 : w.2 ≤ n := n_le (by omega) (by omega) c_9
        have fn_c_9 := Nat.not_lt.mpr f_c_9
        refine g_iload_n X 2 dX8_commonName_68 rfl ?_
        exact g_iretv (r := c) X hx rfl (by rw [he, show w.2 - n = 0 by omega]; rfl) (by rfl) dX8_commonName_69
      · have f_c_9 : n < w.2 := n_nle (by omega) (by omega) c_9
        have fn_c_9 := Nat.not_le.mpr f_c_9
        refine g_iload_n X 3 dX8_commonName_12 rfl ?_
        refine g_iconst (v := (nI 1)) X dX8_commonName_13 rfl ?_
        refine g_iaddN X dX8_commonName_14 ?_
        refine g_aload_n X 0 dX8_commonName_15 rfl ?_
        refine g_getf (v := .ref (wy 1)) X fs_X8_9 0 rfl rfl dX8_commonName_16 ?_
        refine g_alen (v := nI 4) X 1 0 rfl rfl rfl dX8_commonName_19 ?_
        refine g_icmp_ge (tgt := 68) X dX8_commonName_20 (by decide) (fun c_20 => absurd (n_le (by omega) (by omega) c_20) (by omega)) (fun c_20 => ?_)
        refine g_aload_n X 1 dX8_commonName_23 rfl ?_
        refine g_aload_n X 1 dX8_commonName_24 rfl ?_
        refine g_aload_n X 0 dX8_commonName_25 rfl ?_
        refine g_getf (v := .ref (wy 1)) X fs_X8_9 0 rfl rfl dX8_commonName_26 ?_
        refine g_iload_n X 3 dX8_commonName_29 rfl ?_
        refine g_iald X 1 rfl n (ix_nI (by omega) (by decide)) dX8_commonName_30 ?_
        refine g_aload_n X 0 dX8_commonName_31 rfl ?_
        refine g_getf (v := .ref (wy 1)) X fs_X8_9 0 rfl rfl dX8_commonName_32 ?_
        refine g_iload_n X 3 dX8_commonName_35 rfl ?_
        refine g_iconst (v := (nI 1)) X dX8_commonName_36 rfl ?_
        refine g_iaddN X dX8_commonName_37 ?_
        refine g_iald X 1 rfl (n + 1) (ix_nI (by omega) (by decide)) dX8_commonName_38 ?_
        refine g_callVr (st2 := [.int (oI (sbF v (w.1 n) (w.1 (n + 1)))), .ref (a 0)]) (q0 := 0) X (c_X4_streetBetween E a v (w.1 n) (w.1 (n + 1)) (by first | assumption | omega)) cs_X8_33 rfl [1] [0] 2 rfl (by decide) rfl rfl rfl rfl rfl (Nat.le_of_ble_eq_true rfl) dX8_commonName_39 rfl ?_
        obtain ⟨j, ej⟩ := hway n (by omega)
        have hj := sbF_lt ej
        have en : nmW v w n = sNm v j := by unfold nmW; rw [ej]; rfl
        rw [ej]
        refine g_callVr (st2 := [.int (sNm v j)]) (q0 := 0) X (c_X4_nameOf E a v j (by first | assumption | omega) (by first | assumption | omega)) cs_X8_44 rfl [1] [0] 2 rfl (by decide) rfl rfl rfl rfl rfl (Nat.le_of_ble_eq_true rfl) dX8_commonName_42 rfl ?_
        refine g_istore (lv' := [(4, .int (sNm v j)), (0, .ref (wy 0)), (1, .ref (a 0)), (2, .int c), (3, .int (nI n))]) X dX8_commonName_45 (by decide) rfl ?_
        refine g_iload_n X 4 dX8_commonName_47 rfl ?_
        refine g_if_le (tgt := 59) X dX8_commonName_48 (by decide) (fun c_48 => ?_) (fun c_48 => ?_)
        · have f_c_48 : n ≤ 0 := n_le (by omega) (by omega) c_48
          have fn_c_48 := Nat.not_lt.mpr f_c_48
          refine g_iload X 0 dX8_commonName_59 rfl ?_
          refine g_istore_n (lv' := [(2, .int (sNm v j)), (4, .int (sNm v j)), (0, .ref (wy 0)), (1, .ref (a 0)), (3, .int (nI n))]) X dX8_commonName_61 (by decide) rfl ?_
          refine g_iincN (lv' := [(3, .int (nI (n + 1))), (2, .int (sNm v j)), (4, .int (sNm v j)), (0, .ref (wy 0)), (1, .ref (a 0))]) X 4 dX8_commonName_62 rfl (by decide) rfl ?_
          refine g_goto (tgt := 4) X dX8_commonName_65 (by decide) ?_
          refine GG.lv [3, 4, 1, 0] rfl ?_
          exact ih_4 (n + 1) (sNm v j) (by omega) (by rw [he, show w.2 - n = (w.2 - (n + 1)) + 1 by omega, cmL, en]; exact if_neg (fun h => absurd h.1 fn_c_48)) (by omega) (nI (n + 1)) (by rfl)
        · have f_c_48 : 0 < n := n_nle (by omega) (by omega) c_48
          have fn_c_48 := Nat.not_le.mpr f_c_48
          refine g_iload X 0 dX8_commonName_51 rfl ?_
          refine g_iload_n X 3 dX8_commonName_53 rfl ?_
          refine g_icmp_eq (tgt := 59) X dX8_commonName_54 (by decide) (fun c_54 => ?_) (fun c_54 => ?_)
          · refine g_iload X 0 dX8_commonName_59 rfl ?_
            refine g_istore_n (lv' := [(2, .int (sNm v j)), (4, .int (sNm v j)), (0, .ref (wy 0)), (1, .ref (a 0)), (3, .int (nI n))]) X dX8_commonName_61 (by decide) rfl ?_
            refine g_iincN (lv' := [(3, .int (nI (n + 1))), (2, .int (sNm v j)), (4, .int (sNm v j)), (0, .ref (wy 0)), (1, .ref (a 0))]) X 4 dX8_commonName_62 rfl (by decide) rfl ?_
            refine g_goto (tgt := 4) X dX8_commonName_65 (by decide) ?_
            refine GG.lv [3, 4, 1, 0] rfl ?_
            exact ih_4 (n + 1) (sNm v j) (by omega) (by rw [he, show w.2 - n = (w.2 - (n + 1)) + 1 by omega, cmL, en]; exact if_neg (fun h => h.2 c_54)) (by omega) (nI (n + 1)) (by rfl)
          · refine g_iconst (v := (nI 0)) X dX8_commonName_57 rfl ?_
            exact g_iretv (r := (nI 0)) X hx rfl (by rw [he, show w.2 - n = (w.2 - (n + 1)) + 1 by omega, cmL, en]; exact if_pos ⟨by omega, c_54⟩) (by rfl) dX8_commonName_58
  refine GG.lv [2, 3, 1, 0] rfl ?_
  exact L_4 (w.2 + 1) 0 (nI 0) (by omega) (rfl) (by omega) (nI 0) (by rfl)
set_option maxHeartbeats 4000000 in
set_option maxRecDepth 100000 in
theorem c_X7_reduced (E : GE) (x : Int32) (y : Int32) (z : Int32) : CT E m_X7_reduced [.int x, .int y, .int z] ([]) (some (.int (redV x y z))) ([]) := by
  refine CT.intro (by decide +kernel) (Nat.le_of_ble_eq_true rfl) (fun Γ X hx => ?_)
  refine GG.lv [0, 1, 2] (lv' := [(0, .int x), (1, .int y), (2, .int z)]) rfl ?_
  refine g_iload_n X 1 dX7_reduced_0 rfl ?_
  refine g_absI X cs_X7_73 ⟨by decide, Nat.le_of_ble_eq_true rfl, Nat.zero_le _, Nat.zero_le _⟩ dX7_reduced_1 ?_
  refine g_istore_n (lv' := [(3, .int (absI y)), (0, .int x), (1, .int y), (2, .int z)]) X dX7_reduced_4 (by decide) rfl ?_
  refine g_iload_n X 3 dX7_reduced_5 rfl ?_
  refine g_istore (lv' := [(4, .int z), (3, .int (absI y)), (0, .int x), (1, .int y), (2, .int z)]) X dX7_reduced_6 (by decide) rfl ?_
  refine g_iconst (v := (nI 0)) X dX7_reduced_8 rfl ?_
  refine g_istore (lv' := [(5, .int (nI 0)), (4, .int z), (3, .int (absI y)), (0, .int x), (1, .int y), (2, .int z)]) X dX7_reduced_9 (by decide) rfl ?_
  have L_11 : ∀ (n_11 : Nat) (sp : Nat) (d : Int32) (s : Int32) (hs : sp ≤ 64) (he : gcL 64 (absI y) z = gcL (64 - sp) d s) (hm_11 : 64 - sp < n_11) (x_5 : Int32) (ex_5 : x_5 = (nI sp)), GG E m_X7_reduced Γ 0 0 ([]) [(0, .int x), (1, .int y), (2, .int z), (3, .int d), (4, .int s), (5, .int x_5)] 11 [] := by
    intro n_11
    induction n_11 with
    | zero => intro sp d s hs he hm_11; exact absurd hm_11 (Nat.not_lt_zero _)
    | succ n_11 ih_11 =>
      intro sp d s hs he hm_11 x_5 ex_5
      subst ex_5
      refine g_iload X 5 dX7_reduced_11 rfl ?_
      refine g_bipush (v := (nI 64)) X dX7_reduced_13 rfl ?_
      refine g_icmp_ge (tgt := 42) X dX7_reduced_15 (by decide) (fun c_15 => ?_) (fun c_15 => ?_)
      · have f_c_15 : 64 ≤ sp := n_le (by omega) (by omega) c_15
        have fn_c_15 := Nat.not_lt.mpr f_c_15
        have eg : gcL 64 (absI y) z = d := by rw [he, show 64 - sp = 0 by omega]; rfl
        refine g_iload_n X 3 dX7_reduced_42 rfl ?_
        refine g_if_le (tgt := 52) X dX7_reduced_43 (by decide) (fun c_43 => ?_) (fun c_43 => ?_)
        · refine g_iload_n X 0 dX7_reduced_52 rfl ?_
          exact g_iretv (r := x) X hx rfl (by unfold redV; rw [eg]; exact if_pos c_43) (by rfl) dX7_reduced_53
        · refine g_iload_n X 0 dX7_reduced_46 rfl ?_
          refine g_iload_n X 3 dX7_reduced_47 rfl ?_
          refine g_idiv X dX7_reduced_48 (by intro h; rw [h] at c_43; exact c_43 (by decide)) ?_
          refine g_goto (tgt := 53) X dX7_reduced_49 (by decide) ?_
          exact g_iretv (r := (x / d)) X hx rfl (by unfold redV; rw [eg]; exact if_neg c_43) (by rfl) dX7_reduced_53
      · have f_c_15 : sp < 64 := n_nle (by omega) (by omega) c_15
        have fn_c_15 := Nat.not_le.mpr f_c_15
        refine g_iload X 4 dX7_reduced_18 rfl ?_
        refine g_if_eq (tgt := 42) X dX7_reduced_20 (by decide) (fun c_20 => ?_) (fun c_20 => ?_)
        · have eg : gcL 64 (absI y) z = d := by rw [he, show 64 - sp = (64 - (sp + 1)) + 1 by omega, gcL, if_pos c_20]
          refine g_iload_n X 3 dX7_reduced_42 rfl ?_
          refine g_if_le (tgt := 52) X dX7_reduced_43 (by decide) (fun c_43 => ?_) (fun c_43 => ?_)
          · refine g_iload_n X 0 dX7_reduced_52 rfl ?_
            exact g_iretv (r := x) X hx rfl (by unfold redV; rw [eg]; exact if_pos c_43) (by rfl) dX7_reduced_53
          · refine g_iload_n X 0 dX7_reduced_46 rfl ?_
            refine g_iload_n X 3 dX7_reduced_47 rfl ?_
            refine g_idiv X dX7_reduced_48 (by intro h; rw [h] at c_43; exact c_43 (by decide)) ?_
            refine g_goto (tgt := 53) X dX7_reduced_49 (by decide) ?_
            exact g_iretv (r := (x / d)) X hx rfl (by unfold redV; rw [eg]; exact if_neg c_43) (by rfl) dX7_reduced_53
        · refine g_iload_n X 3 dX7_reduced_23 rfl ?_
          refine g_iload X 4 dX7_reduced_24 rfl ?_
          refine g_irem X dX7_reduced_26 (by assumption) ?_
          refine g_istore (lv' := [(6, .int (d - d / s * s)), (0, .int x), (1, .int y), (2, .int z), (3, .int d), (4, .int s), (5, .int (nI sp))]) X dX7_reduced_27 (by decide) rfl ?_
          refine g_iload X 5 dX7_reduced_29 rfl ?_
          refine g_istore_n (lv' := [(3, .int s), (6, .int (d - d / s * s)), (0, .int x), (1, .int y), (2, .int z), (4, .int s), (5, .int (nI sp))]) X dX7_reduced_31 (by decide) rfl ?_
          refine g_iload X 1 dX7_reduced_32 rfl ?_
          refine g_istore (lv' := [(4, .int (d - d / s * s)), (3, .int s), (6, .int (d - d / s * s)), (0, .int x), (1, .int y), (2, .int z), (5, .int (nI sp))]) X dX7_reduced_34 (by decide) rfl ?_
          refine g_iincN (lv' := [(5, .int (nI (sp + 1))), (4, .int (d - d / s * s)), (3, .int s), (6, .int (d - d / s * s)), (0, .int x), (1, .int y), (2, .int z)]) X 6 dX7_reduced_36 rfl (by decide) rfl ?_
          refine g_goto (tgt := 11) X dX7_reduced_39 (by decide) ?_
          refine GG.lv [4, 5, 6, 2, 1, 0] rfl ?_
          exact ih_11 (sp + 1) s (d - d / s * s) (by omega) (by rw [he, show 64 - sp = (64 - (sp + 1)) + 1 by omega, gcL, if_neg c_20]) (by omega) (nI (sp + 1)) (by rfl)
  refine GG.lv [3, 4, 5, 2, 1, 0] rfl ?_
  exact L_11 (65) 0 (absI y) z (by omega) (rfl) (by omega) (nI 0) (by rfl)
set_option maxHeartbeats 4000000 in
set_option maxRecDepth 100000 in
theorem c_X7_topOfX (E : GE) (tr : Nat) (u : TR) : CT E m_X7_topOfX [.ref tr] ([wTr E tr u].flatten) (some (.int (redV u.1 u.1 u.2.2.1))) ([wTr E tr u].flatten) := by
  refine CT.intro (by decide +kernel) (Nat.le_of_ble_eq_true rfl) (fun Γ X hx => ?_)
  refine GG.lv [0] (lv' := [(0, .ref tr)]) rfl ?_
  refine g_aload_n X 0 dX7_topOfX_0 rfl ?_
  refine g_getf (v := .int u.1) X fs_X7_15 0 rfl rfl dX7_topOfX_1 ?_
  refine g_aload_n X 0 dX7_topOfX_4 rfl ?_
  refine g_getf (v := .int u.1) X fs_X7_15 0 rfl rfl dX7_topOfX_5 ?_
  refine g_aload_n X 0 dX7_topOfX_8 rfl ?_
  refine g_getf (v := .int u.2.2.1) X fs_X7_9 0 rfl rfl dX7_topOfX_9 ?_
  refine g_callSP (st2 := [.int (redV u.1 u.1 u.2.2.1)]) (ws' := [wTr E tr u].flatten) (wr := [wTr E tr u].flatten) X (c_X7_reduced E u.1 u.1 u.2.2.1) cs_X7_18 rfl (List.Perm.refl _) rfl (List.Perm.refl _) rfl rfl (Nat.le_of_ble_eq_true rfl) dX7_topOfX_12 rfl ?_
  exact g_iretv (r := (redV u.1 u.1 u.2.2.1)) X hx rfl (by rfl) (by rfl) dX7_topOfX_15
set_option maxHeartbeats 4000000 in
set_option maxRecDepth 100000 in
theorem c_X7_bottomOfX (E : GE) (tr : Nat) (u : TR) : CT E m_X7_bottomOfX [.ref tr] ([wTr E tr u].flatten) (some (.int (redV u.2.2.1 u.1 u.2.2.1))) ([wTr E tr u].flatten) := by
  refine CT.intro (by decide +kernel) (Nat.le_of_ble_eq_true rfl) (fun Γ X hx => ?_)
  refine GG.lv [0] (lv' := [(0, .ref tr)]) rfl ?_
  refine g_aload_n X 0 dX7_bottomOfX_0 rfl ?_
  refine g_getf (v := .int u.2.2.1) X fs_X7_9 0 rfl rfl dX7_bottomOfX_1 ?_
  refine g_aload_n X 0 dX7_bottomOfX_4 rfl ?_
  refine g_getf (v := .int u.1) X fs_X7_15 0 rfl rfl dX7_bottomOfX_5 ?_
  refine g_aload_n X 0 dX7_bottomOfX_8 rfl ?_
  refine g_getf (v := .int u.2.2.1) X fs_X7_9 0 rfl rfl dX7_bottomOfX_9 ?_
  refine g_callSP (st2 := [.int (redV u.2.2.1 u.1 u.2.2.1)]) (ws' := [wTr E tr u].flatten) (wr := [wTr E tr u].flatten) X (c_X7_reduced E u.2.2.1 u.1 u.2.2.1) cs_X7_18 rfl (List.Perm.refl _) rfl (List.Perm.refl _) rfl rfl (Nat.le_of_ble_eq_true rfl) dX7_bottomOfX_12 rfl ?_
  exact g_iretv (r := (redV u.2.2.1 u.1 u.2.2.1)) X hx rfl (by rfl) (by rfl) dX7_bottomOfX_15
set_option maxHeartbeats 4000000 in
set_option maxRecDepth 100000 in
theorem c_X7_topOfY (E : GE) (tr : Nat) (u : TR) : CT E m_X7_topOfY [.ref tr] ([wTr E tr u].flatten) (some (.int (redV u.2.1 u.2.1 u.2.2.1))) ([wTr E tr u].flatten) := by
  refine CT.intro (by decide +kernel) (Nat.le_of_ble_eq_true rfl) (fun Γ X hx => ?_)
  refine GG.lv [0] (lv' := [(0, .ref tr)]) rfl ?_
  refine g_aload_n X 0 dX7_topOfY_0 rfl ?_
  refine g_getf (v := .int u.2.1) X fs_X7_22 0 rfl rfl dX7_topOfY_1 ?_
  refine g_aload_n X 0 dX7_topOfY_4 rfl ?_
  refine g_getf (v := .int u.2.1) X fs_X7_22 0 rfl rfl dX7_topOfY_5 ?_
  refine g_aload_n X 0 dX7_topOfY_8 rfl ?_
  refine g_getf (v := .int u.2.2.1) X fs_X7_9 0 rfl rfl dX7_topOfY_9 ?_
  refine g_callSP (st2 := [.int (redV u.2.1 u.2.1 u.2.2.1)]) (ws' := [wTr E tr u].flatten) (wr := [wTr E tr u].flatten) X (c_X7_reduced E u.2.1 u.2.1 u.2.2.1) cs_X7_18 rfl (List.Perm.refl _) rfl (List.Perm.refl _) rfl rfl (Nat.le_of_ble_eq_true rfl) dX7_topOfY_12 rfl ?_
  exact g_iretv (r := (redV u.2.1 u.2.1 u.2.2.1)) X hx rfl (by rfl) (by rfl) dX7_topOfY_15
set_option maxHeartbeats 4000000 in
set_option maxRecDepth 100000 in
theorem c_X7_bottomOfY (E : GE) (tr : Nat) (u : TR) : CT E m_X7_bottomOfY [.ref tr] ([wTr E tr u].flatten) (some (.int (redV u.2.2.1 u.2.1 u.2.2.1))) ([wTr E tr u].flatten) := by
  refine CT.intro (by decide +kernel) (Nat.le_of_ble_eq_true rfl) (fun Γ X hx => ?_)
  refine GG.lv [0] (lv' := [(0, .ref tr)]) rfl ?_
  refine g_aload_n X 0 dX7_bottomOfY_0 rfl ?_
  refine g_getf (v := .int u.2.2.1) X fs_X7_9 0 rfl rfl dX7_bottomOfY_1 ?_
  refine g_aload_n X 0 dX7_bottomOfY_4 rfl ?_
  refine g_getf (v := .int u.2.1) X fs_X7_22 0 rfl rfl dX7_bottomOfY_5 ?_
  refine g_aload_n X 0 dX7_bottomOfY_8 rfl ?_
  refine g_getf (v := .int u.2.2.1) X fs_X7_9 0 rfl rfl dX7_bottomOfY_9 ?_
  refine g_callSP (st2 := [.int (redV u.2.2.1 u.2.1 u.2.2.1)]) (ws' := [wTr E tr u].flatten) (wr := [wTr E tr u].flatten) X (c_X7_reduced E u.2.2.1 u.2.1 u.2.2.1) cs_X7_18 rfl (List.Perm.refl _) rfl (List.Perm.refl _) rfl rfl (Nat.le_of_ble_eq_true rfl) dX7_bottomOfY_12 rfl ?_
  exact g_iretv (r := (redV u.2.2.1 u.2.1 u.2.2.1)) X hx rfl (by rfl) (by rfl) dX7_bottomOfY_15
set_option maxHeartbeats 4000000 in
set_option maxRecDepth 100000 in
theorem c_X7_set (E : GE) (tr : Nat) (u : TR) (x : Int32) (y : Int32) (z : Int32) : CT E m_X7_set [.ref tr, .int x, .int y, .int z] ([wTr E tr u].flatten) none ([wTr E tr (x, y, z, u.2.2.2)].flatten) := by
  refine CT.intro (by decide +kernel) (Nat.le_of_ble_eq_true rfl) (fun Γ X hx => ?_)
  refine GG.lv [0, 1, 2, 3] (lv' := [(0, .ref tr), (1, .int x), (2, .int y), (3, .int z)]) rfl ?_
  refine g_aload_n X 0 dX7_set_0 rfl ?_
  refine g_iload_n X 1 dX7_set_1 rfl ?_
  refine g_putf (ws' := [wTr E tr (x, u.2.1, u.2.2.1, u.2.2.2.1, u.2.2.2.2.1, u.2.2.2.2.2)].flatten) X ps_X7_15 0 rfl rfl rfl (Nat.le_of_ble_eq_true rfl) rfl dX7_set_2 ?_
  refine g_aload_n X 0 dX7_set_5 rfl ?_
  refine g_iload_n X 2 dX7_set_6 rfl ?_
  refine g_putf (ws' := [wTr E tr (x, y, u.2.2.1, u.2.2.2.1, u.2.2.2.2.1, u.2.2.2.2.2)].flatten) X ps_X7_22 0 rfl rfl rfl (Nat.le_of_ble_eq_true rfl) rfl dX7_set_7 ?_
  refine g_aload_n X 0 dX7_set_10 rfl ?_
  refine g_iload_n X 3 dX7_set_11 rfl ?_
  refine g_putf (ws' := [wTr E tr (x, y, z, u.2.2.2.1, u.2.2.2.2.1, u.2.2.2.2.2)].flatten) X ps_X7_9 0 rfl rfl rfl (Nat.le_of_ble_eq_true rfl) rfl dX7_set_12 ?_
  exact g_vret X hx rfl rfl (by rfl) dX7_set_15
set_option maxHeartbeats 4000000 in
set_option maxRecDepth 100000 in
theorem c_X7_isInside (E : GE) (a : Nat → Nat) (v : SV) (p : Nat) (c1 : Nat) (c2 : Nat) (c3 : Nat) (hv : okS v) (hp : p < sM v) (hc1 : c1 < sM v) (hc2 : c2 < sM v) (hc3 : c3 < sM v) : CT E m_X7_isInside [.ref (a 0), .int (nI p), .int (nI c1), .int (nI c2), .int (nI c3)] ([wSv E a v].flatten) (some (.int (b2i (insB v p c1 c2 c3)))) ([wSv E a v].flatten) := by
  refine CT.intro (by decide +kernel) (Nat.le_of_ble_eq_true rfl) (fun Γ X hx => ?_)
  refine GG.lv [0, 1, 2, 3, 4] (lv' := [(0, .ref (a 0)), (1, .int (nI p)), (2, .int (nI c1)), (3, .int (nI c2)), (4, .int (nI c3))]) rfl ?_
  have hv1 : sM v ≤ 8 := hv.1
  have hv2 : sS v ≤ 8 := hv.2
  refine g_aload_n X 0 dX7_isInside_0 rfl ?_
  refine g_iload_n X 1 dX7_isInside_1 rfl ?_
  refine g_iload_n X 3 dX7_isInside_2 rfl ?_
  refine g_iload X 4 dX7_isInside_3 rfl ?_
  refine g_callVr (st2 := [.int (svArea v p c2 c3)]) (q0 := 0) X (c_X4_twiceArea E a v p c2 c3 (by first | assumption | omega) (by first | assumption | omega) (by first | assumption | omega) (by first | assumption | omega)) cs_X7_70 rfl [0] [] 1 rfl (by decide) rfl rfl rfl rfl rfl (Nat.le_of_ble_eq_true rfl) dX7_isInside_5 rfl ?_
  refine g_absI X cs_X7_73 ⟨by decide, Nat.le_of_ble_eq_true rfl, Nat.zero_le _, Nat.zero_le _⟩ dX7_isInside_8 ?_
  refine g_aload_n X 0 dX7_isInside_11 rfl ?_
  refine g_iload_n X 2 dX7_isInside_12 rfl ?_
  refine g_iload_n X 1 dX7_isInside_13 rfl ?_
  refine g_iload X 4 dX7_isInside_14 rfl ?_
  refine g_callVr (st2 := [.int (svArea v c1 p c3), .int (absI (svArea v p c2 c3))]) (q0 := 0) X (c_X4_twiceArea E a v c1 p c3 (by first | assumption | omega) (by first | assumption | omega) (by first | assumption | omega) (by first | assumption | omega)) cs_X7_70 rfl [0] [] 1 rfl (by decide) rfl rfl rfl rfl rfl (Nat.le_of_ble_eq_true rfl) dX7_isInside_16 rfl ?_
  refine g_absI X cs_X7_73 ⟨by decide, Nat.le_of_ble_eq_true rfl, Nat.zero_le _, Nat.zero_le _⟩ dX7_isInside_19 ?_
  refine g_iadd X dX7_isInside_22 ?_
  refine g_aload_n X 0 dX7_isInside_23 rfl ?_
  refine g_iload_n X 2 dX7_isInside_24 rfl ?_
  refine g_iload_n X 3 dX7_isInside_25 rfl ?_
  refine g_iload_n X 1 dX7_isInside_26 rfl ?_
  refine g_callVr (st2 := [.int (svArea v c1 c2 p), .int ((absI (svArea v p c2 c3)) + (absI (svArea v c1 p c3)))]) (q0 := 0) X (c_X4_twiceArea E a v c1 c2 p (by first | assumption | omega) (by first | assumption | omega) (by first | assumption | omega) (by first | assumption | omega)) cs_X7_70 rfl [0] [] 1 rfl (by decide) rfl rfl rfl rfl rfl (Nat.le_of_ble_eq_true rfl) dX7_isInside_27 rfl ?_
  refine g_absI X cs_X7_73 ⟨by decide, Nat.le_of_ble_eq_true rfl, Nat.zero_le _, Nat.zero_le _⟩ dX7_isInside_30 ?_
  refine g_iadd X dX7_isInside_33 ?_
  refine g_istore (lv' := [(5, .int (((absI (svArea v p c2 c3)) + (absI (svArea v c1 p c3))) + (absI (svArea v c1 c2 p)))), (0, .ref (a 0)), (1, .int (nI p)), (2, .int (nI c1)), (3, .int (nI c2)), (4, .int (nI c3))]) X dX7_isInside_34 (by decide) rfl ?_
  refine g_iload X 0 dX7_isInside_36 rfl ?_
  refine g_aload_n X 1 dX7_isInside_38 rfl ?_
  refine g_iload_n X 3 dX7_isInside_39 rfl ?_
  refine g_iload_n X 4 dX7_isInside_40 rfl ?_
  refine g_iload X 5 dX7_isInside_41 rfl ?_
  refine g_callVr (st2 := [.int (svArea v c1 c2 c3), .int (((absI (svArea v p c2 c3)) + (absI (svArea v c1 p c3))) + (absI (svArea v c1 c2 p)))]) (q0 := 0) X (c_X4_twiceArea E a v c1 c2 c3 (by first | assumption | omega) (by first | assumption | omega) (by first | assumption | omega) (by first | assumption | omega)) cs_X7_70 rfl [0] [] 1 rfl (by decide) rfl rfl rfl rfl rfl (Nat.le_of_ble_eq_true rfl) dX7_isInside_43 rfl ?_
  refine g_absI X cs_X7_73 ⟨by decide, Nat.le_of_ble_eq_true rfl, Nat.zero_le _, Nat.zero_le _⟩ dX7_isInside_46 ?_
  refine g_icmp_ne (tgt := 56) X dX7_isInside_49 (by decide) (fun c_49 => ?_) (fun c_49 => ?_)
  · refine g_iconst (v := (nI 0)) X dX7_isInside_56 rfl ?_
    exact g_zretv (r := (nI 0)) X hx rfl (by simp [insB, b2i, c_49]; try rfl) (by rfl) dX7_isInside_57
  · refine g_iconst (v := (nI 1)) X dX7_isInside_52 rfl ?_
    refine g_goto (tgt := 57) X dX7_isInside_53 (by decide) ?_
    exact g_zretv (r := (nI 1)) X hx rfl (by simp [insB, b2i, c_49]; try rfl) (by rfl) dX7_isInside_57
set_option maxHeartbeats 4000000 in
set_option maxRecDepth 100000 in
theorem c_X7_findTriangle (E : GE) (tr : Nat) (u : TR) (a : Nat → Nat) (v : SV) (m : Nat → Nat) (rb : Nat → Nat) (rc : Nat → Nat) (P : Nat) (M : Nat → Int32) (p : Nat) (hv : okS v) (hp : p < sM v) : CT E m_X7_findTriangle [.ref tr, .ref (a 0), .ref (m 0), .int (nI p)] ([wTr E tr u, wSv E a v, wMo E m rb rc P, wAr E (m 3) 8 M].flatten) (some (.int (b2i (decide (¬ (tgAll v M p (nI 0, u.2.2.2)).1 ≤ 0))))) ([wTr E tr (u.1, u.2.1, u.2.2.1, (tgAll v M p (nI 0, u.2.2.2)).2), wSv E a v, wMo E m rb rc P, wAr E (m 3) 8 M].flatten) := by
  refine CT.intro (by decide +kernel) (Nat.le_of_ble_eq_true rfl) (fun Γ X hx => ?_)
  refine GG.lv [0, 1, 2, 3] (lv' := [(0, .ref tr), (1, .ref (a 0)), (2, .ref (m 0)), (3, .int (nI p))]) rfl ?_
  have hv1 : sM v ≤ 8 := hv.1
  have hv2 : sS v ≤ 8 := hv.2
  refine g_iconst (v := (nI 0)) X dX7_findTriangle_0 rfl ?_
  refine g_istore (lv' := [(4, .int (nI 0)), (0, .ref tr), (1, .ref (a 0)), (2, .ref (m 0)), (3, .int (nI p))]) X dX7_findTriangle_1 (by decide) rfl ?_
  refine g_iconst (v := (nI 0)) X dX7_findTriangle_3 rfl ?_
  refine g_istore (lv' := [(5, .int (nI 0)), (4, .int (nI 0)), (0, .ref tr), (1, .ref (a 0)), (2, .ref (m 0)), (3, .int (nI p))]) X dX7_findTriangle_4 (by decide) rfl ?_
  have L_6 : ∀ (n_6 : Nat) (ga : Nat) (ha : ga ≤ sM v) (hm_6 : sM v - ga < n_6) (x_4 : Int32) (ex_4 : x_4 = ((itR (tg3 v M p) ga (nI 0, u.2.2.2)).1)) (x_5 : Int32) (ex_5 : x_5 = (nI ga)) (u_0 : Int32) (eu_0 : u_0 = (itR (tg3 v M p) ga (nI 0, u.2.2.2)).2.1) (u_1 : Int32) (eu_1 : u_1 = (itR (tg3 v M p) ga (nI 0, u.2.2.2)).2.2.1) (u_2 : Int32) (eu_2 : u_2 = (itR (tg3 v M p) ga (nI 0, u.2.2.2)).2.2.2), GG E m_X7_findTriangle Γ 0 0 ([wTr E tr (u.1, u.2.1, u.2.2.1, u_0, u_1, u_2), wSv E a v, wMo E m rb rc P, wAr E (m 3) 8 M].flatten) [(0, .ref tr), (1, .ref (a 0)), (2, .ref (m 0)), (3, .int (nI p)), (4, .int x_4), (5, .int x_5)] 6 [] := by
    intro n_6
    induction n_6 with
    | zero => intro ga ha hm_6; exact absurd hm_6 (Nat.not_lt_zero _)
    | succ n_6 ih_6 =>
      intro ga ha hm_6 x_4 ex_4 x_5 ex_5 u_0 eu_0 u_1 eu_1 u_2 eu_2
      subst ex_4
      subst ex_5
      subst eu_0
      subst eu_1
      subst eu_2
      refine g_iload X 5 dX7_findTriangle_6 rfl ?_
      refine g_aload_n X 1 dX7_findTriangle_8 rfl ?_
      refine g_callVr (st2 := [.int (nI (sM v)), .int (nI ga)]) (q0 := 0) X (c_X4_meetings E a v) cs_X7_66 rfl [1] [0, 2, 3] 4 rfl (by decide) rfl rfl rfl rfl rfl (Nat.le_of_ble_eq_true rfl) dX7_findTriangle_9 rfl ?_
      refine g_icmp_ge (tgt := 156) X dX7_findTriangle_12 (by decide) (fun c_12 => ?_) (fun c_12 => ?_)
      · have f_c_12 : sM v ≤ ga := n_le (by omega) (by omega) c_12
        have fn_c_12 := Nat.not_lt.mpr f_c_12
        have ea : ga = sM v := by omega
        subst ea
        refine g_iload X 4 dX7_findTriangle_156 rfl ?_
        refine g_if_le (tgt := 165) X dX7_findTriangle_158 (by decide) (fun c_158 => ?_) (fun c_158 => ?_)
        · refine g_iconst (v := (nI 0)) X dX7_findTriangle_165 rfl ?_
          exact g_zretv (r := (nI 0)) X hx rfl (by simp only [b2i, tgAll, c_12, f_c_12, fn_c_12, c_158, decide_true, decide_false, not_true_eq_false, not_false_eq_true, Bool.true_and, Bool.false_and, Bool.and_true, Bool.and_false, Bool.true_or, Bool.false_or, Bool.or_true, Bool.or_false, and_true, true_and, and_false, false_and, or_true, true_or, or_false, false_or, if_true, if_false, Bool.false_eq_true, decide_eq_true_eq]; try rfl) (by rfl) dX7_findTriangle_166
        · refine g_iconst (v := (nI 1)) X dX7_findTriangle_161 rfl ?_
          refine g_goto (tgt := 166) X dX7_findTriangle_162 (by decide) ?_
          exact g_zretv (r := (nI 1)) X hx rfl (by simp only [b2i, tgAll, c_12, f_c_12, fn_c_12, c_158, decide_true, decide_false, not_true_eq_false, not_false_eq_true, Bool.true_and, Bool.false_and, Bool.and_true, Bool.and_false, Bool.true_or, Bool.false_or, Bool.or_true, Bool.or_false, and_true, true_and, and_false, false_and, or_true, true_or, or_false, false_or, if_true, if_false, Bool.false_eq_true, decide_eq_true_eq]; try rfl) (by rfl) dX7_findTriangle_166
      · have f_c_12 : ga < sM v := n_nle (by omega) (by omega) c_12
        have fn_c_12 := Nat.not_le.mpr f_c_12
        refine g_iload X 5 dX7_findTriangle_15 rfl ?_
        refine g_iconst (v := (nI 1)) X dX7_findTriangle_17 rfl ?_
        refine g_iaddN X dX7_findTriangle_18 ?_
        refine g_istore (lv' := [(6, .int (nI (ga + 1))), (0, .ref tr), (1, .ref (a 0)), (2, .ref (m 0)), (3, .int (nI p)), (4, .int ((itR (tg3 v M p) ga (nI 0, u.2.2.2)).1)), (5, .int (nI ga))]) X dX7_findTriangle_19 (by decide) rfl ?_
        have L_21 : ∀ (n_21 : Nat) (gb : Nat) (hb : gb ≤ sM v) (hab : ga + 1 ≤ gb) (hm_21 : sM v - gb < n_21) (x_4 : Int32) (ex_4 : x_4 = ((itF (tg2 v M p ga) (ga + 1) gb (itR (tg3 v M p) ga (nI 0, u.2.2.2))).1)) (x_6 : Int32) (ex_6 : x_6 = (nI gb)) (u_0 : Int32) (eu_0 : u_0 = (itF (tg2 v M p ga) (ga + 1) gb (itR (tg3 v M p) ga (nI 0, u.2.2.2))).2.1) (u_1 : Int32) (eu_1 : u_1 = (itF (tg2 v M p ga) (ga + 1) gb (itR (tg3 v M p) ga (nI 0, u.2.2.2))).2.2.1) (u_2 : Int32) (eu_2 : u_2 = (itF (tg2 v M p ga) (ga + 1) gb (itR (tg3 v M p) ga (nI 0, u.2.2.2))).2.2.2), GG E m_X7_findTriangle Γ 0 0 ([wTr E tr (u.1, u.2.1, u.2.2.1, u_0, u_1, u_2), wSv E a v, wMo E m rb rc P, wAr E (m 3) 8 M].flatten) [(0, .ref tr), (1, .ref (a 0)), (2, .ref (m 0)), (3, .int (nI p)), (4, .int x_4), (5, .int (nI ga)), (6, .int x_6)] 21 [] := by
          intro n_21
          induction n_21 with
          | zero => intro gb hb hab hm_21; exact absurd hm_21 (Nat.not_lt_zero _)
          | succ n_21 ih_21 =>
            intro gb hb hab hm_21 x_4 ex_4 x_6 ex_6 u_0 eu_0 u_1 eu_1 u_2 eu_2
            subst ex_4
            subst ex_6
            subst eu_0
            subst eu_1
            subst eu_2
            refine g_iload X 6 dX7_findTriangle_21 rfl ?_
            refine g_aload_n X 1 dX7_findTriangle_23 rfl ?_
            refine g_callVr (st2 := [.int (nI (sM v)), .int (nI gb)]) (q0 := 0) X (c_X4_meetings E a v) cs_X7_66 rfl [1] [0, 2, 3] 4 rfl (by decide) rfl rfl rfl rfl rfl (Nat.le_of_ble_eq_true rfl) dX7_findTriangle_24 rfl ?_
            refine g_icmp_ge (tgt := 150) X dX7_findTriangle_27 (by decide) (fun c_27 => ?_) (fun c_27 => ?_)
            · have f_c_27 : sM v ≤ gb := n_le (by omega) (by omega) c_27
              have fn_c_27 := Nat.not_lt.mpr f_c_27
              refine g_iincN (lv' := [(5, .int (nI (ga + 1))), (0, .ref tr), (1, .ref (a 0)), (2, .ref (m 0)), (3, .int (nI p)), (4, .int ((itF (tg2 v M p ga) (ga + 1) gb (itR (tg3 v M p) ga (nI 0, u.2.2.2))).1)), (6, .int (nI gb))]) X 5 dX7_findTriangle_150 rfl (by decide) rfl ?_
              refine g_goto (tgt := 6) X dX7_findTriangle_153 (by decide) ?_
              refine GG.lv [1, 2, 3, 4, 5, 0] rfl ?_
              exact ih_6 (ga + 1) (by omega) (by omega) ((itF (tg2 v M p ga) (ga + 1) gb (itR (tg3 v M p) ga (nI 0, u.2.2.2))).1) (by rw [show gb = sM v by omega]; rfl) (nI (ga + 1)) (by rfl) ((itF (tg2 v M p ga) (ga + 1) gb (itR (tg3 v M p) ga (nI 0, u.2.2.2))).2.1) (by rw [show gb = sM v by omega]; rfl) ((itF (tg2 v M p ga) (ga + 1) gb (itR (tg3 v M p) ga (nI 0, u.2.2.2))).2.2.1) (by rw [show gb = sM v by omega]; rfl) ((itF (tg2 v M p ga) (ga + 1) gb (itR (tg3 v M p) ga (nI 0, u.2.2.2))).2.2.2) (by rw [show gb = sM v by omega]; rfl)
            · have f_c_27 : gb < sM v := n_nle (by omega) (by omega) c_27
              have fn_c_27 := Nat.not_le.mpr f_c_27
              refine g_iload X 6 dX7_findTriangle_30 rfl ?_
              refine g_iconst (v := (nI 1)) X dX7_findTriangle_32 rfl ?_
              refine g_iaddN X dX7_findTriangle_33 ?_
              refine g_istore (lv' := [(7, .int (nI (gb + 1))), (0, .ref tr), (1, .ref (a 0)), (2, .ref (m 0)), (3, .int (nI p)), (4, .int ((itF (tg2 v M p ga) (ga + 1) gb (itR (tg3 v M p) ga (nI 0, u.2.2.2))).1)), (5, .int (nI ga)), (6, .int (nI gb))]) X dX7_findTriangle_34 (by decide) rfl ?_
              have L_36 : ∀ (n_36 : Nat) (gc : Nat) (hc : gc ≤ sM v) (hbc : gb + 1 ≤ gc) (hm_36 : sM v - gc < n_36) (x_4 : Int32) (ex_4 : x_4 = ((itF (tg1 v M p ga gb) (gb + 1) gc (itF (tg2 v M p ga) (ga + 1) gb (itR (tg3 v M p) ga (nI 0, u.2.2.2)))).1)) (x_7 : Int32) (ex_7 : x_7 = (nI gc)) (u_0 : Int32) (eu_0 : u_0 = (itF (tg1 v M p ga gb) (gb + 1) gc (itF (tg2 v M p ga) (ga + 1) gb (itR (tg3 v M p) ga (nI 0, u.2.2.2)))).2.1) (u_1 : Int32) (eu_1 : u_1 = (itF (tg1 v M p ga gb) (gb + 1) gc (itF (tg2 v M p ga) (ga + 1) gb (itR (tg3 v M p) ga (nI 0, u.2.2.2)))).2.2.1) (u_2 : Int32) (eu_2 : u_2 = (itF (tg1 v M p ga gb) (gb + 1) gc (itF (tg2 v M p ga) (ga + 1) gb (itR (tg3 v M p) ga (nI 0, u.2.2.2)))).2.2.2), GG E m_X7_findTriangle Γ 0 0 ([wTr E tr (u.1, u.2.1, u.2.2.1, u_0, u_1, u_2), wSv E a v, wMo E m rb rc P, wAr E (m 3) 8 M].flatten) [(0, .ref tr), (1, .ref (a 0)), (2, .ref (m 0)), (3, .int (nI p)), (4, .int x_4), (5, .int (nI ga)), (6, .int (nI gb)), (7, .int x_7)] 36 [] := by
                intro n_36
                induction n_36 with
                | zero => intro gc hc hbc hm_36; exact absurd hm_36 (Nat.not_lt_zero _)
                | succ n_36 ih_36 =>
                  intro gc hc hbc hm_36 x_4 ex_4 x_7 ex_7 u_0 eu_0 u_1 eu_1 u_2 eu_2
                  subst ex_4
                  subst ex_7
                  subst eu_0
                  subst eu_1
                  subst eu_2
                  refine g_iload X 7 dX7_findTriangle_36 rfl ?_
                  refine g_aload_n X 1 dX7_findTriangle_38 rfl ?_
                  refine g_callVr (st2 := [.int (nI (sM v)), .int (nI gc)]) (q0 := 0) X (c_X4_meetings E a v) cs_X7_66 rfl [1] [0, 2, 3] 4 rfl (by decide) rfl rfl rfl rfl rfl (Nat.le_of_ble_eq_true rfl) dX7_findTriangle_39 rfl ?_
                  refine g_icmp_ge (tgt := 144) X dX7_findTriangle_42 (by decide) (fun c_42 => ?_) (fun c_42 => ?_)
                  · have f_c_42 : sM v ≤ gc := n_le (by omega) (by omega) c_42
                    have fn_c_42 := Nat.not_lt.mpr f_c_42
                    refine g_iincN (lv' := [(6, .int (nI (gb + 1))), (0, .ref tr), (1, .ref (a 0)), (2, .ref (m 0)), (3, .int (nI p)), (4, .int ((itF (tg1 v M p ga gb) (gb + 1) gc (itF (tg2 v M p ga) (ga + 1) gb (itR (tg3 v M p) ga (nI 0, u.2.2.2)))).1)), (5, .int (nI ga)), (7, .int (nI gc))]) X 6 dX7_findTriangle_144 rfl (by decide) rfl ?_
                    refine g_goto (tgt := 21) X dX7_findTriangle_147 (by decide) ?_
                    refine GG.lv [1, 2, 3, 4, 5, 6, 0] rfl ?_
                    exact ih_21 (gb + 1) (by omega) (by omega) (by omega) ((itF (tg1 v M p ga gb) (gb + 1) gc (itF (tg2 v M p ga) (ga + 1) gb (itR (tg3 v M p) ga (nI 0, u.2.2.2)))).1) (by rw [itF_s _ (by omega), show gc = sM v by omega]; rfl) (nI (gb + 1)) (by rfl) ((itF (tg1 v M p ga gb) (gb + 1) gc (itF (tg2 v M p ga) (ga + 1) gb (itR (tg3 v M p) ga (nI 0, u.2.2.2)))).2.1) (by rw [itF_s _ (by omega), show gc = sM v by omega]; rfl) ((itF (tg1 v M p ga gb) (gb + 1) gc (itF (tg2 v M p ga) (ga + 1) gb (itR (tg3 v M p) ga (nI 0, u.2.2.2)))).2.2.1) (by rw [itF_s _ (by omega), show gc = sM v by omega]; rfl) ((itF (tg1 v M p ga gb) (gb + 1) gc (itF (tg2 v M p ga) (ga + 1) gb (itR (tg3 v M p) ga (nI 0, u.2.2.2)))).2.2.2) (by rw [itF_s _ (by omega), show gc = sM v by omega]; rfl)
                  · have f_c_42 : gc < sM v := n_nle (by omega) (by omega) c_42
                    have fn_c_42 := Nat.not_le.mpr f_c_42
                    refine g_aload_n X 1 dX7_findTriangle_45 rfl ?_
                    refine g_iload X 5 dX7_findTriangle_46 rfl ?_
                    refine g_iload X 6 dX7_findTriangle_48 rfl ?_
                    refine g_iload X 7 dX7_findTriangle_50 rfl ?_
                    refine g_callVr (st2 := [.int (svArea v ga gb gc)]) (q0 := 0) X (c_X4_twiceArea E a v ga gb gc (by first | assumption | omega) (by first | assumption | omega) (by first | assumption | omega) (by first | assumption | omega)) cs_X7_70 rfl [1] [0, 2, 3] 4 rfl (by decide) rfl rfl rfl rfl rfl (Nat.le_of_ble_eq_true rfl) dX7_findTriangle_52 rfl ?_
                    refine g_absI X cs_X7_73 ⟨by decide, Nat.le_of_ble_eq_true rfl, Nat.zero_le _, Nat.zero_le _⟩ dX7_findTriangle_55 ?_
                    refine g_istore (lv' := [(8, .int (absI (svArea v ga gb gc))), (0, .ref tr), (1, .ref (a 0)), (2, .ref (m 0)), (3, .int (nI p)), (4, .int ((itF (tg1 v M p ga gb) (gb + 1) gc (itF (tg2 v M p ga) (ga + 1) gb (itR (tg3 v M p) ga (nI 0, u.2.2.2)))).1)), (5, .int (nI ga)), (6, .int (nI gb)), (7, .int (nI gc))]) X dX7_findTriangle_58 (by decide) rfl ?_
                    refine g_iload X 5 dX7_findTriangle_60 rfl ?_
                    refine g_if_eq (tgt := 72) X dX7_findTriangle_62 (by decide) (fun c_62 => ?_) (fun c_62 => ?_)
                    · refine g_iconst (v := (nI 1)) X dX7_findTriangle_72 rfl ?_
                      refine g_goto (tgt := 77) X dX7_findTriangle_73 (by decide) ?_
                      refine g_istore (lv' := [(9, .int (nI 1)), (8, .int (absI (svArea v ga gb gc))), (0, .ref tr), (1, .ref (a 0)), (2, .ref (m 0)), (3, .int (nI p)), (4, .int ((itF (tg1 v M p ga gb) (gb + 1) gc (itF (tg2 v M p ga) (ga + 1) gb (itR (tg3 v M p) ga (nI 0, u.2.2.2)))).1)), (5, .int (nI ga)), (6, .int (nI gb)), (7, .int (nI gc))]) X dX7_findTriangle_77 (by decide) rfl ?_
                      refine g_iload X 1 dX7_findTriangle_79 rfl ?_
                      refine g_if_le (tgt := 138) X dX7_findTriangle_81 (by decide) (fun c_81 => ?_) (fun c_81 => ?_)
                      · refine g_iincN (lv' := [(7, .int (nI (gc + 1))), (9, .int (nI 1)), (8, .int (absI (svArea v ga gb gc))), (0, .ref tr), (1, .ref (a 0)), (2, .ref (m 0)), (3, .int (nI p)), (4, .int ((itF (tg1 v M p ga gb) (gb + 1) gc (itF (tg2 v M p ga) (ga + 1) gb (itR (tg3 v M p) ga (nI 0, u.2.2.2)))).1)), (5, .int (nI ga)), (6, .int (nI gb))]) X 9 dX7_findTriangle_138 rfl (by decide) rfl ?_
                        refine g_goto (tgt := 36) X dX7_findTriangle_141 (by decide) ?_
                        refine GG.lv [3, 4, 5, 6, 7, 8, 9, 0] rfl ?_
                        exact ih_36 (gc + 1) (by omega) (by omega) (by omega) ((itF (tg1 v M p ga gb) (gb + 1) gc (itF (tg2 v M p ga) (ga + 1) gb (itR (tg3 v M p) ga (nI 0, u.2.2.2)))).1) (by rw [itF_s _ (by omega), tg1_f (by simp only [tgOK, c_12, f_c_12, fn_c_12, c_27, f_c_27, fn_c_27, c_42, f_c_42, fn_c_42, c_62, c_81, decide_true, decide_false, not_true_eq_false, not_false_eq_true, Bool.true_and, Bool.false_and, Bool.and_true, Bool.and_false, Bool.true_or, Bool.false_or, Bool.or_true, Bool.or_false, and_true, true_and, and_false, false_and, or_true, true_or, or_false, false_or, if_true, if_false, Bool.false_eq_true, decide_eq_true_eq])]) (nI (gc + 1)) (by rfl) ((itF (tg1 v M p ga gb) (gb + 1) gc (itF (tg2 v M p ga) (ga + 1) gb (itR (tg3 v M p) ga (nI 0, u.2.2.2)))).2.1) (by rw [itF_s _ (by omega), tg1_f (by simp only [tgOK, c_12, f_c_12, fn_c_12, c_27, f_c_27, fn_c_27, c_42, f_c_42, fn_c_42, c_62, c_81, decide_true, decide_false, not_true_eq_false, not_false_eq_true, Bool.true_and, Bool.false_and, Bool.and_true, Bool.and_false, Bool.true_or, Bool.false_or, Bool.or_true, Bool.or_false, and_true, true_and, and_false, false_and, or_true, true_or, or_false, false_or, if_true, if_false, Bool.false_eq_true, decide_eq_true_eq])]) ((itF (tg1 v M p ga gb) (gb + 1) gc (itF (tg2 v M p ga) (ga + 1) gb (itR (tg3 v M p) ga (nI 0, u.2.2.2)))).2.2.1) (by rw [itF_s _ (by omega), tg1_f (by simp only [tgOK, c_12, f_c_12, fn_c_12, c_27, f_c_27, fn_c_27, c_42, f_c_42, fn_c_42, c_62, c_81, decide_true, decide_false, not_true_eq_false, not_false_eq_true, Bool.true_and, Bool.false_and, Bool.and_true, Bool.and_false, Bool.true_or, Bool.false_or, Bool.or_true, Bool.or_false, and_true, true_and, and_false, false_and, or_true, true_or, or_false, false_or, if_true, if_false, Bool.false_eq_true, decide_eq_true_eq])]) ((itF (tg1 v M p ga gb) (gb + 1) gc (itF (tg2 v M p ga) (ga + 1) gb (itR (tg3 v M p) ga (nI 0, u.2.2.2)))).2.2.2) (by rw [itF_s _ (by omega), tg1_f (by simp only [tgOK, c_12, f_c_12, fn_c_12, c_27, f_c_27, fn_c_27, c_42, f_c_42, fn_c_42, c_62, c_81, decide_true, decide_false, not_true_eq_false, not_false_eq_true, Bool.true_and, Bool.false_and, Bool.and_true, Bool.and_false, Bool.true_or, Bool.false_or, Bool.or_true, Bool.or_false, and_true, true_and, and_false, false_and, or_true, true_or, or_false, false_or, if_true, if_false, Bool.false_eq_true, decide_eq_true_eq])])
                      · refine g_iload X 0 dX7_findTriangle_84 rfl ?_
                        refine g_if_eq (tgt := 138) X dX7_findTriangle_86 (by decide) (fun c_86 => absurd c_86 (by decide)) (fun c_86 => ?_)
                        refine g_aload_n X 4 dX7_findTriangle_89 rfl ?_
                        refine g_iload X 7 dX7_findTriangle_90 rfl ?_
                        refine g_iload X 8 dX7_findTriangle_92 rfl ?_
                        refine g_iload X 9 dX7_findTriangle_94 rfl ?_
                        refine g_callVr (st2 := [.int (b2i (amB M ga gb gc))]) (q0 := 0) X (c_X0_areMatched E m rb rc P M ga gb gc) cs_X7_78 rfl [2, 3] [0, 1] 4 rfl (by decide) rfl rfl rfl rfl rfl (Nat.le_of_ble_eq_true rfl) dX7_findTriangle_96 rfl ?_
                        refine g_bif_eq (tgt := 138) X dX7_findTriangle_99 (by decide) (fun c_99 => ?_) (fun c_99 => ?_)
                        · refine g_iincN (lv' := [(7, .int (nI (gc + 1))), (9, .int (nI 1)), (8, .int (absI (svArea v ga gb gc))), (0, .ref tr), (1, .ref (a 0)), (2, .ref (m 0)), (3, .int (nI p)), (4, .int ((itF (tg1 v M p ga gb) (gb + 1) gc (itF (tg2 v M p ga) (ga + 1) gb (itR (tg3 v M p) ga (nI 0, u.2.2.2)))).1)), (5, .int (nI ga)), (6, .int (nI gb))]) X 9 dX7_findTriangle_138 rfl (by decide) rfl ?_
                          refine g_goto (tgt := 36) X dX7_findTriangle_141 (by decide) ?_
                          refine GG.lv [3, 4, 5, 6, 7, 8, 9, 0] rfl ?_
                          exact ih_36 (gc + 1) (by omega) (by omega) (by omega) ((itF (tg1 v M p ga gb) (gb + 1) gc (itF (tg2 v M p ga) (ga + 1) gb (itR (tg3 v M p) ga (nI 0, u.2.2.2)))).1) (by rw [itF_s _ (by omega), tg1_f (by simp only [tgOK, c_12, f_c_12, fn_c_12, c_27, f_c_27, fn_c_27, c_42, f_c_42, fn_c_42, c_62, c_81, c_99, decide_true, decide_false, not_true_eq_false, not_false_eq_true, Bool.true_and, Bool.false_and, Bool.and_true, Bool.and_false, Bool.true_or, Bool.false_or, Bool.or_true, Bool.or_false, and_true, true_and, and_false, false_and, or_true, true_or, or_false, false_or, if_true, if_false, Bool.false_eq_true, decide_eq_true_eq])]) (nI (gc + 1)) (by rfl) ((itF (tg1 v M p ga gb) (gb + 1) gc (itF (tg2 v M p ga) (ga + 1) gb (itR (tg3 v M p) ga (nI 0, u.2.2.2)))).2.1) (by rw [itF_s _ (by omega), tg1_f (by simp only [tgOK, c_12, f_c_12, fn_c_12, c_27, f_c_27, fn_c_27, c_42, f_c_42, fn_c_42, c_62, c_81, c_99, decide_true, decide_false, not_true_eq_false, not_false_eq_true, Bool.true_and, Bool.false_and, Bool.and_true, Bool.and_false, Bool.true_or, Bool.false_or, Bool.or_true, Bool.or_false, and_true, true_and, and_false, false_and, or_true, true_or, or_false, false_or, if_true, if_false, Bool.false_eq_true, decide_eq_true_eq])]) ((itF (tg1 v M p ga gb) (gb + 1) gc (itF (tg2 v M p ga) (ga + 1) gb (itR (tg3 v M p) ga (nI 0, u.2.2.2)))).2.2.1) (by rw [itF_s _ (by omega), tg1_f (by simp only [tgOK, c_12, f_c_12, fn_c_12, c_27, f_c_27, fn_c_27, c_42, f_c_42, fn_c_42, c_62, c_81, c_99, decide_true, decide_false, not_true_eq_false, not_false_eq_true, Bool.true_and, Bool.false_and, Bool.and_true, Bool.and_false, Bool.true_or, Bool.false_or, Bool.or_true, Bool.or_false, and_true, true_and, and_false, false_and, or_true, true_or, or_false, false_or, if_true, if_false, Bool.false_eq_true, decide_eq_true_eq])]) ((itF (tg1 v M p ga gb) (gb + 1) gc (itF (tg2 v M p ga) (ga + 1) gb (itR (tg3 v M p) ga (nI 0, u.2.2.2)))).2.2.2) (by rw [itF_s _ (by omega), tg1_f (by simp only [tgOK, c_12, f_c_12, fn_c_12, c_27, f_c_27, fn_c_27, c_42, f_c_42, fn_c_42, c_62, c_81, c_99, decide_true, decide_false, not_true_eq_false, not_false_eq_true, Bool.true_and, Bool.false_and, Bool.and_true, Bool.and_false, Bool.true_or, Bool.false_or, Bool.or_true, Bool.or_false, and_true, true_and, and_false, false_and, or_true, true_or, or_false, false_or, if_true, if_false, Bool.false_eq_true, decide_eq_true_eq])])
                        · refine g_aload_n X 3 dX7_findTriangle_102 rfl ?_
                          refine g_iload_n X 5 dX7_findTriangle_103 rfl ?_
                          refine g_iload X 7 dX7_findTriangle_104 rfl ?_
                          refine g_iload X 8 dX7_findTriangle_106 rfl ?_
                          refine g_iload X 9 dX7_findTriangle_108 rfl ?_
                          refine g_callSr (st2 := [.int (b2i (insB v p ga gb gc))]) X (c_X7_isInside E a v p ga gb gc (by first | assumption | omega) (by first | assumption | omega) (by first | assumption | omega) (by first | assumption | omega) (by first | assumption | omega)) cs_X7_82 rfl [1] [0, 2, 3] 4 rfl (by decide) rfl rfl rfl (Nat.le_of_ble_eq_true rfl) dX7_findTriangle_110 rfl ?_
                          refine g_bif_eq (tgt := 138) X dX7_findTriangle_113 (by decide) (fun c_113 => ?_) (fun c_113 => ?_)
                          · refine g_iincN (lv' := [(7, .int (nI (gc + 1))), (9, .int (nI 1)), (8, .int (absI (svArea v ga gb gc))), (0, .ref tr), (1, .ref (a 0)), (2, .ref (m 0)), (3, .int (nI p)), (4, .int ((itF (tg1 v M p ga gb) (gb + 1) gc (itF (tg2 v M p ga) (ga + 1) gb (itR (tg3 v M p) ga (nI 0, u.2.2.2)))).1)), (5, .int (nI ga)), (6, .int (nI gb))]) X 9 dX7_findTriangle_138 rfl (by decide) rfl ?_
                            refine g_goto (tgt := 36) X dX7_findTriangle_141 (by decide) ?_
                            refine GG.lv [3, 4, 5, 6, 7, 8, 9, 0] rfl ?_
                            exact ih_36 (gc + 1) (by omega) (by omega) (by omega) ((itF (tg1 v M p ga gb) (gb + 1) gc (itF (tg2 v M p ga) (ga + 1) gb (itR (tg3 v M p) ga (nI 0, u.2.2.2)))).1) (by rw [itF_s _ (by omega), tg1_f (by simp only [tgOK, c_12, f_c_12, fn_c_12, c_27, f_c_27, fn_c_27, c_42, f_c_42, fn_c_42, c_62, c_81, c_99, c_113, decide_true, decide_false, not_true_eq_false, not_false_eq_true, Bool.true_and, Bool.false_and, Bool.and_true, Bool.and_false, Bool.true_or, Bool.false_or, Bool.or_true, Bool.or_false, and_true, true_and, and_false, false_and, or_true, true_or, or_false, false_or, if_true, if_false, Bool.false_eq_true, decide_eq_true_eq])]) (nI (gc + 1)) (by rfl) ((itF (tg1 v M p ga gb) (gb + 1) gc (itF (tg2 v M p ga) (ga + 1) gb (itR (tg3 v M p) ga (nI 0, u.2.2.2)))).2.1) (by rw [itF_s _ (by omega), tg1_f (by simp only [tgOK, c_12, f_c_12, fn_c_12, c_27, f_c_27, fn_c_27, c_42, f_c_42, fn_c_42, c_62, c_81, c_99, c_113, decide_true, decide_false, not_true_eq_false, not_false_eq_true, Bool.true_and, Bool.false_and, Bool.and_true, Bool.and_false, Bool.true_or, Bool.false_or, Bool.or_true, Bool.or_false, and_true, true_and, and_false, false_and, or_true, true_or, or_false, false_or, if_true, if_false, Bool.false_eq_true, decide_eq_true_eq])]) ((itF (tg1 v M p ga gb) (gb + 1) gc (itF (tg2 v M p ga) (ga + 1) gb (itR (tg3 v M p) ga (nI 0, u.2.2.2)))).2.2.1) (by rw [itF_s _ (by omega), tg1_f (by simp only [tgOK, c_12, f_c_12, fn_c_12, c_27, f_c_27, fn_c_27, c_42, f_c_42, fn_c_42, c_62, c_81, c_99, c_113, decide_true, decide_false, not_true_eq_false, not_false_eq_true, Bool.true_and, Bool.false_and, Bool.and_true, Bool.and_false, Bool.true_or, Bool.false_or, Bool.or_true, Bool.or_false, and_true, true_and, and_false, false_and, or_true, true_or, or_false, false_or, if_true, if_false, Bool.false_eq_true, decide_eq_true_eq])]) ((itF (tg1 v M p ga gb) (gb + 1) gc (itF (tg2 v M p ga) (ga + 1) gb (itR (tg3 v M p) ga (nI 0, u.2.2.2)))).2.2.2) (by rw [itF_s _ (by omega), tg1_f (by simp only [tgOK, c_12, f_c_12, fn_c_12, c_27, f_c_27, fn_c_27, c_42, f_c_42, fn_c_42, c_62, c_81, c_99, c_113, decide_true, decide_false, not_true_eq_false, not_false_eq_true, Bool.true_and, Bool.false_and, Bool.and_true, Bool.and_false, Bool.true_or, Bool.false_or, Bool.or_true, Bool.or_false, and_true, true_and, and_false, false_and, or_true, true_or, or_false, false_or, if_true, if_false, Bool.false_eq_true, decide_eq_true_eq])])
                          · refine g_iload X 1 dX7_findTriangle_116 rfl ?_
                            refine g_istore (lv' := [(4, .int (absI (svArea v ga gb gc))), (9, .int (nI 1)), (8, .int (absI (svArea v ga gb gc))), (0, .ref tr), (1, .ref (a 0)), (2, .ref (m 0)), (3, .int (nI p)), (5, .int (nI ga)), (6, .int (nI gb)), (7, .int (nI gc))]) X dX7_findTriangle_118 (by decide) rfl ?_
                            refine g_aload_n X 3 dX7_findTriangle_120 rfl ?_
                            refine g_iload X 7 dX7_findTriangle_121 rfl ?_
                            refine g_putf (ws' := [wTr E tr (u.1, u.2.1, u.2.2.1, (nI ga), (itF (tg1 v M p ga gb) (gb + 1) gc (itF (tg2 v M p ga) (ga + 1) gb (itR (tg3 v M p) ga (nI 0, u.2.2.2)))).2.2.1, (itF (tg1 v M p ga gb) (gb + 1) gc (itF (tg2 v M p ga) (ga + 1) gb (itR (tg3 v M p) ga (nI 0, u.2.2.2)))).2.2.2), wSv E a v, wMo E m rb rc P, wAr E (m 3) 8 M].flatten) X ps_X7_86 0 rfl rfl rfl (Nat.le_of_ble_eq_true rfl) rfl dX7_findTriangle_123 ?_
                            refine g_aload_n X 3 dX7_findTriangle_126 rfl ?_
                            refine g_iload X 8 dX7_findTriangle_127 rfl ?_
                            refine g_putf (ws' := [wTr E tr (u.1, u.2.1, u.2.2.1, (nI ga), (nI gb), (itF (tg1 v M p ga gb) (gb + 1) gc (itF (tg2 v M p ga) (ga + 1) gb (itR (tg3 v M p) ga (nI 0, u.2.2.2)))).2.2.2), wSv E a v, wMo E m rb rc P, wAr E (m 3) 8 M].flatten) X ps_X7_89 0 rfl rfl rfl (Nat.le_of_ble_eq_true rfl) rfl dX7_findTriangle_129 ?_
                            refine g_aload_n X 3 dX7_findTriangle_132 rfl ?_
                            refine g_iload X 9 dX7_findTriangle_133 rfl ?_
                            refine g_putf (ws' := [wTr E tr (u.1, u.2.1, u.2.2.1, (nI ga), (nI gb), (nI gc)), wSv E a v, wMo E m rb rc P, wAr E (m 3) 8 M].flatten) X ps_X7_92 0 rfl rfl rfl (Nat.le_of_ble_eq_true rfl) rfl dX7_findTriangle_135 ?_
                            refine g_iincN (lv' := [(7, .int (nI (gc + 1))), (4, .int (absI (svArea v ga gb gc))), (9, .int (nI 1)), (8, .int (absI (svArea v ga gb gc))), (0, .ref tr), (1, .ref (a 0)), (2, .ref (m 0)), (3, .int (nI p)), (5, .int (nI ga)), (6, .int (nI gb))]) X 9 dX7_findTriangle_138 rfl (by decide) rfl ?_
                            refine g_goto (tgt := 36) X dX7_findTriangle_141 (by decide) ?_
                            refine GG.lv [4, 5, 6, 7, 1, 8, 9, 0] rfl ?_
                            exact ih_36 (gc + 1) (by omega) (by omega) (by omega) (absI (svArea v ga gb gc)) (by rw [itF_s _ (by omega), tg1_t (by simp only [tgOK, c_12, f_c_12, fn_c_12, c_27, f_c_27, fn_c_27, c_42, f_c_42, fn_c_42, c_62, c_81, c_99, c_113, decide_true, decide_false, not_true_eq_false, not_false_eq_true, Bool.true_and, Bool.false_and, Bool.and_true, Bool.and_false, Bool.true_or, Bool.false_or, Bool.or_true, Bool.or_false, and_true, true_and, and_false, false_and, or_true, true_or, or_false, false_or, if_true, if_false, Bool.false_eq_true, decide_eq_true_eq])]) (nI (gc + 1)) (by rfl) (nI ga) (by rw [itF_s _ (by omega), tg1_t (by simp only [tgOK, c_12, f_c_12, fn_c_12, c_27, f_c_27, fn_c_27, c_42, f_c_42, fn_c_42, c_62, c_81, c_99, c_113, decide_true, decide_false, not_true_eq_false, not_false_eq_true, Bool.true_and, Bool.false_and, Bool.and_true, Bool.and_false, Bool.true_or, Bool.false_or, Bool.or_true, Bool.or_false, and_true, true_and, and_false, false_and, or_true, true_or, or_false, false_or, if_true, if_false, Bool.false_eq_true, decide_eq_true_eq])]) (nI gb) (by rw [itF_s _ (by omega), tg1_t (by simp only [tgOK, c_12, f_c_12, fn_c_12, c_27, f_c_27, fn_c_27, c_42, f_c_42, fn_c_42, c_62, c_81, c_99, c_113, decide_true, decide_false, not_true_eq_false, not_false_eq_true, Bool.true_and, Bool.false_and, Bool.and_true, Bool.and_false, Bool.true_or, Bool.false_or, Bool.or_true, Bool.or_false, and_true, true_and, and_false, false_and, or_true, true_or, or_false, false_or, if_true, if_false, Bool.false_eq_true, decide_eq_true_eq])]) (nI gc) (by rw [itF_s _ (by omega), tg1_t (by simp only [tgOK, c_12, f_c_12, fn_c_12, c_27, f_c_27, fn_c_27, c_42, f_c_42, fn_c_42, c_62, c_81, c_99, c_113, decide_true, decide_false, not_true_eq_false, not_false_eq_true, Bool.true_and, Bool.false_and, Bool.and_true, Bool.and_false, Bool.true_or, Bool.false_or, Bool.or_true, Bool.or_false, and_true, true_and, and_false, false_and, or_true, true_or, or_false, false_or, if_true, if_false, Bool.false_eq_true, decide_eq_true_eq])])
                    · refine g_iload X 0 dX7_findTriangle_65 rfl ?_
                      refine g_iload X 5 dX7_findTriangle_67 rfl ?_
                      refine g_icmp_ge (tgt := 76) X dX7_findTriangle_69 (by decide) (fun c_69 => ?_) (fun c_69 => ?_)
                      · refine g_iconst (v := (nI 0)) X dX7_findTriangle_76 rfl ?_
                        refine g_istore (lv' := [(9, .int (nI 0)), (8, .int (absI (svArea v ga gb gc))), (0, .ref tr), (1, .ref (a 0)), (2, .ref (m 0)), (3, .int (nI p)), (4, .int ((itF (tg1 v M p ga gb) (gb + 1) gc (itF (tg2 v M p ga) (ga + 1) gb (itR (tg3 v M p) ga (nI 0, u.2.2.2)))).1)), (5, .int (nI ga)), (6, .int (nI gb)), (7, .int (nI gc))]) X dX7_findTriangle_77 (by decide) rfl ?_
                        refine g_iload X 1 dX7_findTriangle_79 rfl ?_
                        refine g_if_le (tgt := 138) X dX7_findTriangle_81 (by decide) (fun c_81 => ?_) (fun c_81 => ?_)
                        · refine g_iincN (lv' := [(7, .int (nI (gc + 1))), (9, .int (nI 0)), (8, .int (absI (svArea v ga gb gc))), (0, .ref tr), (1, .ref (a 0)), (2, .ref (m 0)), (3, .int (nI p)), (4, .int ((itF (tg1 v M p ga gb) (gb + 1) gc (itF (tg2 v M p ga) (ga + 1) gb (itR (tg3 v M p) ga (nI 0, u.2.2.2)))).1)), (5, .int (nI ga)), (6, .int (nI gb))]) X 9 dX7_findTriangle_138 rfl (by decide) rfl ?_
                          refine g_goto (tgt := 36) X dX7_findTriangle_141 (by decide) ?_
                          refine GG.lv [3, 4, 5, 6, 7, 8, 9, 0] rfl ?_
                          exact ih_36 (gc + 1) (by omega) (by omega) (by omega) ((itF (tg1 v M p ga gb) (gb + 1) gc (itF (tg2 v M p ga) (ga + 1) gb (itR (tg3 v M p) ga (nI 0, u.2.2.2)))).1) (by rw [itF_s _ (by omega), tg1_f (by simp only [tgOK, c_12, f_c_12, fn_c_12, c_27, f_c_27, fn_c_27, c_42, f_c_42, fn_c_42, c_62, c_69, c_81, decide_true, decide_false, not_true_eq_false, not_false_eq_true, Bool.true_and, Bool.false_and, Bool.and_true, Bool.and_false, Bool.true_or, Bool.false_or, Bool.or_true, Bool.or_false, and_true, true_and, and_false, false_and, or_true, true_or, or_false, false_or, if_true, if_false, Bool.false_eq_true, decide_eq_true_eq])]) (nI (gc + 1)) (by rfl) ((itF (tg1 v M p ga gb) (gb + 1) gc (itF (tg2 v M p ga) (ga + 1) gb (itR (tg3 v M p) ga (nI 0, u.2.2.2)))).2.1) (by rw [itF_s _ (by omega), tg1_f (by simp only [tgOK, c_12, f_c_12, fn_c_12, c_27, f_c_27, fn_c_27, c_42, f_c_42, fn_c_42, c_62, c_69, c_81, decide_true, decide_false, not_true_eq_false, not_false_eq_true, Bool.true_and, Bool.false_and, Bool.and_true, Bool.and_false, Bool.true_or, Bool.false_or, Bool.or_true, Bool.or_false, and_true, true_and, and_false, false_and, or_true, true_or, or_false, false_or, if_true, if_false, Bool.false_eq_true, decide_eq_true_eq])]) ((itF (tg1 v M p ga gb) (gb + 1) gc (itF (tg2 v M p ga) (ga + 1) gb (itR (tg3 v M p) ga (nI 0, u.2.2.2)))).2.2.1) (by rw [itF_s _ (by omega), tg1_f (by simp only [tgOK, c_12, f_c_12, fn_c_12, c_27, f_c_27, fn_c_27, c_42, f_c_42, fn_c_42, c_62, c_69, c_81, decide_true, decide_false, not_true_eq_false, not_false_eq_true, Bool.true_and, Bool.false_and, Bool.and_true, Bool.and_false, Bool.true_or, Bool.false_or, Bool.or_true, Bool.or_false, and_true, true_and, and_false, false_and, or_true, true_or, or_false, false_or, if_true, if_false, Bool.false_eq_true, decide_eq_true_eq])]) ((itF (tg1 v M p ga gb) (gb + 1) gc (itF (tg2 v M p ga) (ga + 1) gb (itR (tg3 v M p) ga (nI 0, u.2.2.2)))).2.2.2) (by rw [itF_s _ (by omega), tg1_f (by simp only [tgOK, c_12, f_c_12, fn_c_12, c_27, f_c_27, fn_c_27, c_42, f_c_42, fn_c_42, c_62, c_69, c_81, decide_true, decide_false, not_true_eq_false, not_false_eq_true, Bool.true_and, Bool.false_and, Bool.and_true, Bool.and_false, Bool.true_or, Bool.false_or, Bool.or_true, Bool.or_false, and_true, true_and, and_false, false_and, or_true, true_or, or_false, false_or, if_true, if_false, Bool.false_eq_true, decide_eq_true_eq])])
                        · refine g_iload X 0 dX7_findTriangle_84 rfl ?_
                          refine g_if_eq (tgt := 138) X dX7_findTriangle_86 (by decide) (fun c_86 => ?_) (fun c_86 => absurd c_86 (by decide))
                          refine g_iincN (lv' := [(7, .int (nI (gc + 1))), (9, .int (nI 0)), (8, .int (absI (svArea v ga gb gc))), (0, .ref tr), (1, .ref (a 0)), (2, .ref (m 0)), (3, .int (nI p)), (4, .int ((itF (tg1 v M p ga gb) (gb + 1) gc (itF (tg2 v M p ga) (ga + 1) gb (itR (tg3 v M p) ga (nI 0, u.2.2.2)))).1)), (5, .int (nI ga)), (6, .int (nI gb))]) X 9 dX7_findTriangle_138 rfl (by decide) rfl ?_
                          refine g_goto (tgt := 36) X dX7_findTriangle_141 (by decide) ?_
                          refine GG.lv [3, 4, 5, 6, 7, 8, 9, 0] rfl ?_
                          exact ih_36 (gc + 1) (by omega) (by omega) (by omega) ((itF (tg1 v M p ga gb) (gb + 1) gc (itF (tg2 v M p ga) (ga + 1) gb (itR (tg3 v M p) ga (nI 0, u.2.2.2)))).1) (by rw [itF_s _ (by omega), tg1_f (by simp only [tgOK, c_12, f_c_12, fn_c_12, c_27, f_c_27, fn_c_27, c_42, f_c_42, fn_c_42, c_62, c_69, c_81, decide_true, decide_false, not_true_eq_false, not_false_eq_true, Bool.true_and, Bool.false_and, Bool.and_true, Bool.and_false, Bool.true_or, Bool.false_or, Bool.or_true, Bool.or_false, and_true, true_and, and_false, false_and, or_true, true_or, or_false, false_or, if_true, if_false, Bool.false_eq_true, decide_eq_true_eq])]) (nI (gc + 1)) (by rfl) ((itF (tg1 v M p ga gb) (gb + 1) gc (itF (tg2 v M p ga) (ga + 1) gb (itR (tg3 v M p) ga (nI 0, u.2.2.2)))).2.1) (by rw [itF_s _ (by omega), tg1_f (by simp only [tgOK, c_12, f_c_12, fn_c_12, c_27, f_c_27, fn_c_27, c_42, f_c_42, fn_c_42, c_62, c_69, c_81, decide_true, decide_false, not_true_eq_false, not_false_eq_true, Bool.true_and, Bool.false_and, Bool.and_true, Bool.and_false, Bool.true_or, Bool.false_or, Bool.or_true, Bool.or_false, and_true, true_and, and_false, false_and, or_true, true_or, or_false, false_or, if_true, if_false, Bool.false_eq_true, decide_eq_true_eq])]) ((itF (tg1 v M p ga gb) (gb + 1) gc (itF (tg2 v M p ga) (ga + 1) gb (itR (tg3 v M p) ga (nI 0, u.2.2.2)))).2.2.1) (by rw [itF_s _ (by omega), tg1_f (by simp only [tgOK, c_12, f_c_12, fn_c_12, c_27, f_c_27, fn_c_27, c_42, f_c_42, fn_c_42, c_62, c_69, c_81, decide_true, decide_false, not_true_eq_false, not_false_eq_true, Bool.true_and, Bool.false_and, Bool.and_true, Bool.and_false, Bool.true_or, Bool.false_or, Bool.or_true, Bool.or_false, and_true, true_and, and_false, false_and, or_true, true_or, or_false, false_or, if_true, if_false, Bool.false_eq_true, decide_eq_true_eq])]) ((itF (tg1 v M p ga gb) (gb + 1) gc (itF (tg2 v M p ga) (ga + 1) gb (itR (tg3 v M p) ga (nI 0, u.2.2.2)))).2.2.2) (by rw [itF_s _ (by omega), tg1_f (by simp only [tgOK, c_12, f_c_12, fn_c_12, c_27, f_c_27, fn_c_27, c_42, f_c_42, fn_c_42, c_62, c_69, c_81, decide_true, decide_false, not_true_eq_false, not_false_eq_true, Bool.true_and, Bool.false_and, Bool.and_true, Bool.and_false, Bool.true_or, Bool.false_or, Bool.or_true, Bool.or_false, and_true, true_and, and_false, false_and, or_true, true_or, or_false, false_or, if_true, if_false, Bool.false_eq_true, decide_eq_true_eq])])
                      · refine g_iconst (v := (nI 1)) X dX7_findTriangle_72 rfl ?_
                        refine g_goto (tgt := 77) X dX7_findTriangle_73 (by decide) ?_
                        refine g_istore (lv' := [(9, .int (nI 1)), (8, .int (absI (svArea v ga gb gc))), (0, .ref tr), (1, .ref (a 0)), (2, .ref (m 0)), (3, .int (nI p)), (4, .int ((itF (tg1 v M p ga gb) (gb + 1) gc (itF (tg2 v M p ga) (ga + 1) gb (itR (tg3 v M p) ga (nI 0, u.2.2.2)))).1)), (5, .int (nI ga)), (6, .int (nI gb)), (7, .int (nI gc))]) X dX7_findTriangle_77 (by decide) rfl ?_
                        refine g_iload X 1 dX7_findTriangle_79 rfl ?_
                        refine g_if_le (tgt := 138) X dX7_findTriangle_81 (by decide) (fun c_81 => ?_) (fun c_81 => ?_)
                        · refine g_iincN (lv' := [(7, .int (nI (gc + 1))), (9, .int (nI 1)), (8, .int (absI (svArea v ga gb gc))), (0, .ref tr), (1, .ref (a 0)), (2, .ref (m 0)), (3, .int (nI p)), (4, .int ((itF (tg1 v M p ga gb) (gb + 1) gc (itF (tg2 v M p ga) (ga + 1) gb (itR (tg3 v M p) ga (nI 0, u.2.2.2)))).1)), (5, .int (nI ga)), (6, .int (nI gb))]) X 9 dX7_findTriangle_138 rfl (by decide) rfl ?_
                          refine g_goto (tgt := 36) X dX7_findTriangle_141 (by decide) ?_
                          refine GG.lv [3, 4, 5, 6, 7, 8, 9, 0] rfl ?_
                          exact ih_36 (gc + 1) (by omega) (by omega) (by omega) ((itF (tg1 v M p ga gb) (gb + 1) gc (itF (tg2 v M p ga) (ga + 1) gb (itR (tg3 v M p) ga (nI 0, u.2.2.2)))).1) (by rw [itF_s _ (by omega), tg1_f (by simp only [tgOK, c_12, f_c_12, fn_c_12, c_27, f_c_27, fn_c_27, c_42, f_c_42, fn_c_42, c_62, c_69, c_81, decide_true, decide_false, not_true_eq_false, not_false_eq_true, Bool.true_and, Bool.false_and, Bool.and_true, Bool.and_false, Bool.true_or, Bool.false_or, Bool.or_true, Bool.or_false, and_true, true_and, and_false, false_and, or_true, true_or, or_false, false_or, if_true, if_false, Bool.false_eq_true, decide_eq_true_eq])]) (nI (gc + 1)) (by rfl) ((itF (tg1 v M p ga gb) (gb + 1) gc (itF (tg2 v M p ga) (ga + 1) gb (itR (tg3 v M p) ga (nI 0, u.2.2.2)))).2.1) (by rw [itF_s _ (by omega), tg1_f (by simp only [tgOK, c_12, f_c_12, fn_c_12, c_27, f_c_27, fn_c_27, c_42, f_c_42, fn_c_42, c_62, c_69, c_81, decide_true, decide_false, not_true_eq_false, not_false_eq_true, Bool.true_and, Bool.false_and, Bool.and_true, Bool.and_false, Bool.true_or, Bool.false_or, Bool.or_true, Bool.or_false, and_true, true_and, and_false, false_and, or_true, true_or, or_false, false_or, if_true, if_false, Bool.false_eq_true, decide_eq_true_eq])]) ((itF (tg1 v M p ga gb) (gb + 1) gc (itF (tg2 v M p ga) (ga + 1) gb (itR (tg3 v M p) ga (nI 0, u.2.2.2)))).2.2.1) (by rw [itF_s _ (by omega), tg1_f (by simp only [tgOK, c_12, f_c_12, fn_c_12, c_27, f_c_27, fn_c_27, c_42, f_c_42, fn_c_42, c_62, c_69, c_81, decide_true, decide_false, not_true_eq_false, not_false_eq_true, Bool.true_and, Bool.false_and, Bool.and_true, Bool.and_false, Bool.true_or, Bool.false_or, Bool.or_true, Bool.or_false, and_true, true_and, and_false, false_and, or_true, true_or, or_false, false_or, if_true, if_false, Bool.false_eq_true, decide_eq_true_eq])]) ((itF (tg1 v M p ga gb) (gb + 1) gc (itF (tg2 v M p ga) (ga + 1) gb (itR (tg3 v M p) ga (nI 0, u.2.2.2)))).2.2.2) (by rw [itF_s _ (by omega), tg1_f (by simp only [tgOK, c_12, f_c_12, fn_c_12, c_27, f_c_27, fn_c_27, c_42, f_c_42, fn_c_42, c_62, c_69, c_81, decide_true, decide_false, not_true_eq_false, not_false_eq_true, Bool.true_and, Bool.false_and, Bool.and_true, Bool.and_false, Bool.true_or, Bool.false_or, Bool.or_true, Bool.or_false, and_true, true_and, and_false, false_and, or_true, true_or, or_false, false_or, if_true, if_false, Bool.false_eq_true, decide_eq_true_eq])])
                        · refine g_iload X 0 dX7_findTriangle_84 rfl ?_
                          refine g_if_eq (tgt := 138) X dX7_findTriangle_86 (by decide) (fun c_86 => absurd c_86 (by decide)) (fun c_86 => ?_)
                          refine g_aload_n X 4 dX7_findTriangle_89 rfl ?_
                          refine g_iload X 7 dX7_findTriangle_90 rfl ?_
                          refine g_iload X 8 dX7_findTriangle_92 rfl ?_
                          refine g_iload X 9 dX7_findTriangle_94 rfl ?_
                          refine g_callVr (st2 := [.int (b2i (amB M ga gb gc))]) (q0 := 0) X (c_X0_areMatched E m rb rc P M ga gb gc) cs_X7_78 rfl [2, 3] [0, 1] 4 rfl (by decide) rfl rfl rfl rfl rfl (Nat.le_of_ble_eq_true rfl) dX7_findTriangle_96 rfl ?_
                          refine g_bif_eq (tgt := 138) X dX7_findTriangle_99 (by decide) (fun c_99 => ?_) (fun c_99 => ?_)
                          · refine g_iincN (lv' := [(7, .int (nI (gc + 1))), (9, .int (nI 1)), (8, .int (absI (svArea v ga gb gc))), (0, .ref tr), (1, .ref (a 0)), (2, .ref (m 0)), (3, .int (nI p)), (4, .int ((itF (tg1 v M p ga gb) (gb + 1) gc (itF (tg2 v M p ga) (ga + 1) gb (itR (tg3 v M p) ga (nI 0, u.2.2.2)))).1)), (5, .int (nI ga)), (6, .int (nI gb))]) X 9 dX7_findTriangle_138 rfl (by decide) rfl ?_
                            refine g_goto (tgt := 36) X dX7_findTriangle_141 (by decide) ?_
                            refine GG.lv [3, 4, 5, 6, 7, 8, 9, 0] rfl ?_
                            exact ih_36 (gc + 1) (by omega) (by omega) (by omega) ((itF (tg1 v M p ga gb) (gb + 1) gc (itF (tg2 v M p ga) (ga + 1) gb (itR (tg3 v M p) ga (nI 0, u.2.2.2)))).1) (by rw [itF_s _ (by omega), tg1_f (by simp only [tgOK, c_12, f_c_12, fn_c_12, c_27, f_c_27, fn_c_27, c_42, f_c_42, fn_c_42, c_62, c_69, c_81, c_99, decide_true, decide_false, not_true_eq_false, not_false_eq_true, Bool.true_and, Bool.false_and, Bool.and_true, Bool.and_false, Bool.true_or, Bool.false_or, Bool.or_true, Bool.or_false, and_true, true_and, and_false, false_and, or_true, true_or, or_false, false_or, if_true, if_false, Bool.false_eq_true, decide_eq_true_eq])]) (nI (gc + 1)) (by rfl) ((itF (tg1 v M p ga gb) (gb + 1) gc (itF (tg2 v M p ga) (ga + 1) gb (itR (tg3 v M p) ga (nI 0, u.2.2.2)))).2.1) (by rw [itF_s _ (by omega), tg1_f (by simp only [tgOK, c_12, f_c_12, fn_c_12, c_27, f_c_27, fn_c_27, c_42, f_c_42, fn_c_42, c_62, c_69, c_81, c_99, decide_true, decide_false, not_true_eq_false, not_false_eq_true, Bool.true_and, Bool.false_and, Bool.and_true, Bool.and_false, Bool.true_or, Bool.false_or, Bool.or_true, Bool.or_false, and_true, true_and, and_false, false_and, or_true, true_or, or_false, false_or, if_true, if_false, Bool.false_eq_true, decide_eq_true_eq])]) ((itF (tg1 v M p ga gb) (gb + 1) gc (itF (tg2 v M p ga) (ga + 1) gb (itR (tg3 v M p) ga (nI 0, u.2.2.2)))).2.2.1) (by rw [itF_s _ (by omega), tg1_f (by simp only [tgOK, c_12, f_c_12, fn_c_12, c_27, f_c_27, fn_c_27, c_42, f_c_42, fn_c_42, c_62, c_69, c_81, c_99, decide_true, decide_false, not_true_eq_false, not_false_eq_true, Bool.true_and, Bool.false_and, Bool.and_true, Bool.and_false, Bool.true_or, Bool.false_or, Bool.or_true, Bool.or_false, and_true, true_and, and_false, false_and, or_true, true_or, or_false, false_or, if_true, if_false, Bool.false_eq_true, decide_eq_true_eq])]) ((itF (tg1 v M p ga gb) (gb + 1) gc (itF (tg2 v M p ga) (ga + 1) gb (itR (tg3 v M p) ga (nI 0, u.2.2.2)))).2.2.2) (by rw [itF_s _ (by omega), tg1_f (by simp only [tgOK, c_12, f_c_12, fn_c_12, c_27, f_c_27, fn_c_27, c_42, f_c_42, fn_c_42, c_62, c_69, c_81, c_99, decide_true, decide_false, not_true_eq_false, not_false_eq_true, Bool.true_and, Bool.false_and, Bool.and_true, Bool.and_false, Bool.true_or, Bool.false_or, Bool.or_true, Bool.or_false, and_true, true_and, and_false, false_and, or_true, true_or, or_false, false_or, if_true, if_false, Bool.false_eq_true, decide_eq_true_eq])])
                          · refine g_aload_n X 3 dX7_findTriangle_102 rfl ?_
                            refine g_iload_n X 5 dX7_findTriangle_103 rfl ?_
                            refine g_iload X 7 dX7_findTriangle_104 rfl ?_
                            refine g_iload X 8 dX7_findTriangle_106 rfl ?_
                            refine g_iload X 9 dX7_findTriangle_108 rfl ?_
                            refine g_callSr (st2 := [.int (b2i (insB v p ga gb gc))]) X (c_X7_isInside E a v p ga gb gc (by first | assumption | omega) (by first | assumption | omega) (by first | assumption | omega) (by first | assumption | omega) (by first | assumption | omega)) cs_X7_82 rfl [1] [0, 2, 3] 4 rfl (by decide) rfl rfl rfl (Nat.le_of_ble_eq_true rfl) dX7_findTriangle_110 rfl ?_
                            refine g_bif_eq (tgt := 138) X dX7_findTriangle_113 (by decide) (fun c_113 => ?_) (fun c_113 => ?_)
                            · refine g_iincN (lv' := [(7, .int (nI (gc + 1))), (9, .int (nI 1)), (8, .int (absI (svArea v ga gb gc))), (0, .ref tr), (1, .ref (a 0)), (2, .ref (m 0)), (3, .int (nI p)), (4, .int ((itF (tg1 v M p ga gb) (gb + 1) gc (itF (tg2 v M p ga) (ga + 1) gb (itR (tg3 v M p) ga (nI 0, u.2.2.2)))).1)), (5, .int (nI ga)), (6, .int (nI gb))]) X 9 dX7_findTriangle_138 rfl (by decide) rfl ?_
                              refine g_goto (tgt := 36) X dX7_findTriangle_141 (by decide) ?_
                              refine GG.lv [3, 4, 5, 6, 7, 8, 9, 0] rfl ?_
                              exact ih_36 (gc + 1) (by omega) (by omega) (by omega) ((itF (tg1 v M p ga gb) (gb + 1) gc (itF (tg2 v M p ga) (ga + 1) gb (itR (tg3 v M p) ga (nI 0, u.2.2.2)))).1) (by rw [itF_s _ (by omega), tg1_f (by simp only [tgOK, c_12, f_c_12, fn_c_12, c_27, f_c_27, fn_c_27, c_42, f_c_42, fn_c_42, c_62, c_69, c_81, c_99, c_113, decide_true, decide_false, not_true_eq_false, not_false_eq_true, Bool.true_and, Bool.false_and, Bool.and_true, Bool.and_false, Bool.true_or, Bool.false_or, Bool.or_true, Bool.or_false, and_true, true_and, and_false, false_and, or_true, true_or, or_false, false_or, if_true, if_false, Bool.false_eq_true, decide_eq_true_eq])]) (nI (gc + 1)) (by rfl) ((itF (tg1 v M p ga gb) (gb + 1) gc (itF (tg2 v M p ga) (ga + 1) gb (itR (tg3 v M p) ga (nI 0, u.2.2.2)))).2.1) (by rw [itF_s _ (by omega), tg1_f (by simp only [tgOK, c_12, f_c_12, fn_c_12, c_27, f_c_27, fn_c_27, c_42, f_c_42, fn_c_42, c_62, c_69, c_81, c_99, c_113, decide_true, decide_false, not_true_eq_false, not_false_eq_true, Bool.true_and, Bool.false_and, Bool.and_true, Bool.and_false, Bool.true_or, Bool.false_or, Bool.or_true, Bool.or_false, and_true, true_and, and_false, false_and, or_true, true_or, or_false, false_or, if_true, if_false, Bool.false_eq_true, decide_eq_true_eq])]) ((itF (tg1 v M p ga gb) (gb + 1) gc (itF (tg2 v M p ga) (ga + 1) gb (itR (tg3 v M p) ga (nI 0, u.2.2.2)))).2.2.1) (by rw [itF_s _ (by omega), tg1_f (by simp only [tgOK, c_12, f_c_12, fn_c_12, c_27, f_c_27, fn_c_27, c_42, f_c_42, fn_c_42, c_62, c_69, c_81, c_99, c_113, decide_true, decide_false, not_true_eq_false, not_false_eq_true, Bool.true_and, Bool.false_and, Bool.and_true, Bool.and_false, Bool.true_or, Bool.false_or, Bool.or_true, Bool.or_false, and_true, true_and, and_false, false_and, or_true, true_or, or_false, false_or, if_true, if_false, Bool.false_eq_true, decide_eq_true_eq])]) ((itF (tg1 v M p ga gb) (gb + 1) gc (itF (tg2 v M p ga) (ga + 1) gb (itR (tg3 v M p) ga (nI 0, u.2.2.2)))).2.2.2) (by rw [itF_s _ (by omega), tg1_f (by simp only [tgOK, c_12, f_c_12, fn_c_12, c_27, f_c_27, fn_c_27, c_42, f_c_42, fn_c_42, c_62, c_69, c_81, c_99, c_113, decide_true, decide_false, not_true_eq_false, not_false_eq_true, Bool.true_and, Bool.false_and, Bool.and_true, Bool.and_false, Bool.true_or, Bool.false_or, Bool.or_true, Bool.or_false, and_true, true_and, and_false, false_and, or_true, true_or, or_false, false_or, if_true, if_false, Bool.false_eq_true, decide_eq_true_eq])])
                            · refine g_iload X 1 dX7_findTriangle_116 rfl ?_
                              refine g_istore (lv' := [(4, .int (absI (svArea v ga gb gc))), (9, .int (nI 1)), (8, .int (absI (svArea v ga gb gc))), (0, .ref tr), (1, .ref (a 0)), (2, .ref (m 0)), (3, .int (nI p)), (5, .int (nI ga)), (6, .int (nI gb)), (7, .int (nI gc))]) X dX7_findTriangle_118 (by decide) rfl ?_
                              refine g_aload_n X 3 dX7_findTriangle_120 rfl ?_
                              refine g_iload X 7 dX7_findTriangle_121 rfl ?_
                              refine g_putf (ws' := [wTr E tr (u.1, u.2.1, u.2.2.1, (nI ga), (itF (tg1 v M p ga gb) (gb + 1) gc (itF (tg2 v M p ga) (ga + 1) gb (itR (tg3 v M p) ga (nI 0, u.2.2.2)))).2.2.1, (itF (tg1 v M p ga gb) (gb + 1) gc (itF (tg2 v M p ga) (ga + 1) gb (itR (tg3 v M p) ga (nI 0, u.2.2.2)))).2.2.2), wSv E a v, wMo E m rb rc P, wAr E (m 3) 8 M].flatten) X ps_X7_86 0 rfl rfl rfl (Nat.le_of_ble_eq_true rfl) rfl dX7_findTriangle_123 ?_
                              refine g_aload_n X 3 dX7_findTriangle_126 rfl ?_
                              refine g_iload X 8 dX7_findTriangle_127 rfl ?_
                              refine g_putf (ws' := [wTr E tr (u.1, u.2.1, u.2.2.1, (nI ga), (nI gb), (itF (tg1 v M p ga gb) (gb + 1) gc (itF (tg2 v M p ga) (ga + 1) gb (itR (tg3 v M p) ga (nI 0, u.2.2.2)))).2.2.2), wSv E a v, wMo E m rb rc P, wAr E (m 3) 8 M].flatten) X ps_X7_89 0 rfl rfl rfl (Nat.le_of_ble_eq_true rfl) rfl dX7_findTriangle_129 ?_
                              refine g_aload_n X 3 dX7_findTriangle_132 rfl ?_
                              refine g_iload X 9 dX7_findTriangle_133 rfl ?_
                              refine g_putf (ws' := [wTr E tr (u.1, u.2.1, u.2.2.1, (nI ga), (nI gb), (nI gc)), wSv E a v, wMo E m rb rc P, wAr E (m 3) 8 M].flatten) X ps_X7_92 0 rfl rfl rfl (Nat.le_of_ble_eq_true rfl) rfl dX7_findTriangle_135 ?_
                              refine g_iincN (lv' := [(7, .int (nI (gc + 1))), (4, .int (absI (svArea v ga gb gc))), (9, .int (nI 1)), (8, .int (absI (svArea v ga gb gc))), (0, .ref tr), (1, .ref (a 0)), (2, .ref (m 0)), (3, .int (nI p)), (5, .int (nI ga)), (6, .int (nI gb))]) X 9 dX7_findTriangle_138 rfl (by decide) rfl ?_
                              refine g_goto (tgt := 36) X dX7_findTriangle_141 (by decide) ?_
                              refine GG.lv [4, 5, 6, 7, 1, 8, 9, 0] rfl ?_
                              exact ih_36 (gc + 1) (by omega) (by omega) (by omega) (absI (svArea v ga gb gc)) (by rw [itF_s _ (by omega), tg1_t (by simp only [tgOK, c_12, f_c_12, fn_c_12, c_27, f_c_27, fn_c_27, c_42, f_c_42, fn_c_42, c_62, c_69, c_81, c_99, c_113, decide_true, decide_false, not_true_eq_false, not_false_eq_true, Bool.true_and, Bool.false_and, Bool.and_true, Bool.and_false, Bool.true_or, Bool.false_or, Bool.or_true, Bool.or_false, and_true, true_and, and_false, false_and, or_true, true_or, or_false, false_or, if_true, if_false, Bool.false_eq_true, decide_eq_true_eq])]) (nI (gc + 1)) (by rfl) (nI ga) (by rw [itF_s _ (by omega), tg1_t (by simp only [tgOK, c_12, f_c_12, fn_c_12, c_27, f_c_27, fn_c_27, c_42, f_c_42, fn_c_42, c_62, c_69, c_81, c_99, c_113, decide_true, decide_false, not_true_eq_false, not_false_eq_true, Bool.true_and, Bool.false_and, Bool.and_true, Bool.and_false, Bool.true_or, Bool.false_or, Bool.or_true, Bool.or_false, and_true, true_and, and_false, false_and, or_true, true_or, or_false, false_or, if_true, if_false, Bool.false_eq_true, decide_eq_true_eq])]) (nI gb) (by rw [itF_s _ (by omega), tg1_t (by simp only [tgOK, c_12, f_c_12, fn_c_12, c_27, f_c_27, fn_c_27, c_42, f_c_42, fn_c_42, c_62, c_69, c_81, c_99, c_113, decide_true, decide_false, not_true_eq_false, not_false_eq_true, Bool.true_and, Bool.false_and, Bool.and_true, Bool.and_false, Bool.true_or, Bool.false_or, Bool.or_true, Bool.or_false, and_true, true_and, and_false, false_and, or_true, true_or, or_false, false_or, if_true, if_false, Bool.false_eq_true, decide_eq_true_eq])]) (nI gc) (by rw [itF_s _ (by omega), tg1_t (by simp only [tgOK, c_12, f_c_12, fn_c_12, c_27, f_c_27, fn_c_27, c_42, f_c_42, fn_c_42, c_62, c_69, c_81, c_99, c_113, decide_true, decide_false, not_true_eq_false, not_false_eq_true, Bool.true_and, Bool.false_and, Bool.and_true, Bool.and_false, Bool.true_or, Bool.false_or, Bool.or_true, Bool.or_false, and_true, true_and, and_false, false_and, or_true, true_or, or_false, false_or, if_true, if_false, Bool.false_eq_true, decide_eq_true_eq])])
              refine GG.lv [1, 2, 3, 4, 5, 6, 7, 0] rfl ?_
              exact L_36 (sM v + 1) (gb + 1) (by omega) (by omega) (by omega) ((itF (tg2 v M p ga) (ga + 1) gb (itR (tg3 v M p) ga (nI 0, u.2.2.2))).1) (by rw [itF_0]) (nI (gb + 1)) (by rfl) ((itF (tg2 v M p ga) (ga + 1) gb (itR (tg3 v M p) ga (nI 0, u.2.2.2))).2.1) (by rw [itF_0]) ((itF (tg2 v M p ga) (ga + 1) gb (itR (tg3 v M p) ga (nI 0, u.2.2.2))).2.2.1) (by rw [itF_0]) ((itF (tg2 v M p ga) (ga + 1) gb (itR (tg3 v M p) ga (nI 0, u.2.2.2))).2.2.2) (by rw [itF_0])
        refine GG.lv [1, 2, 3, 4, 5, 6, 0] rfl ?_
        exact L_21 (sM v + 1) (ga + 1) (by omega) (by omega) (by omega) ((itR (tg3 v M p) ga (nI 0, u.2.2.2)).1) (by rw [itF_0]) (nI (ga + 1)) (by rfl) ((itR (tg3 v M p) ga (nI 0, u.2.2.2)).2.1) (by rw [itF_0]) ((itR (tg3 v M p) ga (nI 0, u.2.2.2)).2.2.1) (by rw [itF_0]) ((itR (tg3 v M p) ga (nI 0, u.2.2.2)).2.2.2) (by rw [itF_0])
  refine GG.lv [2, 3, 4, 5, 1, 0] rfl ?_
  exact L_6 (sM v + 1) 0 (by omega) (by omega) (nI 0) (by rfl) (nI 0) (by rfl) u.2.2.2.1 (by rfl) u.2.2.2.2.1 (by rfl) u.2.2.2.2.2 (by rfl)
set_option maxHeartbeats 4000000 in
set_option maxRecDepth 100000 in
theorem c_X7_nearest (E : GE) (a : Nat → Nat) (v : SV) (m : Nat → Nat) (rb : Nat → Nat) (rc : Nat → Nat) (P : Nat) (M : Nat → Int32) (p : Nat) (hv : okS v) (hp : p < sM v) : CT E m_X7_nearest [.ref (a 0), .ref (m 0), .int (nI p)] ([wSv E a v, wMo E m rb rc P, wAr E (m 3) 8 M].flatten) (some (.int ((nrAll v M p (sM v)).1))) ([wSv E a v, wMo E m rb rc P, wAr E (m 3) 8 M].flatten) := by
  refine CT.intro (by decide +kernel) (Nat.le_of_ble_eq_true rfl) (fun Γ X hx => ?_)
  refine GG.lv [0, 1, 2] (lv' := [(0, .ref (a 0)), (1, .ref (m 0)), (2, .int (nI p))]) rfl ?_
  have hv1 : sM v ≤ 8 := hv.1
  have hv2 : sS v ≤ 8 := hv.2
  refine g_iconst (v := (-1)) X dX7_nearest_0 rfl ?_
  refine g_istore_n (lv' := [(3, .int (-1)), (0, .ref (a 0)), (1, .ref (m 0)), (2, .int (nI p))]) X dX7_nearest_1 (by decide) rfl ?_
  refine g_iconst (v := (nI 0)) X dX7_nearest_2 rfl ?_
  refine g_istore (lv' := [(4, .int (nI 0)), (3, .int (-1)), (0, .ref (a 0)), (1, .ref (m 0)), (2, .int (nI p))]) X dX7_nearest_3 (by decide) rfl ?_
  refine g_iconst (v := (nI 0)) X dX7_nearest_5 rfl ?_
  refine g_istore (lv' := [(5, .int (nI 0)), (4, .int (nI 0)), (3, .int (-1)), (0, .ref (a 0)), (1, .ref (m 0)), (2, .int (nI p))]) X dX7_nearest_6 (by decide) rfl ?_
  have L_8 : ∀ (n_8 : Nat) (i : Nat) (hi : i ≤ sM v) (hm_8 : sM v - i < n_8) (x_3 : Int32) (ex_3 : x_3 = ((nrAll v M p i).1)) (x_4 : Int32) (ex_4 : x_4 = ((nrAll v M p i).2)) (x_5 : Int32) (ex_5 : x_5 = (nI i)), GG E m_X7_nearest Γ 0 0 ([wSv E a v, wMo E m rb rc P, wAr E (m 3) 8 M].flatten) [(0, .ref (a 0)), (1, .ref (m 0)), (2, .int (nI p)), (3, .int x_3), (4, .int x_4), (5, .int x_5)] 8 [] := by
    intro n_8
    induction n_8 with
    | zero => intro i hi hm_8; exact absurd hm_8 (Nat.not_lt_zero _)
    | succ n_8 ih_8 =>
      intro i hi hm_8 x_3 ex_3 x_4 ex_4 x_5 ex_5
      subst ex_3
      subst ex_4
      subst ex_5
      refine g_iload X 5 dX7_nearest_8 rfl ?_
      refine g_aload_n X 0 dX7_nearest_10 rfl ?_
      refine g_callVr (st2 := [.int (nI (sM v)), .int (nI i)]) (q0 := 0) X (c_X4_meetings E a v) cs_X7_66 rfl [0] [1, 2] 3 rfl (by decide) rfl rfl rfl rfl rfl (Nat.le_of_ble_eq_true rfl) dX7_nearest_11 rfl ?_
      refine g_icmp_ge (tgt := 106) X dX7_nearest_14 (by decide) (fun c_14 => ?_) (fun c_14 => ?_)
      · have f_c_14 : sM v ≤ i := n_le (by omega) (by omega) c_14
        have fn_c_14 := Nat.not_lt.mpr f_c_14
        refine g_iload_n X 3 dX7_nearest_106 rfl ?_
        exact g_iretv (r := ((nrAll v M p i).1)) X hx rfl (by rw [show sM v = i by omega]) (by rfl) dX7_nearest_107
      · have f_c_14 : i < sM v := n_nle (by omega) (by omega) c_14
        have fn_c_14 := Nat.not_le.mpr f_c_14
        refine g_aload_n X 0 dX7_nearest_17 rfl ?_
        refine g_iload X 5 dX7_nearest_18 rfl ?_
        refine g_callVr (st2 := [.int (sX v i)]) (q0 := 0) X (c_X4_xOf E a v i (by first | assumption | omega) (by first | assumption | omega)) cs_X7_37 rfl [0] [1, 2] 3 rfl (by decide) rfl rfl rfl rfl rfl (Nat.le_of_ble_eq_true rfl) dX7_nearest_20 rfl ?_
        refine g_aload_n X 0 dX7_nearest_23 rfl ?_
        refine g_iload_n X 2 dX7_nearest_24 rfl ?_
        refine g_callVr (st2 := [.int (sX v p), .int (sX v i)]) (q0 := 0) X (c_X4_xOf E a v p (by first | assumption | omega) (by first | assumption | omega)) cs_X7_37 rfl [0] [1, 2] 3 rfl (by decide) rfl rfl rfl rfl rfl (Nat.le_of_ble_eq_true rfl) dX7_nearest_25 rfl ?_
        refine g_isub X dX7_nearest_28 ?_
        refine g_istore (lv' := [(6, .int ((sX v i) - (sX v p))), (0, .ref (a 0)), (1, .ref (m 0)), (2, .int (nI p)), (3, .int ((nrAll v M p i).1)), (4, .int ((nrAll v M p i).2)), (5, .int (nI i))]) X dX7_nearest_29 (by decide) rfl ?_
        refine g_aload_n X 1 dX7_nearest_31 rfl ?_
        refine g_iload X 6 dX7_nearest_32 rfl ?_
        refine g_callVr (st2 := [.int (sY v i)]) (q0 := 0) X (c_X4_yOf E a v i (by first | assumption | omega) (by first | assumption | omega)) cs_X7_43 rfl [0] [1, 2] 3 rfl (by decide) rfl rfl rfl rfl rfl (Nat.le_of_ble_eq_true rfl) dX7_nearest_34 rfl ?_
        refine g_aload_n X 1 dX7_nearest_37 rfl ?_
        refine g_iload_n X 3 dX7_nearest_38 rfl ?_
        refine g_callVr (st2 := [.int (sY v p), .int (sY v i)]) (q0 := 0) X (c_X4_yOf E a v p (by first | assumption | omega) (by first | assumption | omega)) cs_X7_43 rfl [0] [1, 2] 3 rfl (by decide) rfl rfl rfl rfl rfl (Nat.le_of_ble_eq_true rfl) dX7_nearest_39 rfl ?_
        refine g_isub X dX7_nearest_42 ?_
        refine g_istore (lv' := [(7, .int ((sY v i) - (sY v p))), (6, .int ((sX v i) - (sX v p))), (0, .ref (a 0)), (1, .ref (m 0)), (2, .int (nI p)), (3, .int ((nrAll v M p i).1)), (4, .int ((nrAll v M p i).2)), (5, .int (nI i))]) X dX7_nearest_43 (by decide) rfl ?_
        refine g_iload X 1 dX7_nearest_45 rfl ?_
        refine g_iload X 1 dX7_nearest_47 rfl ?_
        refine g_imul X dX7_nearest_49 ?_
        refine g_iload X 0 dX7_nearest_50 rfl ?_
        refine g_iload X 0 dX7_nearest_52 rfl ?_
        refine g_imul X dX7_nearest_54 ?_
        refine g_iadd X dX7_nearest_55 ?_
        refine g_istore (lv' := [(8, .int ((((sX v i) - (sX v p)) * ((sX v i) - (sX v p))) + (((sY v i) - (sY v p)) * ((sY v i) - (sY v p))))), (7, .int ((sY v i) - (sY v p))), (6, .int ((sX v i) - (sX v p))), (0, .ref (a 0)), (1, .ref (m 0)), (2, .int (nI p)), (3, .int ((nrAll v M p i).1)), (4, .int ((nrAll v M p i).2)), (5, .int (nI i))]) X dX7_nearest_56 (by decide) rfl ?_
        refine g_iload_n X 6 dX7_nearest_58 rfl ?_
        refine g_iconst (v := (-1)) X dX7_nearest_59 rfl ?_
        refine g_icmp_eq (tgt := 70) X dX7_nearest_60 (by decide) (fun c_60 => ?_) (fun c_60 => ?_)
        · refine g_iconst (v := (nI 1)) X dX7_nearest_70 rfl ?_
          refine g_goto (tgt := 75) X dX7_nearest_71 (by decide) ?_
          refine g_istore (lv' := [(9, .int (nI 1)), (8, .int ((((sX v i) - (sX v p)) * ((sX v i) - (sX v p))) + (((sY v i) - (sY v p)) * ((sY v i) - (sY v p))))), (7, .int ((sY v i) - (sY v p))), (6, .int ((sX v i) - (sX v p))), (0, .ref (a 0)), (1, .ref (m 0)), (2, .int (nI p)), (3, .int ((nrAll v M p i).1)), (4, .int ((nrAll v M p i).2)), (5, .int (nI i))]) X dX7_nearest_75 (by decide) rfl ?_
          refine g_iload X 0 dX7_nearest_77 rfl ?_
          refine g_if_eq (tgt := 100) X dX7_nearest_79 (by decide) (fun c_79 => absurd c_79 (by decide)) (fun c_79 => ?_)
          refine g_aload_n X 5 dX7_nearest_82 rfl ?_
          refine g_iconst (v := (nI 0)) X dX7_nearest_83 rfl ?_
          refine g_iload X 9 dX7_nearest_84 rfl ?_
          refine g_callVr (st2 := [.int (mtI M (nI i))]) (q0 := 0) X (c_X0_mateOf_0 E m rb rc P M (nI i)) cs_X7_31 rfl [1, 2] [0] 3 rfl (by decide) rfl rfl rfl rfl rfl (Nat.le_of_ble_eq_true rfl) dX7_nearest_86 rfl ?_
          refine g_iconst (v := (-1)) X dX7_nearest_89 rfl ?_
          refine g_icmp_eq (tgt := 100) X dX7_nearest_90 (by decide) (fun c_90 => ?_) (fun c_90 => ?_)
          · refine g_iincN (lv' := [(5, .int (nI (i + 1))), (9, .int (nI 1)), (8, .int ((((sX v i) - (sX v p)) * ((sX v i) - (sX v p))) + (((sY v i) - (sY v p)) * ((sY v i) - (sY v p))))), (7, .int ((sY v i) - (sY v p))), (6, .int ((sX v i) - (sX v p))), (0, .ref (a 0)), (1, .ref (m 0)), (2, .int (nI p)), (3, .int ((nrAll v M p i).1)), (4, .int ((nrAll v M p i).2))]) X 9 dX7_nearest_100 rfl (by decide) rfl ?_
            refine g_goto (tgt := 8) X dX7_nearest_103 (by decide) ?_
            refine GG.lv [5, 6, 7, 8, 9, 0] rfl ?_
            exact ih_8 (i + 1) (by omega) (by omega) ((nrAll v M p i).1) (by show _ = (nr1 v M p i (nrAll v M p i)).1; rw [nr1_f (by simp only [c_14, f_c_14, fn_c_14, c_60, c_90, sqS, decide_true, decide_false, not_true_eq_false, not_false_eq_true, Bool.true_and, Bool.false_and, Bool.and_true, Bool.and_false, Bool.true_or, Bool.false_or, Bool.or_true, Bool.or_false, and_true, true_and, and_false, false_and, or_true, true_or, or_false, false_or, if_true, if_false, Bool.false_eq_true, decide_eq_true_eq])]; try rfl) ((nrAll v M p i).2) (by show _ = (nr1 v M p i (nrAll v M p i)).2; rw [nr1_f (by simp only [c_14, f_c_14, fn_c_14, c_60, c_90, sqS, decide_true, decide_false, not_true_eq_false, not_false_eq_true, Bool.true_and, Bool.false_and, Bool.and_true, Bool.and_false, Bool.true_or, Bool.false_or, Bool.or_true, Bool.or_false, and_true, true_and, and_false, false_and, or_true, true_or, or_false, false_or, if_true, if_false, Bool.false_eq_true, decide_eq_true_eq])]; try rfl) (nI (i + 1)) (by rfl)
          · refine g_iload X 9 dX7_nearest_93 rfl ?_
            refine g_istore_n (lv' := [(3, .int (nI i)), (9, .int (nI 1)), (8, .int ((((sX v i) - (sX v p)) * ((sX v i) - (sX v p))) + (((sY v i) - (sY v p)) * ((sY v i) - (sY v p))))), (7, .int ((sY v i) - (sY v p))), (6, .int ((sX v i) - (sX v p))), (0, .ref (a 0)), (1, .ref (m 0)), (2, .int (nI p)), (4, .int ((nrAll v M p i).2)), (5, .int (nI i))]) X dX7_nearest_95 (by decide) rfl ?_
            refine g_iload X 2 dX7_nearest_96 rfl ?_
            refine g_istore (lv' := [(4, .int ((((sX v i) - (sX v p)) * ((sX v i) - (sX v p))) + (((sY v i) - (sY v p)) * ((sY v i) - (sY v p))))), (3, .int (nI i)), (9, .int (nI 1)), (8, .int ((((sX v i) - (sX v p)) * ((sX v i) - (sX v p))) + (((sY v i) - (sY v p)) * ((sY v i) - (sY v p))))), (7, .int ((sY v i) - (sY v p))), (6, .int ((sX v i) - (sX v p))), (0, .ref (a 0)), (1, .ref (m 0)), (2, .int (nI p)), (5, .int (nI i))]) X dX7_nearest_98 (by decide) rfl ?_
            refine g_iincN (lv' := [(5, .int (nI (i + 1))), (4, .int ((((sX v i) - (sX v p)) * ((sX v i) - (sX v p))) + (((sY v i) - (sY v p)) * ((sY v i) - (sY v p))))), (3, .int (nI i)), (9, .int (nI 1)), (8, .int ((((sX v i) - (sX v p)) * ((sX v i) - (sX v p))) + (((sY v i) - (sY v p)) * ((sY v i) - (sY v p))))), (7, .int ((sY v i) - (sY v p))), (6, .int ((sX v i) - (sX v p))), (0, .ref (a 0)), (1, .ref (m 0)), (2, .int (nI p))]) X 9 dX7_nearest_100 rfl (by decide) rfl ?_
            refine g_goto (tgt := 8) X dX7_nearest_103 (by decide) ?_
            refine GG.lv [7, 8, 9, 2, 1, 0] rfl ?_
            exact ih_8 (i + 1) (by omega) (by omega) (nI i) (by show _ = (nr1 v M p i (nrAll v M p i)).1; rw [nr1_t (by simp only [c_14, f_c_14, fn_c_14, c_60, c_90, sqS, decide_true, decide_false, not_true_eq_false, not_false_eq_true, Bool.true_and, Bool.false_and, Bool.and_true, Bool.and_false, Bool.true_or, Bool.false_or, Bool.or_true, Bool.or_false, and_true, true_and, and_false, false_and, or_true, true_or, or_false, false_or, if_true, if_false, Bool.false_eq_true, decide_eq_true_eq])]; try rfl) ((((sX v i) - (sX v p)) * ((sX v i) - (sX v p))) + (((sY v i) - (sY v p)) * ((sY v i) - (sY v p)))) (by show _ = (nr1 v M p i (nrAll v M p i)).2; rw [nr1_t (by simp only [c_14, f_c_14, fn_c_14, c_60, c_90, sqS, decide_true, decide_false, not_true_eq_false, not_false_eq_true, Bool.true_and, Bool.false_and, Bool.and_true, Bool.and_false, Bool.true_or, Bool.false_or, Bool.or_true, Bool.or_false, and_true, true_and, and_false, false_and, or_true, true_or, or_false, false_or, if_true, if_false, Bool.false_eq_true, decide_eq_true_eq])]; try rfl) (nI (i + 1)) (by rfl)
        · refine g_iload X 0 dX7_nearest_63 rfl ?_
          refine g_iload X 7 dX7_nearest_65 rfl ?_
          refine g_icmp_ge (tgt := 74) X dX7_nearest_67 (by decide) (fun c_67 => ?_) (fun c_67 => ?_)
          · refine g_iconst (v := (nI 0)) X dX7_nearest_74 rfl ?_
            refine g_istore (lv' := [(9, .int (nI 0)), (8, .int ((((sX v i) - (sX v p)) * ((sX v i) - (sX v p))) + (((sY v i) - (sY v p)) * ((sY v i) - (sY v p))))), (7, .int ((sY v i) - (sY v p))), (6, .int ((sX v i) - (sX v p))), (0, .ref (a 0)), (1, .ref (m 0)), (2, .int (nI p)), (3, .int ((nrAll v M p i).1)), (4, .int ((nrAll v M p i).2)), (5, .int (nI i))]) X dX7_nearest_75 (by decide) rfl ?_
            refine g_iload X 0 dX7_nearest_77 rfl ?_
            refine g_if_eq (tgt := 100) X dX7_nearest_79 (by decide) (fun c_79 => ?_) (fun c_79 => absurd c_79 (by decide))
            refine g_iincN (lv' := [(5, .int (nI (i + 1))), (9, .int (nI 0)), (8, .int ((((sX v i) - (sX v p)) * ((sX v i) - (sX v p))) + (((sY v i) - (sY v p)) * ((sY v i) - (sY v p))))), (7, .int ((sY v i) - (sY v p))), (6, .int ((sX v i) - (sX v p))), (0, .ref (a 0)), (1, .ref (m 0)), (2, .int (nI p)), (3, .int ((nrAll v M p i).1)), (4, .int ((nrAll v M p i).2))]) X 9 dX7_nearest_100 rfl (by decide) rfl ?_
            refine g_goto (tgt := 8) X dX7_nearest_103 (by decide) ?_
            refine GG.lv [5, 6, 7, 8, 9, 0] rfl ?_
            exact ih_8 (i + 1) (by omega) (by omega) ((nrAll v M p i).1) (by show _ = (nr1 v M p i (nrAll v M p i)).1; rw [nr1_f (by simp only [c_14, f_c_14, fn_c_14, c_60, c_67, sqS, decide_true, decide_false, not_true_eq_false, not_false_eq_true, Bool.true_and, Bool.false_and, Bool.and_true, Bool.and_false, Bool.true_or, Bool.false_or, Bool.or_true, Bool.or_false, and_true, true_and, and_false, false_and, or_true, true_or, or_false, false_or, if_true, if_false, Bool.false_eq_true, decide_eq_true_eq])]; try rfl) ((nrAll v M p i).2) (by show _ = (nr1 v M p i (nrAll v M p i)).2; rw [nr1_f (by simp only [c_14, f_c_14, fn_c_14, c_60, c_67, sqS, decide_true, decide_false, not_true_eq_false, not_false_eq_true, Bool.true_and, Bool.false_and, Bool.and_true, Bool.and_false, Bool.true_or, Bool.false_or, Bool.or_true, Bool.or_false, and_true, true_and, and_false, false_and, or_true, true_or, or_false, false_or, if_true, if_false, Bool.false_eq_true, decide_eq_true_eq])]; try rfl) (nI (i + 1)) (by rfl)
          · refine g_iconst (v := (nI 1)) X dX7_nearest_70 rfl ?_
            refine g_goto (tgt := 75) X dX7_nearest_71 (by decide) ?_
            refine g_istore (lv' := [(9, .int (nI 1)), (8, .int ((((sX v i) - (sX v p)) * ((sX v i) - (sX v p))) + (((sY v i) - (sY v p)) * ((sY v i) - (sY v p))))), (7, .int ((sY v i) - (sY v p))), (6, .int ((sX v i) - (sX v p))), (0, .ref (a 0)), (1, .ref (m 0)), (2, .int (nI p)), (3, .int ((nrAll v M p i).1)), (4, .int ((nrAll v M p i).2)), (5, .int (nI i))]) X dX7_nearest_75 (by decide) rfl ?_
            refine g_iload X 0 dX7_nearest_77 rfl ?_
            refine g_if_eq (tgt := 100) X dX7_nearest_79 (by decide) (fun c_79 => absurd c_79 (by decide)) (fun c_79 => ?_)
            refine g_aload_n X 5 dX7_nearest_82 rfl ?_
            refine g_iconst (v := (nI 0)) X dX7_nearest_83 rfl ?_
            refine g_iload X 9 dX7_nearest_84 rfl ?_
            refine g_callVr (st2 := [.int (mtI M (nI i))]) (q0 := 0) X (c_X0_mateOf_0 E m rb rc P M (nI i)) cs_X7_31 rfl [1, 2] [0] 3 rfl (by decide) rfl rfl rfl rfl rfl (Nat.le_of_ble_eq_true rfl) dX7_nearest_86 rfl ?_
            refine g_iconst (v := (-1)) X dX7_nearest_89 rfl ?_
            refine g_icmp_eq (tgt := 100) X dX7_nearest_90 (by decide) (fun c_90 => ?_) (fun c_90 => ?_)
            · refine g_iincN (lv' := [(5, .int (nI (i + 1))), (9, .int (nI 1)), (8, .int ((((sX v i) - (sX v p)) * ((sX v i) - (sX v p))) + (((sY v i) - (sY v p)) * ((sY v i) - (sY v p))))), (7, .int ((sY v i) - (sY v p))), (6, .int ((sX v i) - (sX v p))), (0, .ref (a 0)), (1, .ref (m 0)), (2, .int (nI p)), (3, .int ((nrAll v M p i).1)), (4, .int ((nrAll v M p i).2))]) X 9 dX7_nearest_100 rfl (by decide) rfl ?_
              refine g_goto (tgt := 8) X dX7_nearest_103 (by decide) ?_
              refine GG.lv [5, 6, 7, 8, 9, 0] rfl ?_
              exact ih_8 (i + 1) (by omega) (by omega) ((nrAll v M p i).1) (by show _ = (nr1 v M p i (nrAll v M p i)).1; rw [nr1_f (by simp only [c_14, f_c_14, fn_c_14, c_60, c_67, c_90, sqS, decide_true, decide_false, not_true_eq_false, not_false_eq_true, Bool.true_and, Bool.false_and, Bool.and_true, Bool.and_false, Bool.true_or, Bool.false_or, Bool.or_true, Bool.or_false, and_true, true_and, and_false, false_and, or_true, true_or, or_false, false_or, if_true, if_false, Bool.false_eq_true, decide_eq_true_eq])]; try rfl) ((nrAll v M p i).2) (by show _ = (nr1 v M p i (nrAll v M p i)).2; rw [nr1_f (by simp only [c_14, f_c_14, fn_c_14, c_60, c_67, c_90, sqS, decide_true, decide_false, not_true_eq_false, not_false_eq_true, Bool.true_and, Bool.false_and, Bool.and_true, Bool.and_false, Bool.true_or, Bool.false_or, Bool.or_true, Bool.or_false, and_true, true_and, and_false, false_and, or_true, true_or, or_false, false_or, if_true, if_false, Bool.false_eq_true, decide_eq_true_eq])]; try rfl) (nI (i + 1)) (by rfl)
            · refine g_iload X 9 dX7_nearest_93 rfl ?_
              refine g_istore_n (lv' := [(3, .int (nI i)), (9, .int (nI 1)), (8, .int ((((sX v i) - (sX v p)) * ((sX v i) - (sX v p))) + (((sY v i) - (sY v p)) * ((sY v i) - (sY v p))))), (7, .int ((sY v i) - (sY v p))), (6, .int ((sX v i) - (sX v p))), (0, .ref (a 0)), (1, .ref (m 0)), (2, .int (nI p)), (4, .int ((nrAll v M p i).2)), (5, .int (nI i))]) X dX7_nearest_95 (by decide) rfl ?_
              refine g_iload X 2 dX7_nearest_96 rfl ?_
              refine g_istore (lv' := [(4, .int ((((sX v i) - (sX v p)) * ((sX v i) - (sX v p))) + (((sY v i) - (sY v p)) * ((sY v i) - (sY v p))))), (3, .int (nI i)), (9, .int (nI 1)), (8, .int ((((sX v i) - (sX v p)) * ((sX v i) - (sX v p))) + (((sY v i) - (sY v p)) * ((sY v i) - (sY v p))))), (7, .int ((sY v i) - (sY v p))), (6, .int ((sX v i) - (sX v p))), (0, .ref (a 0)), (1, .ref (m 0)), (2, .int (nI p)), (5, .int (nI i))]) X dX7_nearest_98 (by decide) rfl ?_
              refine g_iincN (lv' := [(5, .int (nI (i + 1))), (4, .int ((((sX v i) - (sX v p)) * ((sX v i) - (sX v p))) + (((sY v i) - (sY v p)) * ((sY v i) - (sY v p))))), (3, .int (nI i)), (9, .int (nI 1)), (8, .int ((((sX v i) - (sX v p)) * ((sX v i) - (sX v p))) + (((sY v i) - (sY v p)) * ((sY v i) - (sY v p))))), (7, .int ((sY v i) - (sY v p))), (6, .int ((sX v i) - (sX v p))), (0, .ref (a 0)), (1, .ref (m 0)), (2, .int (nI p))]) X 9 dX7_nearest_100 rfl (by decide) rfl ?_
              refine g_goto (tgt := 8) X dX7_nearest_103 (by decide) ?_
              refine GG.lv [7, 8, 9, 2, 1, 0] rfl ?_
              exact ih_8 (i + 1) (by omega) (by omega) (nI i) (by show _ = (nr1 v M p i (nrAll v M p i)).1; rw [nr1_t (by simp only [c_14, f_c_14, fn_c_14, c_60, c_67, c_90, sqS, decide_true, decide_false, not_true_eq_false, not_false_eq_true, Bool.true_and, Bool.false_and, Bool.and_true, Bool.and_false, Bool.true_or, Bool.false_or, Bool.or_true, Bool.or_false, and_true, true_and, and_false, false_and, or_true, true_or, or_false, false_or, if_true, if_false, Bool.false_eq_true, decide_eq_true_eq])]; try rfl) ((((sX v i) - (sX v p)) * ((sX v i) - (sX v p))) + (((sY v i) - (sY v p)) * ((sY v i) - (sY v p)))) (by show _ = (nr1 v M p i (nrAll v M p i)).2; rw [nr1_t (by simp only [c_14, f_c_14, fn_c_14, c_60, c_67, c_90, sqS, decide_true, decide_false, not_true_eq_false, not_false_eq_true, Bool.true_and, Bool.false_and, Bool.and_true, Bool.and_false, Bool.true_or, Bool.false_or, Bool.or_true, Bool.or_false, and_true, true_and, and_false, false_and, or_true, true_or, or_false, false_or, if_true, if_false, Bool.false_eq_true, decide_eq_true_eq])]; try rfl) (nI (i + 1)) (by rfl)
  refine GG.lv [3, 4, 5, 2, 1, 0] rfl ?_
  exact L_8 (sM v + 1) 0 (by omega) (by omega) (-1) (by rfl) (nI 0) (by rfl) (nI 0) (by rfl)
set_option maxHeartbeats 4000000 in
set_option maxRecDepth 100000 in
theorem c_X7_follow_N (E : GE) (tr : Nat) (u : TR) (t : Nat) (a : Nat → Nat) (b : Nat → Nat) (v : TV) (m : Nat → Nat) (rb : Nat → Nat) (rc : Nat → Nat) (P : Nat) (M : Nat → Int32) (p : Nat) (hv : okT v) (hp : p < sM (tA v)) : CT E m_X7_follow [.ref tr, .ref t, .ref (m 0), .int (nI p), .int (-1)] ([wTr E tr u, wTw E t a b (tR v) (tN v), wSv E a (tA v), wSv E b (tB v), wMo E m rb rc P, wAr E (m 3) 8 M].flatten) none ([wTr E tr (sX (tA v) p, sY (tA v) p, nI 1, u.2.2.2), wTw E t a b (tR v) (tN v), wSv E a (tA v), wSv E b (tB v), wMo E m rb rc P, wAr E (m 3) 8 M].flatten) := by
  refine CT.intro (by decide +kernel) (Nat.le_of_ble_eq_true rfl) (fun Γ X hx => ?_)
  refine GG.lv [0, 1, 2, 3, 4] (lv' := [(0, .ref tr), (1, .ref t), (2, .ref (m 0)), (3, .int (nI p)), (4, .int (-1))]) rfl ?_
  have hA : okS (tA v) := hv.1
  have hB : okS (tB v) := hv.2.1
  have hv1 : sM (tA v) ≤ 8 := hA.1
  have hv2 : sS (tA v) ≤ 8 := hA.2
  have hv3 : sM (tB v) ≤ 8 := hB.1
  have hv4 : sS (tB v) ≤ 8 := hB.2
  have hv5 : tN v ≤ 3 := hv.2.2
  refine g_aload_n X 1 dX7_follow_0 rfl ?_
  refine g_iconst (v := (nI 0)) X dX7_follow_1 rfl ?_
  refine g_callVr (st2 := [.ref (a 0)]) (q0 := 0) X (c_X6_surveyOf_0 E t a b v) cs_X7_25 rfl [1, 2, 3] [0, 4, 5] 6 rfl (by decide) rfl rfl rfl rfl rfl (Nat.le_of_ble_eq_true rfl) dX7_follow_2 rfl ?_
  refine g_astore (lv' := [(5, .ref (a 0)), (0, .ref tr), (1, .ref t), (2, .ref (m 0)), (3, .int (nI p)), (4, .int (-1))]) X dX7_follow_5 (by decide) rfl ?_
  refine g_aload_n X 2 dX7_follow_7 rfl ?_
  refine g_iconst (v := (nI 1)) X dX7_follow_8 rfl ?_
  refine g_callVr (st2 := [.ref (b 0)]) (q0 := 0) X (c_X6_surveyOf_1 E t a b v) cs_X7_25 rfl [1, 2, 3] [0, 4, 5] 6 rfl (by decide) rfl rfl rfl rfl rfl (Nat.le_of_ble_eq_true rfl) dX7_follow_9 rfl ?_
  refine g_astore (lv' := [(6, .ref (b 0)), (5, .ref (a 0)), (0, .ref tr), (1, .ref t), (2, .ref (m 0)), (3, .int (nI p)), (4, .int (-1))]) X dX7_follow_12 (by decide) rfl ?_
  refine g_aload X 1 dX7_follow_14 rfl ?_
  refine g_iload_n X 5 dX7_follow_16 rfl ?_
  refine g_callVr (st2 := [.int (sX (tA v) p)]) (q0 := 0) X (c_X4_xOf E a (tA v) p (by first | assumption | omega) (by first | assumption | omega)) cs_X7_37 rfl [2] [0, 1, 3, 4, 5] 6 rfl (by decide) rfl rfl rfl rfl rfl (Nat.le_of_ble_eq_true rfl) dX7_follow_17 rfl ?_
  refine g_istore (lv' := [(7, .int (sX (tA v) p)), (6, .ref (b 0)), (5, .ref (a 0)), (0, .ref tr), (1, .ref t), (2, .ref (m 0)), (3, .int (nI p)), (4, .int (-1))]) X dX7_follow_20 (by decide) rfl ?_
  refine g_aload X 2 dX7_follow_22 rfl ?_
  refine g_iload_n X 6 dX7_follow_24 rfl ?_
  refine g_callVr (st2 := [.int (sY (tA v) p)]) (q0 := 0) X (c_X4_yOf E a (tA v) p (by first | assumption | omega) (by first | assumption | omega)) cs_X7_43 rfl [2] [0, 1, 3, 4, 5] 6 rfl (by decide) rfl rfl rfl rfl rfl (Nat.le_of_ble_eq_true rfl) dX7_follow_25 rfl ?_
  refine g_istore (lv' := [(8, .int (sY (tA v) p)), (7, .int (sX (tA v) p)), (6, .ref (b 0)), (5, .ref (a 0)), (0, .ref tr), (1, .ref t), (2, .ref (m 0)), (3, .int (nI p)), (4, .int (-1))]) X dX7_follow_28 (by decide) rfl ?_
  refine g_iload X 8 dX7_follow_30 rfl ?_
  refine g_iconst (v := (-1)) X dX7_follow_32 rfl ?_
  refine g_icmp_eq (tgt := 85) X dX7_follow_33 (by decide) (fun c_33 => ?_) (fun c_33 => absurd rfl c_33)
  refine g_aload_n X 4 dX7_follow_85 rfl ?_
  refine g_iload X 1 dX7_follow_86 rfl ?_
  refine g_iload X 0 dX7_follow_88 rfl ?_
  refine g_iconst (v := (nI 1)) X dX7_follow_90 rfl ?_
  refine g_callV (st2 := []) (S' := [wTr E tr ((sX (tA v) p), (sY (tA v) p), (nI 1), u.2.2.2), wTw E t a b (tR v) (tN v), wSv E a (tA v), wSv E b (tB v), wMo E m rb rc P, wAr E (m 3) 8 M]) (q0 := 0) X (c_X7_set E tr u (sX (tA v) p) (sY (tA v) p) (nI 1)) cs_X7_46 rfl [0] [1, 2, 3, 4, 5] 6 rfl rfl (by decide) [wTw E t a b (tR v) (tN v), wSv E a (tA v), wSv E b (tB v), wMo E m rb rc P, wAr E (m 3) 8 M] rfl rfl rfl rfl (by simp only [List.map_cons, List.map_nil, fsAr, fsMo, fsSv, fsTr, fsTw]) rfl rfl rfl rfl (Nat.le_of_ble_eq_true rfl) dX7_follow_91 rfl ?_
  exact g_vret X hx rfl rfl (by rfl) dX7_follow_94
set_option maxHeartbeats 4000000 in
set_option maxRecDepth 100000 in
theorem c_X7_follow_S (E : GE) (tr : Nat) (u : TR) (t : Nat) (a : Nat → Nat) (b : Nat → Nat) (v : TV) (m : Nat → Nat) (rb : Nat → Nat) (rc : Nat → Nat) (P : Nat) (M : Nat → Int32) (p : Nat) (j : Nat) (hv : okT v) (hp : p < sM (tA v)) (hj : j < sM (tA v)) (kj : okMt (sM (tB v)) M j) : CT E m_X7_follow [.ref tr, .ref t, .ref (m 0), .int (nI p), .int (nI j)] ([wTr E tr u, wTw E t a b (tR v) (tN v), wSv E a (tA v), wSv E b (tB v), wMo E m rb rc P, wAr E (m 3) 8 M].flatten) none ([wTr E tr (sX (tA v) p + (sX (tB v) (mtN M j) - sX (tA v) j), sY (tA v) p + (sY (tB v) (mtN M j) - sY (tA v) j), nI 1, u.2.2.2), wTw E t a b (tR v) (tN v), wSv E a (tA v), wSv E b (tB v), wMo E m rb rc P, wAr E (m 3) 8 M].flatten) := by
  refine CT.intro (by decide +kernel) (Nat.le_of_ble_eq_true rfl) (fun Γ X hx => ?_)
  refine GG.lv [0, 1, 2, 3, 4] (lv' := [(0, .ref tr), (1, .ref t), (2, .ref (m 0)), (3, .int (nI p)), (4, .int (nI j))]) rfl ?_
  have hA : okS (tA v) := hv.1
  have hB : okS (tB v) := hv.2.1
  have hv1 : sM (tA v) ≤ 8 := hA.1
  have hv2 : sS (tA v) ≤ 8 := hA.2
  have hv3 : sM (tB v) ≤ 8 := hB.1
  have hv4 : sS (tB v) ≤ 8 := hB.2
  have hv5 : tN v ≤ 3 := hv.2.2
  have kj2 := kj.2
  refine g_aload_n X 1 dX7_follow_0 rfl ?_
  refine g_iconst (v := (nI 0)) X dX7_follow_1 rfl ?_
  refine g_callVr (st2 := [.ref (a 0)]) (q0 := 0) X (c_X6_surveyOf_0 E t a b v) cs_X7_25 rfl [1, 2, 3] [0, 4, 5] 6 rfl (by decide) rfl rfl rfl rfl rfl (Nat.le_of_ble_eq_true rfl) dX7_follow_2 rfl ?_
  refine g_astore (lv' := [(5, .ref (a 0)), (0, .ref tr), (1, .ref t), (2, .ref (m 0)), (3, .int (nI p)), (4, .int (nI j))]) X dX7_follow_5 (by decide) rfl ?_
  refine g_aload_n X 2 dX7_follow_7 rfl ?_
  refine g_iconst (v := (nI 1)) X dX7_follow_8 rfl ?_
  refine g_callVr (st2 := [.ref (b 0)]) (q0 := 0) X (c_X6_surveyOf_1 E t a b v) cs_X7_25 rfl [1, 2, 3] [0, 4, 5] 6 rfl (by decide) rfl rfl rfl rfl rfl (Nat.le_of_ble_eq_true rfl) dX7_follow_9 rfl ?_
  refine g_astore (lv' := [(6, .ref (b 0)), (5, .ref (a 0)), (0, .ref tr), (1, .ref t), (2, .ref (m 0)), (3, .int (nI p)), (4, .int (nI j))]) X dX7_follow_12 (by decide) rfl ?_
  refine g_aload X 1 dX7_follow_14 rfl ?_
  refine g_iload_n X 5 dX7_follow_16 rfl ?_
  refine g_callVr (st2 := [.int (sX (tA v) p)]) (q0 := 0) X (c_X4_xOf E a (tA v) p (by first | assumption | omega) (by first | assumption | omega)) cs_X7_37 rfl [2] [0, 1, 3, 4, 5] 6 rfl (by decide) rfl rfl rfl rfl rfl (Nat.le_of_ble_eq_true rfl) dX7_follow_17 rfl ?_
  refine g_istore (lv' := [(7, .int (sX (tA v) p)), (6, .ref (b 0)), (5, .ref (a 0)), (0, .ref tr), (1, .ref t), (2, .ref (m 0)), (3, .int (nI p)), (4, .int (nI j))]) X dX7_follow_20 (by decide) rfl ?_
  refine g_aload X 2 dX7_follow_22 rfl ?_
  refine g_iload_n X 6 dX7_follow_24 rfl ?_
  refine g_callVr (st2 := [.int (sY (tA v) p)]) (q0 := 0) X (c_X4_yOf E a (tA v) p (by first | assumption | omega) (by first | assumption | omega)) cs_X7_43 rfl [2] [0, 1, 3, 4, 5] 6 rfl (by decide) rfl rfl rfl rfl rfl (Nat.le_of_ble_eq_true rfl) dX7_follow_25 rfl ?_
  refine g_istore (lv' := [(8, .int (sY (tA v) p)), (7, .int (sX (tA v) p)), (6, .ref (b 0)), (5, .ref (a 0)), (0, .ref tr), (1, .ref t), (2, .ref (m 0)), (3, .int (nI p)), (4, .int (nI j))]) X dX7_follow_28 (by decide) rfl ?_
  refine g_iload X 8 dX7_follow_30 rfl ?_
  refine g_iconst (v := (-1)) X dX7_follow_32 rfl ?_
  refine g_icmp_eq (tgt := 85) X dX7_follow_33 (by decide) (fun c_33 => absurd c_33 (nI_ne_m1 (by omega))) (fun c_33 => ?_)
  refine g_aload_n X 6 dX7_follow_36 rfl ?_
  refine g_iconst (v := (nI 0)) X dX7_follow_37 rfl ?_
  refine g_iload X 8 dX7_follow_38 rfl ?_
  refine g_callVr (st2 := [.int (mtI M (nI j))]) (q0 := 0) X (c_X0_mateOf_0 E m rb rc P M (nI j)) cs_X7_31 rfl [4, 5] [0, 1, 2, 3] 6 rfl (by decide) rfl rfl rfl rfl rfl (Nat.le_of_ble_eq_true rfl) dX7_follow_40 rfl ?_
  rw [kj.1]
  refine g_istore (lv' := [(9, .int (nI (mtN M j))), (8, .int (sY (tA v) p)), (7, .int (sX (tA v) p)), (6, .ref (b 0)), (5, .ref (a 0)), (0, .ref tr), (1, .ref t), (2, .ref (m 0)), (3, .int (nI p)), (4, .int (nI j))]) X dX7_follow_43 (by decide) rfl ?_
  refine g_iload X 2 dX7_follow_45 rfl ?_
  refine g_aload X 3 dX7_follow_47 rfl ?_
  refine g_iload X 0 dX7_follow_49 rfl ?_
  refine g_callVr (st2 := [.int (sX (tB v) (mtN M j)), .int (sX (tA v) p)]) (q0 := 0) X (c_X4_xOf E b (tB v) (mtN M j) (by first | assumption | omega) (by first | assumption | omega)) cs_X7_37 rfl [3] [0, 1, 2, 4, 5] 6 rfl (by decide) rfl rfl rfl rfl rfl (Nat.le_of_ble_eq_true rfl) dX7_follow_51 rfl ?_
  refine g_aload X 4 dX7_follow_54 rfl ?_
  refine g_iload X 9 dX7_follow_56 rfl ?_
  refine g_callVr (st2 := [.int (sX (tA v) j), .int (sX (tB v) (mtN M j)), .int (sX (tA v) p)]) (q0 := 0) X (c_X4_xOf E a (tA v) j (by first | assumption | omega) (by first | assumption | omega)) cs_X7_37 rfl [2] [0, 1, 3, 4, 5] 6 rfl (by decide) rfl rfl rfl rfl rfl (Nat.le_of_ble_eq_true rfl) dX7_follow_58 rfl ?_
  refine g_isub X dX7_follow_61 ?_
  refine g_iadd X dX7_follow_62 ?_
  refine g_istore (lv' := [(7, .int ((sX (tA v) p) + ((sX (tB v) (mtN M j)) - (sX (tA v) j)))), (9, .int (nI (mtN M j))), (8, .int (sY (tA v) p)), (6, .ref (b 0)), (5, .ref (a 0)), (0, .ref tr), (1, .ref t), (2, .ref (m 0)), (3, .int (nI p)), (4, .int (nI j))]) X dX7_follow_63 (by decide) rfl ?_
  refine g_iload X 2 dX7_follow_65 rfl ?_
  refine g_aload X 3 dX7_follow_67 rfl ?_
  refine g_iload X 1 dX7_follow_69 rfl ?_
  refine g_callVr (st2 := [.int (sY (tB v) (mtN M j)), .int (sY (tA v) p)]) (q0 := 0) X (c_X4_yOf E b (tB v) (mtN M j) (by first | assumption | omega) (by first | assumption | omega)) cs_X7_43 rfl [3] [0, 1, 2, 4, 5] 6 rfl (by decide) rfl rfl rfl rfl rfl (Nat.le_of_ble_eq_true rfl) dX7_follow_71 rfl ?_
  refine g_aload X 4 dX7_follow_74 rfl ?_
  refine g_iload X 9 dX7_follow_76 rfl ?_
  refine g_callVr (st2 := [.int (sY (tA v) j), .int (sY (tB v) (mtN M j)), .int (sY (tA v) p)]) (q0 := 0) X (c_X4_yOf E a (tA v) j (by first | assumption | omega) (by first | assumption | omega)) cs_X7_43 rfl [2] [0, 1, 3, 4, 5] 6 rfl (by decide) rfl rfl rfl rfl rfl (Nat.le_of_ble_eq_true rfl) dX7_follow_78 rfl ?_
  refine g_isub X dX7_follow_81 ?_
  refine g_iadd X dX7_follow_82 ?_
  refine g_istore (lv' := [(8, .int ((sY (tA v) p) + ((sY (tB v) (mtN M j)) - (sY (tA v) j)))), (7, .int ((sX (tA v) p) + ((sX (tB v) (mtN M j)) - (sX (tA v) j)))), (9, .int (nI (mtN M j))), (6, .ref (b 0)), (5, .ref (a 0)), (0, .ref tr), (1, .ref t), (2, .ref (m 0)), (3, .int (nI p)), (4, .int (nI j))]) X dX7_follow_83 (by decide) rfl ?_
  refine g_aload_n X 5 dX7_follow_85 rfl ?_
  refine g_iload X 1 dX7_follow_86 rfl ?_
  refine g_iload X 0 dX7_follow_88 rfl ?_
  refine g_iconst (v := (nI 1)) X dX7_follow_90 rfl ?_
  refine g_callV (st2 := []) (S' := [wTr E tr (((sX (tA v) p) + ((sX (tB v) (mtN M j)) - (sX (tA v) j))), ((sY (tA v) p) + ((sY (tB v) (mtN M j)) - (sY (tA v) j))), (nI 1), u.2.2.2), wTw E t a b (tR v) (tN v), wSv E a (tA v), wSv E b (tB v), wMo E m rb rc P, wAr E (m 3) 8 M]) (q0 := 0) X (c_X7_set E tr u ((sX (tA v) p) + ((sX (tB v) (mtN M j)) - (sX (tA v) j))) ((sY (tA v) p) + ((sY (tB v) (mtN M j)) - (sY (tA v) j))) (nI 1)) cs_X7_46 rfl [0] [1, 2, 3, 4, 5] 6 rfl rfl (by decide) [wTw E t a b (tR v) (tN v), wSv E a (tA v), wSv E b (tB v), wMo E m rb rc P, wAr E (m 3) 8 M] rfl rfl rfl rfl (by simp only [List.map_cons, List.map_nil, fsAr, fsMo, fsSv, fsTr, fsTw]) rfl rfl rfl rfl (Nat.le_of_ble_eq_true rfl) dX7_follow_91 rfl ?_
  exact g_vret X hx rfl rfl (by rfl) dX7_follow_94
set_option maxHeartbeats 4000000 in
set_option maxRecDepth 100000 in
theorem c_X7_blend (E : GE) (tr : Nat) (u : TR) (t : Nat) (a : Nat → Nat) (b : Nat → Nat) (v : TV) (m : Nat → Nat) (rb : Nat → Nat) (rc : Nat → Nat) (P : Nat) (M : Nat → Int32) (p : Nat) (ca : Nat) (cb : Nat) (cc : Nat) (hv : okT v) (e3 : u.2.2.2 = (nI ca, nI cb, nI cc)) (hp : p < sM (tA v)) (hca : ca < sM (tA v)) (hcb : cb < sM (tA v)) (hcc : cc < sM (tA v)) (kca : okMt (sM (tB v)) M ca) (kcb : okMt (sM (tB v)) M cb) (kcc : okMt (sM (tB v)) M cc) : CT E m_X7_blend [.ref tr, .ref t, .ref (m 0), .int (nI p)] ([wTr E tr u, wTw E t a b (tR v) (tN v), wSv E a (tA v), wSv E b (tB v), wMo E m rb rc P, wAr E (m 3) 8 M].flatten) none ([wTr E tr (blV (sX (tB v)) v M p ca cb cc, blV (sY (tB v)) v M p ca cb cc, blD v p ca cb cc, u.2.2.2), wTw E t a b (tR v) (tN v), wSv E a (tA v), wSv E b (tB v), wMo E m rb rc P, wAr E (m 3) 8 M].flatten) := by
  refine CT.intro (by decide +kernel) (Nat.le_of_ble_eq_true rfl) (fun Γ X hx => ?_)
  refine GG.lv [0, 1, 2, 3] (lv' := [(0, .ref tr), (1, .ref t), (2, .ref (m 0)), (3, .int (nI p))]) rfl ?_
  have hA : okS (tA v) := hv.1
  have hB : okS (tB v) := hv.2.1
  have hv1 : sM (tA v) ≤ 8 := hA.1
  have hv2 : sS (tA v) ≤ 8 := hA.2
  have hv3 : sM (tB v) ≤ 8 := hB.1
  have hv4 : sS (tB v) ≤ 8 := hB.2
  have hv5 : tN v ≤ 3 := hv.2.2
  have ka2 := kca.2
  have kb2 := kcb.2
  have kc2 := kcc.2
  obtain ⟨u0, u1, u2, u3⟩ := u
  dsimp only at e3
  subst e3
  refine g_aload_n X 1 dX7_blend_0 rfl ?_
  refine g_iconst (v := (nI 0)) X dX7_blend_1 rfl ?_
  refine g_callVr (st2 := [.ref (a 0)]) (q0 := 0) X (c_X6_surveyOf_0 E t a b v) cs_X7_25 rfl [1, 2, 3] [0, 4, 5] 6 rfl (by decide) rfl rfl rfl rfl rfl (Nat.le_of_ble_eq_true rfl) dX7_blend_2 rfl ?_
  refine g_astore (lv' := [(4, .ref (a 0)), (0, .ref tr), (1, .ref t), (2, .ref (m 0)), (3, .int (nI p))]) X dX7_blend_5 (by decide) rfl ?_
  refine g_aload_n X 2 dX7_blend_7 rfl ?_
  refine g_iconst (v := (nI 1)) X dX7_blend_8 rfl ?_
  refine g_callVr (st2 := [.ref (b 0)]) (q0 := 0) X (c_X6_surveyOf_1 E t a b v) cs_X7_25 rfl [1, 2, 3] [0, 4, 5] 6 rfl (by decide) rfl rfl rfl rfl rfl (Nat.le_of_ble_eq_true rfl) dX7_blend_9 rfl ?_
  refine g_astore (lv' := [(5, .ref (b 0)), (4, .ref (a 0)), (0, .ref tr), (1, .ref t), (2, .ref (m 0)), (3, .int (nI p))]) X dX7_blend_12 (by decide) rfl ?_
  refine g_aload X 1 dX7_blend_14 rfl ?_
  refine g_iload_n X 5 dX7_blend_16 rfl ?_
  refine g_aload_n X 2 dX7_blend_17 rfl ?_
  refine g_getf (v := .int (nI cb)) X fs_X7_89 0 rfl rfl dX7_blend_18 ?_
  refine g_aload_n X 2 dX7_blend_21 rfl ?_
  refine g_getf (v := .int (nI cc)) X fs_X7_92 0 rfl rfl dX7_blend_22 ?_
  refine g_callVr (st2 := [.int (svArea (tA v) p cb cc)]) (q0 := 0) X (c_X4_twiceArea E a (tA v) p cb cc (by first | assumption | omega) (by first | assumption | omega) (by first | assumption | omega) (by first | assumption | omega)) cs_X7_70 rfl [2] [0, 1, 3, 4, 5] 6 rfl (by decide) rfl rfl rfl rfl rfl (Nat.le_of_ble_eq_true rfl) dX7_blend_25 rfl ?_
  refine g_absI X cs_X7_73 ⟨by decide, Nat.le_of_ble_eq_true rfl, Nat.zero_le _, Nat.zero_le _⟩ dX7_blend_28 ?_
  refine g_istore (lv' := [(6, .int (absI (svArea (tA v) p cb cc))), (5, .ref (b 0)), (4, .ref (a 0)), (0, .ref tr), (1, .ref t), (2, .ref (m 0)), (3, .int (nI p))]) X dX7_blend_31 (by decide) rfl ?_
  refine g_aload X 2 dX7_blend_33 rfl ?_
  refine g_aload_n X 3 dX7_blend_35 rfl ?_
  refine g_getf (v := .int (nI ca)) X fs_X7_86 0 rfl rfl dX7_blend_36 ?_
  refine g_iload_n X 6 dX7_blend_39 rfl ?_
  refine g_aload_n X 3 dX7_blend_40 rfl ?_
  refine g_getf (v := .int (nI cc)) X fs_X7_92 0 rfl rfl dX7_blend_41 ?_
  refine g_callVr (st2 := [.int (svArea (tA v) ca p cc)]) (q0 := 0) X (c_X4_twiceArea E a (tA v) ca p cc (by first | assumption | omega) (by first | assumption | omega) (by first | assumption | omega) (by first | assumption | omega)) cs_X7_70 rfl [2] [0, 1, 3, 4, 5] 6 rfl (by decide) rfl rfl rfl rfl rfl (Nat.le_of_ble_eq_true rfl) dX7_blend_44 rfl ?_
  refine g_absI X cs_X7_73 ⟨by decide, Nat.le_of_ble_eq_true rfl, Nat.zero_le _, Nat.zero_le _⟩ dX7_blend_47 ?_
  refine g_istore (lv' := [(7, .int (absI (svArea (tA v) ca p cc))), (6, .int (absI (svArea (tA v) p cb cc))), (5, .ref (b 0)), (4, .ref (a 0)), (0, .ref tr), (1, .ref t), (2, .ref (m 0)), (3, .int (nI p))]) X dX7_blend_50 (by decide) rfl ?_
  refine g_aload X 3 dX7_blend_52 rfl ?_
  refine g_aload_n X 4 dX7_blend_54 rfl ?_
  refine g_getf (v := .int (nI ca)) X fs_X7_86 0 rfl rfl dX7_blend_55 ?_
  refine g_aload_n X 4 dX7_blend_58 rfl ?_
  refine g_getf (v := .int (nI cb)) X fs_X7_89 0 rfl rfl dX7_blend_59 ?_
  refine g_iload_n X 7 dX7_blend_62 rfl ?_
  refine g_callVr (st2 := [.int (svArea (tA v) ca cb p)]) (q0 := 0) X (c_X4_twiceArea E a (tA v) ca cb p (by first | assumption | omega) (by first | assumption | omega) (by first | assumption | omega) (by first | assumption | omega)) cs_X7_70 rfl [2] [0, 1, 3, 4, 5] 6 rfl (by decide) rfl rfl rfl rfl rfl (Nat.le_of_ble_eq_true rfl) dX7_blend_63 rfl ?_
  refine g_absI X cs_X7_73 ⟨by decide, Nat.le_of_ble_eq_true rfl, Nat.zero_le _, Nat.zero_le _⟩ dX7_blend_66 ?_
  refine g_istore (lv' := [(8, .int (absI (svArea (tA v) ca cb p))), (7, .int (absI (svArea (tA v) ca p cc))), (6, .int (absI (svArea (tA v) p cb cc))), (5, .ref (b 0)), (4, .ref (a 0)), (0, .ref tr), (1, .ref t), (2, .ref (m 0)), (3, .int (nI p))]) X dX7_blend_69 (by decide) rfl ?_
  refine g_aload_n X 7 dX7_blend_71 rfl ?_
  refine g_iconst (v := (nI 0)) X dX7_blend_72 rfl ?_
  refine g_aload_n X 5 dX7_blend_73 rfl ?_
  refine g_getf (v := .int (nI ca)) X fs_X7_86 0 rfl rfl dX7_blend_74 ?_
  refine g_callVr (st2 := [.int (mtI M (nI ca))]) (q0 := 0) X (c_X0_mateOf_0 E m rb rc P M (nI ca)) cs_X7_31 rfl [4, 5] [0, 1, 2, 3] 6 rfl (by decide) rfl rfl rfl rfl rfl (Nat.le_of_ble_eq_true rfl) dX7_blend_77 rfl ?_
  rw [kca.1]
  refine g_istore (lv' := [(9, .int (nI (mtN M ca))), (8, .int (absI (svArea (tA v) ca cb p))), (7, .int (absI (svArea (tA v) ca p cc))), (6, .int (absI (svArea (tA v) p cb cc))), (5, .ref (b 0)), (4, .ref (a 0)), (0, .ref tr), (1, .ref t), (2, .ref (m 0)), (3, .int (nI p))]) X dX7_blend_80 (by decide) rfl ?_
  refine g_aload_n X 8 dX7_blend_82 rfl ?_
  refine g_iconst (v := (nI 0)) X dX7_blend_83 rfl ?_
  refine g_aload_n X 6 dX7_blend_84 rfl ?_
  refine g_getf (v := .int (nI cb)) X fs_X7_89 0 rfl rfl dX7_blend_85 ?_
  refine g_callVr (st2 := [.int (mtI M (nI cb))]) (q0 := 0) X (c_X0_mateOf_0 E m rb rc P M (nI cb)) cs_X7_31 rfl [4, 5] [0, 1, 2, 3] 6 rfl (by decide) rfl rfl rfl rfl rfl (Nat.le_of_ble_eq_true rfl) dX7_blend_88 rfl ?_
  rw [kcb.1]
  refine g_istore (lv' := [(10, .int (nI (mtN M cb))), (9, .int (nI (mtN M ca))), (8, .int (absI (svArea (tA v) ca cb p))), (7, .int (absI (svArea (tA v) ca p cc))), (6, .int (absI (svArea (tA v) p cb cc))), (5, .ref (b 0)), (4, .ref (a 0)), (0, .ref tr), (1, .ref t), (2, .ref (m 0)), (3, .int (nI p))]) X dX7_blend_91 (by decide) rfl ?_
  refine g_aload_n X 9 dX7_blend_93 rfl ?_
  refine g_iconst (v := (nI 0)) X dX7_blend_94 rfl ?_
  refine g_aload_n X 7 dX7_blend_95 rfl ?_
  refine g_getf (v := .int (nI cc)) X fs_X7_92 0 rfl rfl dX7_blend_96 ?_
  refine g_callVr (st2 := [.int (mtI M (nI cc))]) (q0 := 0) X (c_X0_mateOf_0 E m rb rc P M (nI cc)) cs_X7_31 rfl [4, 5] [0, 1, 2, 3] 6 rfl (by decide) rfl rfl rfl rfl rfl (Nat.le_of_ble_eq_true rfl) dX7_blend_99 rfl ?_
  rw [kcc.1]
  refine g_istore (lv' := [(11, .int (nI (mtN M cc))), (10, .int (nI (mtN M cb))), (9, .int (nI (mtN M ca))), (8, .int (absI (svArea (tA v) ca cb p))), (7, .int (absI (svArea (tA v) ca p cc))), (6, .int (absI (svArea (tA v) p cb cc))), (5, .ref (b 0)), (4, .ref (a 0)), (0, .ref tr), (1, .ref t), (2, .ref (m 0)), (3, .int (nI p))]) X dX7_blend_102 (by decide) rfl ?_
  refine g_iload X 5 dX7_blend_104 rfl ?_
  refine g_aload X 6 dX7_blend_106 rfl ?_
  refine g_iload X 2 dX7_blend_108 rfl ?_
  refine g_callVr (st2 := [.int (sX (tB v) (mtN M ca)), .int (absI (svArea (tA v) p cb cc))]) (q0 := 0) X (c_X4_xOf E b (tB v) (mtN M ca) (by first | assumption | omega) (by first | assumption | omega)) cs_X7_37 rfl [3] [0, 1, 2, 4, 5] 6 rfl (by decide) rfl rfl rfl rfl rfl (Nat.le_of_ble_eq_true rfl) dX7_blend_110 rfl ?_
  refine g_imul X dX7_blend_113 ?_
  refine g_iload X 4 dX7_blend_114 rfl ?_
  refine g_aload X 6 dX7_blend_116 rfl ?_
  refine g_iload X 1 dX7_blend_118 rfl ?_
  refine g_callVr (st2 := [.int (sX (tB v) (mtN M cb)), .int (absI (svArea (tA v) ca p cc)), .int ((absI (svArea (tA v) p cb cc)) * (sX (tB v) (mtN M ca)))]) (q0 := 0) X (c_X4_xOf E b (tB v) (mtN M cb) (by first | assumption | omega) (by first | assumption | omega)) cs_X7_37 rfl [3] [0, 1, 2, 4, 5] 6 rfl (by decide) rfl rfl rfl rfl rfl (Nat.le_of_ble_eq_true rfl) dX7_blend_120 rfl ?_
  refine g_imul X dX7_blend_123 ?_
  refine g_iadd X dX7_blend_124 ?_
  refine g_iload X 3 dX7_blend_125 rfl ?_
  refine g_aload X 6 dX7_blend_127 rfl ?_
  refine g_iload X 0 dX7_blend_129 rfl ?_
  refine g_callVr (st2 := [.int (sX (tB v) (mtN M cc)), .int (absI (svArea (tA v) ca cb p)), .int (((absI (svArea (tA v) p cb cc)) * (sX (tB v) (mtN M ca))) + ((absI (svArea (tA v) ca p cc)) * (sX (tB v) (mtN M cb))))]) (q0 := 0) X (c_X4_xOf E b (tB v) (mtN M cc) (by first | assumption | omega) (by first | assumption | omega)) cs_X7_37 rfl [3] [0, 1, 2, 4, 5] 6 rfl (by decide) rfl rfl rfl rfl rfl (Nat.le_of_ble_eq_true rfl) dX7_blend_131 rfl ?_
  refine g_imul X dX7_blend_134 ?_
  refine g_iadd X dX7_blend_135 ?_
  refine g_istore (lv' := [(12, .int ((((absI (svArea (tA v) p cb cc)) * (sX (tB v) (mtN M ca))) + ((absI (svArea (tA v) ca p cc)) * (sX (tB v) (mtN M cb)))) + ((absI (svArea (tA v) ca cb p)) * (sX (tB v) (mtN M cc))))), (11, .int (nI (mtN M cc))), (10, .int (nI (mtN M cb))), (9, .int (nI (mtN M ca))), (8, .int (absI (svArea (tA v) ca cb p))), (7, .int (absI (svArea (tA v) ca p cc))), (6, .int (absI (svArea (tA v) p cb cc))), (5, .ref (b 0)), (4, .ref (a 0)), (0, .ref tr), (1, .ref t), (2, .ref (m 0)), (3, .int (nI p))]) X dX7_blend_136 (by decide) rfl ?_
  refine g_iload X 6 dX7_blend_138 rfl ?_
  refine g_aload X 7 dX7_blend_140 rfl ?_
  refine g_iload X 3 dX7_blend_142 rfl ?_
  refine g_callVr (st2 := [.int (sY (tB v) (mtN M ca)), .int (absI (svArea (tA v) p cb cc))]) (q0 := 0) X (c_X4_yOf E b (tB v) (mtN M ca) (by first | assumption | omega) (by first | assumption | omega)) cs_X7_43 rfl [3] [0, 1, 2, 4, 5] 6 rfl (by decide) rfl rfl rfl rfl rfl (Nat.le_of_ble_eq_true rfl) dX7_blend_144 rfl ?_
  refine g_imul X dX7_blend_147 ?_
  refine g_iload X 5 dX7_blend_148 rfl ?_
  refine g_aload X 7 dX7_blend_150 rfl ?_
  refine g_iload X 2 dX7_blend_152 rfl ?_
  refine g_callVr (st2 := [.int (sY (tB v) (mtN M cb)), .int (absI (svArea (tA v) ca p cc)), .int ((absI (svArea (tA v) p cb cc)) * (sY (tB v) (mtN M ca)))]) (q0 := 0) X (c_X4_yOf E b (tB v) (mtN M cb) (by first | assumption | omega) (by first | assumption | omega)) cs_X7_43 rfl [3] [0, 1, 2, 4, 5] 6 rfl (by decide) rfl rfl rfl rfl rfl (Nat.le_of_ble_eq_true rfl) dX7_blend_154 rfl ?_
  refine g_imul X dX7_blend_157 ?_
  refine g_iadd X dX7_blend_158 ?_
  refine g_iload X 4 dX7_blend_159 rfl ?_
  refine g_aload X 7 dX7_blend_161 rfl ?_
  refine g_iload X 1 dX7_blend_163 rfl ?_
  refine g_callVr (st2 := [.int (sY (tB v) (mtN M cc)), .int (absI (svArea (tA v) ca cb p)), .int (((absI (svArea (tA v) p cb cc)) * (sY (tB v) (mtN M ca))) + ((absI (svArea (tA v) ca p cc)) * (sY (tB v) (mtN M cb))))]) (q0 := 0) X (c_X4_yOf E b (tB v) (mtN M cc) (by first | assumption | omega) (by first | assumption | omega)) cs_X7_43 rfl [3] [0, 1, 2, 4, 5] 6 rfl (by decide) rfl rfl rfl rfl rfl (Nat.le_of_ble_eq_true rfl) dX7_blend_165 rfl ?_
  refine g_imul X dX7_blend_168 ?_
  refine g_iadd X dX7_blend_169 ?_
  refine g_istore (lv' := [(13, .int ((((absI (svArea (tA v) p cb cc)) * (sY (tB v) (mtN M ca))) + ((absI (svArea (tA v) ca p cc)) * (sY (tB v) (mtN M cb)))) + ((absI (svArea (tA v) ca cb p)) * (sY (tB v) (mtN M cc))))), (12, .int ((((absI (svArea (tA v) p cb cc)) * (sX (tB v) (mtN M ca))) + ((absI (svArea (tA v) ca p cc)) * (sX (tB v) (mtN M cb)))) + ((absI (svArea (tA v) ca cb p)) * (sX (tB v) (mtN M cc))))), (11, .int (nI (mtN M cc))), (10, .int (nI (mtN M cb))), (9, .int (nI (mtN M ca))), (8, .int (absI (svArea (tA v) ca cb p))), (7, .int (absI (svArea (tA v) ca p cc))), (6, .int (absI (svArea (tA v) p cb cc))), (5, .ref (b 0)), (4, .ref (a 0)), (0, .ref tr), (1, .ref t), (2, .ref (m 0)), (3, .int (nI p))]) X dX7_blend_170 (by decide) rfl ?_
  refine g_aload_n X 10 dX7_blend_172 rfl ?_
  refine g_iload X 1 dX7_blend_173 rfl ?_
  refine g_iload X 0 dX7_blend_175 rfl ?_
  refine g_iload X 7 dX7_blend_177 rfl ?_
  refine g_iload X 6 dX7_blend_179 rfl ?_
  refine g_iadd X dX7_blend_181 ?_
  refine g_iload X 5 dX7_blend_182 rfl ?_
  refine g_iadd X dX7_blend_184 ?_
  refine g_callV (st2 := []) (S' := [wTr E tr (((((absI (svArea (tA v) p cb cc)) * (sX (tB v) (mtN M ca))) + ((absI (svArea (tA v) ca p cc)) * (sX (tB v) (mtN M cb)))) + ((absI (svArea (tA v) ca cb p)) * (sX (tB v) (mtN M cc)))), ((((absI (svArea (tA v) p cb cc)) * (sY (tB v) (mtN M ca))) + ((absI (svArea (tA v) ca p cc)) * (sY (tB v) (mtN M cb)))) + ((absI (svArea (tA v) ca cb p)) * (sY (tB v) (mtN M cc)))), (((absI (svArea (tA v) p cb cc)) + (absI (svArea (tA v) ca p cc))) + (absI (svArea (tA v) ca cb p))), (nI ca, nI cb, nI cc)), wTw E t a b (tR v) (tN v), wSv E a (tA v), wSv E b (tB v), wMo E m rb rc P, wAr E (m 3) 8 M]) (q0 := 0) X (c_X7_set E tr (u0, u1, u2, nI ca, nI cb, nI cc) ((((absI (svArea (tA v) p cb cc)) * (sX (tB v) (mtN M ca))) + ((absI (svArea (tA v) ca p cc)) * (sX (tB v) (mtN M cb)))) + ((absI (svArea (tA v) ca cb p)) * (sX (tB v) (mtN M cc)))) ((((absI (svArea (tA v) p cb cc)) * (sY (tB v) (mtN M ca))) + ((absI (svArea (tA v) ca p cc)) * (sY (tB v) (mtN M cb)))) + ((absI (svArea (tA v) ca cb p)) * (sY (tB v) (mtN M cc)))) (((absI (svArea (tA v) p cb cc)) + (absI (svArea (tA v) ca p cc))) + (absI (svArea (tA v) ca cb p)))) cs_X7_46 rfl [0] [1, 2, 3, 4, 5] 6 rfl rfl (by decide) [wTw E t a b (tR v) (tN v), wSv E a (tA v), wSv E b (tB v), wMo E m rb rc P, wAr E (m 3) 8 M] rfl rfl rfl rfl (by simp only [List.map_cons, List.map_nil, fsAr, fsMo, fsSv, fsTr, fsTw]) rfl rfl rfl rfl (Nat.le_of_ble_eq_true rfl) dX7_blend_185 rfl ?_
  exact g_vret X hx rfl rfl (by rfl) dX7_blend_188
set_option maxHeartbeats 4000000 in
set_option maxRecDepth 100000 in
theorem c_X7_find (E : GE) (tr : Nat) (u : TR) (t : Nat) (a : Nat → Nat) (b : Nat → Nat) (v : TV) (m : Nat → Nat) (rb : Nat → Nat) (rc : Nat → Nat) (P : Nat) (M : Nat → Int32) (p : Nat) (hv : okT v) (hM : okMs (sM (tB v)) M) (hp : p < sM (tA v)) : CT E m_X7_find [.ref tr, .ref t, .ref (m 0), .int (nI p)] ([wTr E tr u, wTw E t a b (tR v) (tN v), wSv E a (tA v), wSv E b (tB v), wMo E m rb rc P, wAr E (m 3) 8 M].flatten) none ([wTr E tr (trFind v M p u), wTw E t a b (tR v) (tN v), wSv E a (tA v), wSv E b (tB v), wMo E m rb rc P, wAr E (m 3) 8 M].flatten) := by
  refine CT.intro (by decide +kernel) (Nat.le_of_ble_eq_true rfl) (fun Γ X hx => ?_)
  refine GG.lv [0, 1, 2, 3] (lv' := [(0, .ref tr), (1, .ref t), (2, .ref (m 0)), (3, .int (nI p))]) rfl ?_
  have hA : okS (tA v) := hv.1
  have hB : okS (tB v) := hv.2.1
  have hv1 : sM (tA v) ≤ 8 := hA.1
  have hv2 : sS (tA v) ≤ 8 := hA.2
  have hv3 : sM (tB v) ≤ 8 := hB.1
  have hv4 : sS (tB v) ≤ 8 := hB.2
  have hv5 : tN v ≤ 3 := hv.2.2
  refine g_aload_n X 1 dX7_find_0 rfl ?_
  refine g_iconst (v := (nI 0)) X dX7_find_1 rfl ?_
  refine g_callVr (st2 := [.ref (a 0)]) (q0 := 0) X (c_X6_surveyOf_0 E t a b v) cs_X7_25 rfl [1, 2, 3] [0, 4, 5] 6 rfl (by decide) rfl rfl rfl rfl rfl (Nat.le_of_ble_eq_true rfl) dX7_find_2 rfl ?_
  refine g_astore (lv' := [(4, .ref (a 0)), (0, .ref tr), (1, .ref t), (2, .ref (m 0)), (3, .int (nI p))]) X dX7_find_5 (by decide) rfl ?_
  refine g_aload_n X 2 dX7_find_7 rfl ?_
  refine g_iconst (v := (nI 1)) X dX7_find_8 rfl ?_
  refine g_callVr (st2 := [.ref (b 0)]) (q0 := 0) X (c_X6_surveyOf_1 E t a b v) cs_X7_25 rfl [1, 2, 3] [0, 4, 5] 6 rfl (by decide) rfl rfl rfl rfl rfl (Nat.le_of_ble_eq_true rfl) dX7_find_9 rfl ?_
  refine g_astore (lv' := [(5, .ref (b 0)), (4, .ref (a 0)), (0, .ref tr), (1, .ref t), (2, .ref (m 0)), (3, .int (nI p))]) X dX7_find_12 (by decide) rfl ?_
  refine g_aload_n X 4 dX7_find_14 rfl ?_
  refine g_iconst (v := (nI 0)) X dX7_find_15 rfl ?_
  refine g_iload_n X 5 dX7_find_16 rfl ?_
  refine g_callVr (st2 := [.int (mtI M (nI p))]) (q0 := 0) X (c_X0_mateOf_0 E m rb rc P M (nI p)) cs_X7_31 rfl [4, 5] [0, 1, 2, 3] 6 rfl (by decide) rfl rfl rfl rfl rfl (Nat.le_of_ble_eq_true rfl) dX7_find_17 rfl ?_
  refine g_istore (lv' := [(6, .int (mtI M (nI p))), (5, .ref (b 0)), (4, .ref (a 0)), (0, .ref tr), (1, .ref t), (2, .ref (m 0)), (3, .int (nI p))]) X dX7_find_20 (by decide) rfl ?_
  refine g_iload X 0 dX7_find_22 rfl ?_
  refine g_iconst (v := (-1)) X dX7_find_24 rfl ?_
  refine g_icmp_eq (tgt := 50) X dX7_find_25 (by decide) (fun c_25 => ?_) (fun c_25 => ?_)
  · refine g_aload_n X 3 dX7_find_50 rfl ?_
    refine g_aload X 2 dX7_find_51 rfl ?_
    refine g_aload_n X 5 dX7_find_53 rfl ?_
    refine g_iload_n X 6 dX7_find_54 rfl ?_
    refine g_callV (st2 := [.int (b2i (decide (¬ (tgAll (tA v) M p (nI 0, u.2.2.2)).1 ≤ 0)))]) (S' := [wTr E tr (u.1, u.2.1, u.2.2.1, (tgAll (tA v) M p (nI 0, u.2.2.2)).2), wTw E t a b (tR v) (tN v), wSv E a (tA v), wSv E b (tB v), wMo E m rb rc P, wAr E (m 3) 8 M]) (q0 := 0) X (c_X7_findTriangle E tr u a (tA v) m rb rc P M p (by first | assumption | omega) (by first | assumption | omega)) cs_X7_50 rfl [0, 2, 4, 5] [1, 3] 6 rfl rfl (by decide) [wTw E t a b (tR v) (tN v), wSv E b (tB v)] rfl rfl rfl rfl (by simp only [List.map_cons, List.map_nil, fsAr, fsMo, fsSv, fsTr, fsTw]) rfl rfl rfl rfl (Nat.le_of_ble_eq_true rfl) dX7_find_55 rfl ?_
    refine g_bif_eq (tgt := 71) X dX7_find_58 (by decide) (fun c_58 => ?_) (fun c_58 => ?_)
    · have ht : ¬ ¬ (tgAll (tA v) M p (nI 0, u.2.2.2)).1 ≤ 0 := of_decide_eq_false c_58
      refine g_aload_n X 3 dX7_find_71 rfl ?_
      refine g_aload_n X 4 dX7_find_72 rfl ?_
      refine g_aload_n X 5 dX7_find_73 rfl ?_
      refine g_iload_n X 6 dX7_find_74 rfl ?_
      refine g_aload X 2 dX7_find_75 rfl ?_
      refine g_aload_n X 5 dX7_find_77 rfl ?_
      refine g_iload_n X 6 dX7_find_78 rfl ?_
      refine g_callSr (st2 := [.int ((nrAll (tA v) M p (sM (tA v))).1), .int (nI p), .ref (m 0), .ref t, .ref tr]) X (c_X7_nearest E a (tA v) m rb rc P M p (by first | assumption | omega) (by first | assumption | omega)) cs_X7_58 rfl [2, 4, 5] [0, 1, 3] 6 rfl (by decide) rfl rfl rfl (Nat.le_of_ble_eq_true rfl) dX7_find_79 rfl ?_
      rcases nr_ok (tA v) M p (sM (tA v)) with en | ⟨j, hj, qj, en⟩
      · rw [en]
        refine g_callV (st2 := []) (S' := [wTr E tr (sX (tA v) p, sY (tA v) p, nI 1, ((tgAll (tA v) M p (nI 0, u.2.2.2)).2)), wTw E t a b (tR v) (tN v), wSv E a (tA v), wSv E b (tB v), wMo E m rb rc P, wAr E (m 3) 8 M]) (q0 := 0) X (c_X7_follow_N E tr (u.1, u.2.1, u.2.2.1, (tgAll (tA v) M p (nI 0, u.2.2.2)).2) t a b v m rb rc P M p (by first | assumption | omega) (by first | assumption | omega)) cs_X7_62 rfl [0, 1, 2, 3, 4, 5] [] 6 rfl rfl (by decide) [] rfl rfl rfl rfl (by simp only [List.map_cons, List.map_nil, fsAr, fsMo, fsSv, fsTr, fsTw]) rfl rfl rfl rfl (Nat.le_of_ble_eq_true rfl) dX7_find_82 rfl ?_
        exact g_vret X hx rfl rfl (by unfold trFind; rw [if_neg (fun h => h c_25), if_neg ht, if_pos en]) dX7_find_85
      · have kj := (hM j (by omega)).resolve_left qj
        rw [en]
        refine g_callV (st2 := []) (S' := [wTr E tr (sX (tA v) p + (sX (tB v) (mtN M j) - sX (tA v) j), sY (tA v) p + (sY (tB v) (mtN M j) - sY (tA v) j), nI 1, ((tgAll (tA v) M p (nI 0, u.2.2.2)).2)), wTw E t a b (tR v) (tN v), wSv E a (tA v), wSv E b (tB v), wMo E m rb rc P, wAr E (m 3) 8 M]) (q0 := 0) X (c_X7_follow_S E tr (u.1, u.2.1, u.2.2.1, (tgAll (tA v) M p (nI 0, u.2.2.2)).2) t a b v m rb rc P M p j (by first | assumption | omega) (by first | assumption | omega) (by first | assumption | omega) (by first | assumption | omega)) cs_X7_62 rfl [0, 1, 2, 3, 4, 5] [] 6 rfl rfl (by decide) [] rfl rfl rfl rfl (by simp only [List.map_cons, List.map_nil, fsAr, fsMo, fsSv, fsTr, fsTw]) rfl rfl rfl rfl (Nat.le_of_ble_eq_true rfl) dX7_find_82 rfl ?_
        exact g_vret X hx rfl rfl (by unfold trFind; rw [if_neg (fun h => h c_25), if_neg ht, if_neg (by rw [en]; exact nI_ne_m1 (by omega)), en]; simp only [nI_clamp (show j < 2 ^ 31 by omega)]) dX7_find_85
    · have ht : ¬ (tgAll (tA v) M p (nI 0, u.2.2.2)).1 ≤ 0 := of_decide_eq_true c_58
      obtain ⟨ca, cb, cc, h1, h2, h3, h4, h5, h6⟩ := tg_ok (s := (nI 0, u.2.2.2)) rfl ht
      obtain ⟨ka, kb, kc⟩ := amB_ok hM (by omega) (by omega) (by omega) h4
      have e3 : (tgAll (tA v) M p (nI 0, u.2.2.2)).2 = (nI ca, nI cb, nI cc) := by rw [h6]
      refine g_aload_n X 3 dX7_find_61 rfl ?_
      refine g_aload_n X 4 dX7_find_62 rfl ?_
      refine g_aload_n X 5 dX7_find_63 rfl ?_
      refine g_iload_n X 6 dX7_find_64 rfl ?_
      refine g_callV (st2 := []) (S' := [wTr E tr (blV (sX (tB v)) v M p ca cb cc, blV (sY (tB v)) v M p ca cb cc, blD v p ca cb cc, ((tgAll (tA v) M p (nI 0, u.2.2.2)).2)), wTw E t a b (tR v) (tN v), wSv E a (tA v), wSv E b (tB v), wMo E m rb rc P, wAr E (m 3) 8 M]) (q0 := 0) X (c_X7_blend E tr (u.1, u.2.1, u.2.2.1, (tgAll (tA v) M p (nI 0, u.2.2.2)).2) t a b v m rb rc P M p ca cb cc (by first | assumption | omega) e3 (by first | assumption | omega) (by first | assumption | omega) (by first | assumption | omega) (by first | assumption | omega) (by first | assumption | omega) (by first | assumption | omega) (by first | assumption | omega)) cs_X7_54 rfl [0, 1, 2, 3, 4, 5] [] 6 rfl rfl (by decide) [] rfl rfl rfl rfl (by simp only [List.map_cons, List.map_nil, fsAr, fsMo, fsSv, fsTr, fsTw]) rfl rfl rfl rfl (Nat.le_of_ble_eq_true rfl) dX7_find_65 rfl ?_
      refine g_goto (tgt := 85) X dX7_find_68 (by decide) ?_
      exact g_vret X hx rfl rfl (by unfold trFind; rw [if_neg (fun h => h c_25), if_pos ht, h6]; simp only [nI_clamp (show ca < 2 ^ 31 by omega), nI_clamp (show cb < 2 ^ 31 by omega), nI_clamp (show cc < 2 ^ 31 by omega)]) dX7_find_85
  · have kp := (hM p (by omega)).resolve_left c_25
    have kp2 := kp.2
    rw [kp.1]
    refine g_aload_n X 3 dX7_find_28 rfl ?_
    refine g_aload X 1 dX7_find_29 rfl ?_
    refine g_iload X 0 dX7_find_31 rfl ?_
    refine g_callVr (st2 := [.int (sX (tB v) (mtN M p)), .ref tr]) (q0 := 0) X (c_X4_xOf E b (tB v) (mtN M p) (by first | assumption | omega) (by first | assumption | omega)) cs_X7_37 rfl [3] [0, 1, 2, 4, 5] 6 rfl (by decide) rfl rfl rfl rfl rfl (Nat.le_of_ble_eq_true rfl) dX7_find_33 rfl ?_
    refine g_aload X 1 dX7_find_36 rfl ?_
    refine g_iload X 0 dX7_find_38 rfl ?_
    refine g_callVr (st2 := [.int (sY (tB v) (mtN M p)), .int (sX (tB v) (mtN M p)), .ref tr]) (q0 := 0) X (c_X4_yOf E b (tB v) (mtN M p) (by first | assumption | omega) (by first | assumption | omega)) cs_X7_43 rfl [3] [0, 1, 2, 4, 5] 6 rfl (by decide) rfl rfl rfl rfl rfl (Nat.le_of_ble_eq_true rfl) dX7_find_40 rfl ?_
    refine g_iconst (v := (nI 1)) X dX7_find_43 rfl ?_
    refine g_callV (st2 := []) (S' := [wTr E tr ((sX (tB v) (mtN M p)), (sY (tB v) (mtN M p)), (nI 1), u.2.2.2), wTw E t a b (tR v) (tN v), wSv E a (tA v), wSv E b (tB v), wMo E m rb rc P, wAr E (m 3) 8 M]) (q0 := 0) X (c_X7_set E tr u (sX (tB v) (mtN M p)) (sY (tB v) (mtN M p)) (nI 1)) cs_X7_46 rfl [0] [1, 2, 3, 4, 5] 6 rfl rfl (by decide) [wTw E t a b (tR v) (tN v), wSv E a (tA v), wSv E b (tB v), wMo E m rb rc P, wAr E (m 3) 8 M] rfl rfl rfl rfl (by simp only [List.map_cons, List.map_nil, fsAr, fsMo, fsSv, fsTr, fsTw]) rfl rfl rfl rfl (Nat.le_of_ble_eq_true rfl) dX7_find_44 rfl ?_
    refine g_goto (tgt := 85) X dX7_find_47 (by decide) ?_
    exact g_vret X hx rfl rfl (by unfold trFind; rw [if_pos c_25]) dX7_find_85
