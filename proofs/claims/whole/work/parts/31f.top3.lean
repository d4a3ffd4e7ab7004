set_option maxHeartbeats 4000000 in
set_option maxRecDepth 100000 in
theorem c_X9_moveAtRandom (E : GE) (t : Nat) (a : Nat → Nat) (b : Nat → Nat) (v : TV) (z : Nat) (k : Nat) (hv : okT v) (hz : z ≤ 9999) (hk : k < 20) : CT E m_X9_moveAtRandom [.ref t, .int (nI z), .int (nI k)] ([wTw E t a b (tR v) (tN v), wSv E a (tA v), wSv E b (tB v)].flatten) none ([wTw E t a b (tR (dayS z k v)) (tN (dayS z k v)), wSv E a (tA (dayS z k v)), wSv E b (tB (dayS z k v))].flatten) := by
  refine CT.intro (by decide +kernel) (Nat.le_of_ble_eq_true rfl) (fun Γ X hx => ?_)
  refine GG.lv [0, 1, 2] (lv' := [(0, .ref t), (1, .int (nI z)), (2, .int (nI k))]) rfl ?_
  have hA : okS (tA v) := hv.1
  have hB : okS (tB v) := hv.2.1
  have hv1 : sM (tA v) ≤ 8 := hA.1
  have hv2 : sS (tA v) ≤ 8 := hA.2
  have hv3 : sM (tB v) ≤ 8 := hB.1
  have hv4 : sS (tB v) ≤ 8 := hB.2
  have hv5 : tN v ≤ 3 := hv.2.2
  have hd := dN_lt z k
  refine g_ldc2 (v := 7919) X dX9_moveAtRandom_0 ks_X9_296 ?_
  refine g_iload_n X 1 dX9_moveAtRandom_3 rfl ?_
  refine g_i2l X dX9_moveAtRandom_4 ?_
  refine g_lmul X dX9_moveAtRandom_5 ?_
  refine g_ldc2 (v := 6151) X dX9_moveAtRandom_6 ks_X9_298 ?_
  refine g_iload_n X 2 dX9_moveAtRandom_9 rfl ?_
  refine g_i2l X dX9_moveAtRandom_10 ?_
  refine g_lmul X dX9_moveAtRandom_11 ?_
  refine g_ladd X dX9_moveAtRandom_12 ?_
  refine g_lconst (v := 1) X dX9_moveAtRandom_13 rfl ?_
  refine g_ladd X dX9_moveAtRandom_14 ?_
  refine g_lstore_n (lv' := [(3, .long (((7919 * ((nI z).toInt64)) + (6151 * ((nI k).toInt64))) + 1)), (0, .ref t), (1, .int (nI z)), (2, .int (nI k))]) X dX9_moveAtRandom_15 (by decide) rfl ?_
  refine g_lload_n X 0 dX9_moveAtRandom_16 rfl ?_
  refine g_lload_n X 0 dX9_moveAtRandom_17 rfl ?_
  refine g_lmul X dX9_moveAtRandom_18 ?_
  refine g_ldc2 (v := 65521) X dX9_moveAtRandom_19 ks_X9_300 ?_
  refine g_lrem X dX9_moveAtRandom_22 (by decide) ?_
  refine g_l2i X dX9_moveAtRandom_23 ?_
  rw [dN_eq hz hk (x := ((7919 * (nI z).toInt64) + (6151 * (nI k).toInt64)) + 1) (by rw [nI_l (by omega), nI_l (by omega), show (7919 : Int64) = lN 7919 from rfl, show (6151 : Int64) = lN 6151 from rfl, lN_mul, lN_mul, lN_add, lN_1])]
  refine g_istore (lv' := [(5, .int (nI (dN z k))), (3, .long (((7919 * ((nI z).toInt64)) + (6151 * ((nI k).toInt64))) + 1)), (0, .ref t), (1, .int (nI z)), (2, .int (nI k))]) X dX9_moveAtRandom_24 (by decide) rfl ?_
  refine g_aload_n X 2 dX9_moveAtRandom_26 rfl ?_
  refine g_iload X 0 dX9_moveAtRandom_27 rfl ?_
  refine g_iconst (v := (nI 2)) X dX9_moveAtRandom_29 rfl ?_
  refine g_iremN X (by omega) (by omega) (by omega) dX9_moveAtRandom_30 ?_
  rcases (show dN z k % 2 = 0 ∨ dN z k % 2 = 1 by omega) with e2 | e2
  · rw [e2]
    refine g_callVr (st2 := [.ref (a 0)]) (q0 := 0) X (c_X6_surveyOf_0 E t a b v) cs_X9_92 rfl [0, 1, 2] [] 3 rfl (by decide) rfl rfl rfl rfl rfl (Nat.le_of_ble_eq_true rfl) dX9_moveAtRandom_31 rfl ?_
    refine g_astore (lv' := [(6, .ref (a 0)), (5, .int (nI (dN z k))), (3, .long (((7919 * ((nI z).toInt64)) + (6151 * ((nI k).toInt64))) + 1)), (0, .ref t), (1, .int (nI z)), (2, .int (nI k))]) X dX9_moveAtRandom_34 (by decide) rfl ?_
    refine g_aload X 0 dX9_moveAtRandom_36 rfl ?_
    refine g_callVr (st2 := [.int (nI (sM (tA v)))]) (q0 := 0) X (c_X4_meetings E a (tA v)) cs_X9_96 rfl [1] [0, 2] 3 rfl (by decide) rfl rfl rfl rfl rfl (Nat.le_of_ble_eq_true rfl) dX9_moveAtRandom_38 rfl ?_
    refine g_istore (lv' := [(7, .int (nI (sM (tA v)))), (6, .ref (a 0)), (5, .int (nI (dN z k))), (3, .long (((7919 * ((nI z).toInt64)) + (6151 * ((nI k).toInt64))) + 1)), (0, .ref t), (1, .int (nI z)), (2, .int (nI k))]) X dX9_moveAtRandom_41 (by decide) rfl ?_
    refine g_iload X 0 dX9_moveAtRandom_43 rfl ?_
    refine g_if_le (tgt := 77) X dX9_moveAtRandom_45 (by decide) (fun c_45 => ?_) (fun c_45 => ?_)
    · have f_c_45 : sM (tA v) ≤ 0 := n_le (by omega) (by omega) c_45
      have fn_c_45 := Nat.not_lt.mpr f_c_45
      exact g_vret X hx rfl rfl (by simp only [dayS, dayP, c_45, f_c_45, fn_c_45, if_pos e2, if_true, if_false]) dX9_moveAtRandom_77
    · have f_c_45 : 0 < sM (tA v) := n_nle (by omega) (by omega) c_45
      have fn_c_45 := Nat.not_le.mpr f_c_45
      refine g_aload X 1 dX9_moveAtRandom_48 rfl ?_
      refine g_iload X 2 dX9_moveAtRandom_50 rfl ?_
      refine g_iconst (v := (nI 2)) X dX9_moveAtRandom_52 rfl ?_
      refine g_idivN X (by omega) (by omega) (by omega) dX9_moveAtRandom_53 ?_
      refine g_iload X 0 dX9_moveAtRandom_54 rfl ?_
      refine g_iremN X (by omega) (by omega) (by omega) dX9_moveAtRandom_56 ?_
      refine g_iload X 2 dX9_moveAtRandom_57 rfl ?_
      refine g_bipush (v := (nI 16)) X dX9_moveAtRandom_59 rfl ?_
      refine g_idivN X (by omega) (by omega) (by omega) dX9_moveAtRandom_61 ?_
      refine g_bipush (v := (nI 61)) X dX9_moveAtRandom_62 rfl ?_
      refine g_iremN X (by omega) (by omega) (by omega) dX9_moveAtRandom_64 ?_
      refine g_iload X 2 dX9_moveAtRandom_65 rfl ?_
      refine g_sipush (v := (nI 256)) X dX9_moveAtRandom_67 rfl ?_
      refine g_idivN X (by omega) (by omega) (by omega) dX9_moveAtRandom_70 ?_
      refine g_bipush (v := (nI 61)) X dX9_moveAtRandom_71 rfl ?_
      refine g_iremN X (by omega) (by omega) (by omega) dX9_moveAtRandom_73 ?_
      refine g_callV (st2 := []) (S' := [wTw E t a b (tR v) (tN v), wSv E a (svPut (tA v) (((dN z k) / 2) % (sM (tA v))) (nI (((dN z k) / 16) % 61)) (nI (((dN z k) / 256) % 61))), wSv E b (tB v)]) (q0 := 0) X (c_X4_put E a (tA v) (((dN z k) / 2) % (sM (tA v))) (nI (((dN z k) / 16) % 61)) (nI (((dN z k) / 256) % 61)) (by first | assumption | omega) (Nat.mod_lt _ (by omega))) cs_X9_147 rfl [1] [0, 2] 3 rfl rfl (by decide) [wTw E t a b (tR v) (tN v), wSv E b (tB v)] rfl rfl rfl rfl (by simp only [List.map_cons, List.map_nil, fsSv, fsTw]) rfl rfl rfl rfl (Nat.le_of_ble_eq_true rfl) dX9_moveAtRandom_74 rfl ?_
      exact g_vret X hx rfl rfl (by simp only [dayS, dayP, c_45, f_c_45, fn_c_45, if_pos e2, if_true, if_false]) dX9_moveAtRandom_77
  · rw [e2]
    refine g_callVr (st2 := [.ref (b 0)]) (q0 := 0) X (c_X6_surveyOf_1 E t a b v) cs_X9_92 rfl [0, 1, 2] [] 3 rfl (by decide) rfl rfl rfl rfl rfl (Nat.le_of_ble_eq_true rfl) dX9_moveAtRandom_31 rfl ?_
    refine g_astore (lv' := [(6, .ref (b 0)), (5, .int (nI (dN z k))), (3, .long (((7919 * ((nI z).toInt64)) + (6151 * ((nI k).toInt64))) + 1)), (0, .ref t), (1, .int (nI z)), (2, .int (nI k))]) X dX9_moveAtRandom_34 (by decide) rfl ?_
    refine g_aload X 0 dX9_moveAtRandom_36 rfl ?_
    refine g_callVr (st2 := [.int (nI (sM (tB v)))]) (q0 := 0) X (c_X4_meetings E b (tB v)) cs_X9_96 rfl [2] [0, 1] 3 rfl (by decide) rfl rfl rfl rfl rfl (Nat.le_of_ble_eq_true rfl) dX9_moveAtRandom_38 rfl ?_
    refine g_istore (lv' := [(7, .int (nI (sM (tB v)))), (6, .ref (b 0)), (5, .int (nI (dN z k))), (3, .long (((7919 * ((nI z).toInt64)) + (6151 * ((nI k).toInt64))) + 1)), (0, .ref t), (1, .int (nI z)), (2, .int (nI k))]) X dX9_moveAtRandom_41 (by decide) rfl ?_
    refine g_iload X 0 dX9_moveAtRandom_43 rfl ?_
    refine g_if_le (tgt := 77) X dX9_moveAtRandom_45 (by decide) (fun c_45 => ?_) (fun c_45 => ?_)
    · have f_c_45 : sM (tB v) ≤ 0 := n_le (by omega) (by omega) c_45
      have fn_c_45 := Nat.not_lt.mpr f_c_45
      exact g_vret X hx rfl rfl (by simp only [dayS, dayP, c_45, f_c_45, fn_c_45, if_neg (show ¬ dN z k % 2 = 0 by omega), if_true, if_false]) dX9_moveAtRandom_77
    · have f_c_45 : 0 < sM (tB v) := n_nle (by omega) (by omega) c_45
      have fn_c_45 := Nat.not_le.mpr f_c_45
      refine g_aload X 1 dX9_moveAtRandom_48 rfl ?_
      refine g_iload X 2 dX9_moveAtRandom_50 rfl ?_
      refine g_iconst (v := (nI 2)) X dX9_moveAtRandom_52 rfl ?_
      refine g_idivN X (by omega) (by omega) (by omega) dX9_moveAtRandom_53 ?_
      refine g_iload X 0 dX9_moveAtRandom_54 rfl ?_
      refine g_iremN X (by omega) (by omega) (by omega) dX9_moveAtRandom_56 ?_
      refine g_iload X 2 dX9_moveAtRandom_57 rfl ?_
      refine g_bipush (v := (nI 16)) X dX9_moveAtRandom_59 rfl ?_
      refine g_idivN X (by omega) (by omega) (by omega) dX9_moveAtRandom_61 ?_
      refine g_bipush (v := (nI 61)) X dX9_moveAtRandom_62 rfl ?_
      refine g_iremN X (by omega) (by omega) (by omega) dX9_moveAtRandom_64 ?_
      refine g_iload X 2 dX9_moveAtRandom_65 rfl ?_
      refine g_sipush (v := (nI 256)) X dX9_moveAtRandom_67 rfl ?_
      refine g_idivN X (by omega) (by omega) (by omega) dX9_moveAtRandom_70 ?_
      refine g_bipush (v := (nI 61)) X dX9_moveAtRandom_71 rfl ?_
      refine g_iremN X (by omega) (by omega) (by omega) dX9_moveAtRandom_73 ?_
      refine g_callV (st2 := []) (S' := [wTw E t a b (tR v) (tN v), wSv E a (tA v), wSv E b (svPut (tB v) (((dN z k) / 2) % (sM (tB v))) (nI (((dN z k) / 16) % 61)) (nI (((dN z k) / 256) % 61)))]) (q0 := 0) X (c_X4_put E b (tB v) (((dN z k) / 2) % (sM (tB v))) (nI (((dN z k) / 16) % 61)) (nI (((dN z k) / 256) % 61)) (by first | assumption | omega) (Nat.mod_lt _ (by omega))) cs_X9_147 rfl [2] [0, 1] 3 rfl rfl (by decide) [wTw E t a b (tR v) (tN v), wSv E a (tA v)] rfl rfl rfl rfl (by simp only [List.map_cons, List.map_nil, fsSv, fsTw]) rfl rfl rfl rfl (Nat.le_of_ble_eq_true rfl) dX9_moveAtRandom_74 rfl ?_
      exact g_vret X hx rfl rfl (by simp only [dayS, dayP, c_45, f_c_45, fn_c_45, if_neg (show ¬ dN z k % 2 = 0 by omega), if_true, if_false]) dX9_moveAtRandom_77
