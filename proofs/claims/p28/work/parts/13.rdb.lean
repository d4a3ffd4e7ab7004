set_option maxHeartbeats 4000000 in
set_option maxRecDepth 100000 in
theorem c_X2_readNumber (E : GE) (c : Nat → Nat) (u : (Nat → Int32) × Nat) (a1 : Nat → Nat) (w : (Nat → Int32) × Nat) (hw : w.2 ≤ 200) (hp : u.2 ≤ 4000) : CT E m_X2_readNumber [.ref (c 0), .ref (a1 0)] ([wRd E c u, wTx E a1 w].flatten) (some (.int ((rdNum (txAt w) u.2).1))) ([wRd E c (u.1, (rdNum (txAt w) u.2).2), wTx E a1 w].flatten) := by
  refine CT.intro (by decide +kernel) (Nat.le_of_ble_eq_true rfl) (fun Γ X hx => ?_)
  refine GG.lv [0, 1] (lv' := [(0, .ref (c 0)), (1, .ref (a1 0))]) rfl ?_
  refine g_iconst (v := (-1)) X dX2_readNumber_0 rfl ?_
  refine g_istore_n (lv' := [(2, .int (-1)), (0, .ref (c 0)), (1, .ref (a1 0))]) X dX2_readNumber_1 (by decide) rfl ?_
  refine g_iconst (v := (nI 0)) X dX2_readNumber_2 rfl ?_
  refine g_istore_n (lv' := [(3, .int (nI 0)), (2, .int (-1)), (0, .ref (c 0)), (1, .ref (a1 0))]) X dX2_readNumber_3 (by decide) rfl ?_
  refine g_iload_n X 0 dX2_readNumber_4 rfl ?_
  refine g_iconst (v := (nI 2)) X dX2_readNumber_5 rfl ?_
  refine g_icmp_ge (tgt := 64) X dX2_readNumber_6 (by decide) (fun c_6 => absurd c_6 (by decide)) (fun c_6 => ?_)
  refine g_aload_n X 3 dX2_readNumber_9 rfl ?_
  refine g_aload_n X 2 dX2_readNumber_10 rfl ?_
  refine g_getf (v := .int (nI u.2)) X fs_X2_20 0 rfl rfl dX2_readNumber_11 ?_
  refine g_callVr (st2 := [.int (txAt w u.2)]) (q0 := 0) X (c_X5_letterAt E a1 w u.2 (by first | assumption | omega) (by first | assumption | omega)) cs_X2_34 rfl [1] [0] 2 rfl (by decide) rfl rfl rfl rfl rfl (Nat.le_of_ble_eq_true rfl) dX2_readNumber_14 rfl ?_
  refine g_istore (lv' := [(4, .int (txAt w u.2)), (3, .int (nI 0)), (2, .int (-1)), (0, .ref (c 0)), (1, .ref (a1 0))]) X dX2_readNumber_17 (by decide) rfl ?_
  refine g_iload X 0 dX2_readNumber_19 rfl ?_
  refine g_bipush (v := (nI 48)) X dX2_readNumber_21 rfl ?_
  refine g_bipush (v := (nI 57)) X dX2_readNumber_23 rfl ?_
  refine g_callN (st2 := [.int (b2i (inR (txAt w u.2) (nI 48) (nI 57)))]) X (c_X9_isWithin E (txAt w u.2) (nI 48) (nI 57)) cs_X2_49 rfl rfl rfl (Nat.le_of_ble_eq_true rfl) dX2_readNumber_25 rfl ?_
  refine g_bif_ne (tgt := 33) X dX2_readNumber_28 (by decide) (fun c_28 => ?_) (fun c_28 => ?_)
  · refine g_iload_n X 2 dX2_readNumber_33 rfl ?_
    refine g_iconst (v := (nI 0)) X dX2_readNumber_34 rfl ?_
    refine g_max X cs_X2_53 ⟨by decide, Nat.le_of_ble_eq_true rfl, Nat.zero_le _, Nat.zero_le _⟩ dX2_readNumber_35 ?_
    refine g_bipush (v := (nI 10)) X dX2_readNumber_38 rfl ?_
    refine g_imul X dX2_readNumber_40 ?_
    refine g_iload X 0 dX2_readNumber_41 rfl ?_
    refine g_iadd X dX2_readNumber_43 ?_
    refine g_bipush (v := (nI 48)) X dX2_readNumber_44 rfl ?_
    refine g_isub X dX2_readNumber_46 ?_
    refine g_istore_n (lv' := [(2, .int ((((if (-1) < (nI 0) then (nI 0) else (-1)) * (nI 10)) + (txAt w u.2)) - (nI 48))), (4, .int (txAt w u.2)), (3, .int (nI 0)), (0, .ref (c 0)), (1, .ref (a1 0))]) X dX2_readNumber_47 (by decide) rfl ?_
    refine g_aload_n X 3 dX2_readNumber_48 rfl ?_
    refine g_dup X dX2_readNumber_49 rfl ?_
    refine g_getf (v := .int (nI u.2)) X fs_X2_20 0 rfl rfl dX2_readNumber_50 ?_
    refine g_iconst (v := (nI 1)) X dX2_readNumber_53 rfl ?_
    refine g_iaddN X dX2_readNumber_54 ?_
    refine g_putf (ws' := [wRd E c (u.1, u.2 + 1), wTx E a1 w].flatten) X ps_X2_20 0 rfl rfl rfl (Nat.le_of_ble_eq_true rfl) rfl dX2_readNumber_55 ?_
    refine g_iincN (lv' := [(3, .int (nI 1)), (2, .int ((((if (-1) < (nI 0) then (nI 0) else (-1)) * (nI 10)) + (txAt w u.2)) - (nI 48))), (4, .int (txAt w u.2)), (0, .ref (c 0)), (1, .ref (a1 0))]) X 2 dX2_readNumber_58 rfl (by decide) rfl ?_
    refine g_goto (tgt := 4) X dX2_readNumber_61 (by decide) ?_
    refine g_iload_n X 0 dX2_readNumber_4 rfl ?_
    refine g_iconst (v := (nI 2)) X dX2_readNumber_5 rfl ?_
    refine g_icmp_ge (tgt := 64) X dX2_readNumber_6 (by decide) (fun c_6 => absurd c_6 (by decide)) (fun c_6 => ?_)
    refine g_aload_n X 4 dX2_readNumber_9 rfl ?_
    refine g_aload_n X 3 dX2_readNumber_10 rfl ?_
    refine g_getf (v := .int (nI (u.2 + 1))) X fs_X2_20 0 rfl rfl dX2_readNumber_11 ?_
    refine g_callVr (st2 := [.int (txAt w (u.2 + 1))]) (q0 := 0) X (c_X5_letterAt E a1 w (u.2 + 1) (by first | assumption | omega) (by first | assumption | omega)) cs_X2_34 rfl [1] [0] 2 rfl (by decide) rfl rfl rfl rfl rfl (Nat.le_of_ble_eq_true rfl) dX2_readNumber_14 rfl ?_
    refine g_istore (lv' := [(4, .int (txAt w (u.2 + 1))), (3, .int (nI 1)), (2, .int ((((if (-1) < (nI 0) then (nI 0) else (-1)) * (nI 10)) + (txAt w u.2)) - (nI 48))), (0, .ref (c 0)), (1, .ref (a1 0))]) X dX2_readNumber_17 (by decide) rfl ?_
    refine g_iload X 0 dX2_readNumber_19 rfl ?_
    refine g_bipush (v := (nI 48)) X dX2_readNumber_21 rfl ?_
    refine g_bipush (v := (nI 57)) X dX2_readNumber_23 rfl ?_
    refine g_callN (st2 := [.int (b2i (inR (txAt w (u.2 + 1)) (nI 48) (nI 57)))]) X (c_X9_isWithin E (txAt w (u.2 + 1)) (nI 48) (nI 57)) cs_X2_49 rfl rfl rfl (Nat.le_of_ble_eq_true rfl) dX2_readNumber_25 rfl ?_
    refine g_bif_ne (tgt := 33) X dX2_readNumber_28 (by decide) (fun c_28_2 => ?_) (fun c_28_2 => ?_)
    · refine g_iload_n X 2 dX2_readNumber_33 rfl ?_
      refine g_iconst (v := (nI 0)) X dX2_readNumber_34 rfl ?_
      refine g_max X cs_X2_53 ⟨by decide, Nat.le_of_ble_eq_true rfl, Nat.zero_le _, Nat.zero_le _⟩ dX2_readNumber_35 ?_
      refine g_bipush (v := (nI 10)) X dX2_readNumber_38 rfl ?_
      refine g_imul X dX2_readNumber_40 ?_
      refine g_iload X 0 dX2_readNumber_41 rfl ?_
      refine g_iadd X dX2_readNumber_43 ?_
      refine g_bipush (v := (nI 48)) X dX2_readNumber_44 rfl ?_
      refine g_isub X dX2_readNumber_46 ?_
      refine g_istore_n (lv' := [(2, .int ((((if ((((if (-1) < (nI 0) then (nI 0) else (-1)) * (nI 10)) + (txAt w u.2)) - (nI 48)) < (nI 0) then (nI 0) else ((((if (-1) < (nI 0) then (nI 0) else (-1)) * (nI 10)) + (txAt w u.2)) - (nI 48))) * (nI 10)) + (txAt w (u.2 + 1))) - (nI 48))), (4, .int (txAt w (u.2 + 1))), (3, .int (nI 1)), (0, .ref (c 0)), (1, .ref (a1 0))]) X dX2_readNumber_47 (by decide) rfl ?_
      refine g_aload_n X 3 dX2_readNumber_48 rfl ?_
      refine g_dup X dX2_readNumber_49 rfl ?_
      refine g_getf (v := .int (nI (u.2 + 1))) X fs_X2_20 0 rfl rfl dX2_readNumber_50 ?_
      refine g_iconst (v := (nI 1)) X dX2_readNumber_53 rfl ?_
      refine g_iaddN X dX2_readNumber_54 ?_
      refine g_putf (ws' := [wRd E c (u.1, (u.2 + 1) + 1), wTx E a1 w].flatten) X ps_X2_20 0 rfl rfl rfl (Nat.le_of_ble_eq_true rfl) rfl dX2_readNumber_55 ?_
      refine g_iincN (lv' := [(3, .int (nI 2)), (2, .int ((((if ((((if (-1) < (nI 0) then (nI 0) else (-1)) * (nI 10)) + (txAt w u.2)) - (nI 48)) < (nI 0) then (nI 0) else ((((if (-1) < (nI 0) then (nI 0) else (-1)) * (nI 10)) + (txAt w u.2)) - (nI 48))) * (nI 10)) + (txAt w (u.2 + 1))) - (nI 48))), (4, .int (txAt w (u.2 + 1))), (0, .ref (c 0)), (1, .ref (a1 0))]) X 2 dX2_readNumber_58 rfl (by decide) rfl ?_
      refine g_goto (tgt := 4) X dX2_readNumber_61 (by decide) ?_
      refine g_iload_n X 0 dX2_readNumber_4 rfl ?_
      refine g_iconst (v := (nI 2)) X dX2_readNumber_5 rfl ?_
      refine g_icmp_ge (tgt := 64) X dX2_readNumber_6 (by decide) (fun c_6 => ?_) (fun c_6 => absurd c_6 (by decide))
      refine g_iload_n X 1 dX2_readNumber_64 rfl ?_
      exact g_iretv (r := ((((if ((((if (-1) < (nI 0) then (nI 0) else (-1)) * (nI 10)) + (txAt w u.2)) - (nI 48)) < (nI 0) then (nI 0) else ((((if (-1) < (nI 0) then (nI 0) else (-1)) * (nI 10)) + (txAt w u.2)) - (nI 48))) * (nI 10)) + (txAt w (u.2 + 1))) - (nI 48))) X hx rfl (by simp only [rdNum, dgt, c_28, c_28_2, if_true, if_false, Bool.false_eq_true]; try rfl) (by simp [rdNum, c_28, c_28_2]) dX2_readNumber_65
    · refine g_iload_n X 2 dX2_readNumber_31 rfl ?_
      exact g_iretv (r := ((((if (-1) < (nI 0) then (nI 0) else (-1)) * (nI 10)) + (txAt w u.2)) - (nI 48))) X hx rfl (by simp only [rdNum, dgt, c_28, c_28_2, if_true, if_false, Bool.false_eq_true]; try rfl) (by simp [rdNum, c_28, c_28_2]) dX2_readNumber_32
  · refine g_iload_n X 2 dX2_readNumber_31 rfl ?_
    exact g_iretv (r := (-1)) X hx rfl (by simp only [rdNum, dgt, c_28, if_true, if_false, Bool.false_eq_true]; try rfl) (by simp [rdNum, c_28]) dX2_readNumber_32
