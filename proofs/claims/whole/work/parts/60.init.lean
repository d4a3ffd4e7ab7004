set_option maxHeartbeats 4000000 in
set_option maxRecDepth 100000 in
theorem c_X5_init (E : GE) (q : Nat × Nat) (h : Nat) : CN E q n_X5_init [.ref h] ([wOb h 5 [.null, .int 0]].flatten) (fun v w => v = none ∧ ∃ a : Nat → Nat, (a 0 = h ∧ w.Perm (wTx E a (zf, 0)))) := by
  refine CN.intro (by decide +kernel) (Nat.le_of_ble_eq_true rfl) (fun Γ X Z hx => ?_)
  refine GG.lv [0] (lv' := [(0, .ref h)]) rfl ?_
  refine g_aload_n X 0 dX5_init_0 rfl ?_
  refine g_objInit X is_X5_3 oi_im oi_co ⟨by decide, Nat.le_of_ble_eq_true rfl⟩ dX5_init_1 ?_
  refine g_aload_n X 0 dX5_init_4 rfl ?_
  refine g_sipush (v := nI 200) X dX5_init_5 rfl ?_
  refine g_newC (S := [wOb h 5 [.null, .int 0]]) (N := 200) X ac_char rfl (by decide) (Nat.le_of_ble_eq_true rfl) (Nat.le_of_ble_eq_true rfl) dX5_init_8 (fun q8 => ?_)
  refine GG.eq (ws' := [wOb h 5 [.null, .int 0], wCh E q8 200 zf].flatten) rfl rfl ?_
  refine g_putF (ws' := [wOb h 5 [.ref q8, .int 0], wCh E q8 200 zf].flatten) X ps_X5_9 rfl 0 rfl rfl rfl (Nat.le_of_ble_eq_true rfl) rfl dX5_init_10 ?_
  exact g_vretN X hx rfl (List.Perm.refl _) ⟨rfl, adL [h, q8], rfl, List.Perm.of_eq (rfl)⟩ ⟨Nat.le_of_ble_eq_true rfl, Nat.le_of_ble_eq_true rfl⟩ dX5_init_13
set_option maxHeartbeats 4000000 in
set_option maxRecDepth 100000 in
theorem c_X2_init (E : GE) (q : Nat × Nat) (h : Nat) : CN E q n_X2_init [.ref h] ([wOb h 2 [.null, .int 0]].flatten) (fun v w => v = none ∧ ∃ a : Nat → Nat, (a 0 = h ∧ w.Perm (wRd E a (zf, 0)))) := by
  refine CN.intro (by decide +kernel) (Nat.le_of_ble_eq_true rfl) (fun Γ X Z hx => ?_)
  refine GG.lv [0] (lv' := [(0, .ref h)]) rfl ?_
  refine g_aload_n X 0 dX2_init_0 rfl ?_
  refine g_objInit X is_X2_3 oi_im oi_co ⟨by decide, Nat.le_of_ble_eq_true rfl⟩ dX2_init_1 ?_
  refine g_aload_n X 0 dX2_init_4 rfl ?_
  refine g_iconst (v := nI 3) X dX2_init_5 rfl ?_
  refine g_newI (S := [wOb h 2 [.null, .int 0]]) (N := 3) X ac_int rfl (by decide) (Nat.le_of_ble_eq_true rfl) (Nat.le_of_ble_eq_true rfl) dX2_init_6 (fun q6 => ?_)
  refine GG.eq (ws' := [wOb h 2 [.null, .int 0], wAr E q6 3 zf].flatten) rfl rfl ?_
  refine g_putF (ws' := [wOb h 2 [.ref q6, .int 0], wAr E q6 3 zf].flatten) X ps_X2_9 rfl 0 rfl rfl rfl (Nat.le_of_ble_eq_true rfl) rfl dX2_init_8 ?_
  exact g_vretN X hx rfl (List.Perm.refl _) ⟨rfl, adL [h, q6], rfl, List.Perm.of_eq (rfl)⟩ ⟨Nat.le_of_ble_eq_true rfl, Nat.le_of_ble_eq_true rfl⟩ dX2_init_11
set_option maxHeartbeats 4000000 in
set_option maxRecDepth 100000 in
theorem c_X8_init (E : GE) (q : Nat × Nat) (h : Nat) : CN E q n_X8_init [.ref h] ([wOb h 8 [.null, .int 0]].flatten) (fun v w => v = none ∧ ∃ a : Nat → Nat, (a 0 = h ∧ w.Perm (wWy E a (zf, 0)))) := by
  refine CN.intro (by decide +kernel) (Nat.le_of_ble_eq_true rfl) (fun Γ X Z hx => ?_)
  refine GG.lv [0] (lv' := [(0, .ref h)]) rfl ?_
  refine g_aload_n X 0 dX8_init_0 rfl ?_
  refine g_objInit X is_X8_3 oi_im oi_co ⟨by decide, Nat.le_of_ble_eq_true rfl⟩ dX8_init_1 ?_
  refine g_aload_n X 0 dX8_init_4 rfl ?_
  refine g_iconst (v := nI 4) X dX8_init_5 rfl ?_
  refine g_newI (S := [wOb h 8 [.null, .int 0]]) (N := 4) X ac_int rfl (by decide) (Nat.le_of_ble_eq_true rfl) (Nat.le_of_ble_eq_true rfl) dX8_init_6 (fun q6 => ?_)
  refine GG.eq (ws' := [wOb h 8 [.null, .int 0], wAr E q6 4 zf].flatten) rfl rfl ?_
  refine g_putF (ws' := [wOb h 8 [.ref q6, .int 0], wAr E q6 4 zf].flatten) X ps_X8_9 rfl 0 rfl rfl rfl (Nat.le_of_ble_eq_true rfl) rfl dX8_init_8 ?_
  exact g_vretN X hx rfl (List.Perm.refl _) ⟨rfl, adL [h, q6], rfl, List.Perm.of_eq (rfl)⟩ ⟨Nat.le_of_ble_eq_true rfl, Nat.le_of_ble_eq_true rfl⟩ dX8_init_11
set_option maxHeartbeats 4000000 in
set_option maxRecDepth 100000 in
theorem c_X4_init (E : GE) (q : Nat × Nat) (h : Nat) : CN E q n_X4_init [.ref h] ([wOb h 4 [.null, .null, .null, .null, .null, .null, .int 0, .int 0]].flatten) (fun v w => v = none ∧ ∃ a : Nat → Nat, (a 0 = h ∧ w.Perm (wSv E a sv0))) := by
  refine CN.intro (by decide +kernel) (Nat.le_of_ble_eq_true rfl) (fun Γ X Z hx => ?_)
  refine GG.lv [0] (lv' := [(0, .ref h)]) rfl ?_
  refine g_aload_n X 0 dX4_init_0 rfl ?_
  refine g_objInit X is_X4_3 oi_im oi_co ⟨by decide, Nat.le_of_ble_eq_true rfl⟩ dX4_init_1 ?_
  refine g_aload_n X 0 dX4_init_4 rfl ?_
  refine g_bipush (v := nI 8) X dX4_init_5 rfl ?_
  refine g_newI (S := [wOb h 4 [.null, .null, .null, .null, .null, .null, .int 0, .int 0]]) (N := 8) X ac_int rfl (by decide) (Nat.le_of_ble_eq_true rfl) (Nat.le_of_ble_eq_true rfl) dX4_init_7 (fun q7 => ?_)
  refine GG.eq (ws' := [wOb h 4 [.null, .null, .null, .null, .null, .null, .int 0, .int 0], wAr E q7 8 zf].flatten) rfl rfl ?_
  refine g_putF (ws' := [wOb h 4 [.ref q7, .null, .null, .null, .null, .null, .int 0, .int 0], wAr E q7 8 zf].flatten) X ps_X4_9 rfl 0 rfl rfl rfl (Nat.le_of_ble_eq_true rfl) rfl dX4_init_9 ?_
  refine g_aload_n X 0 dX4_init_12 rfl ?_
  refine g_bipush (v := nI 8) X dX4_init_13 rfl ?_
  refine g_newI (S := [wOb h 4 [.ref q7, .null, .null, .null, .null, .null, .int 0, .int 0], wAr E q7 8 zf]) (N := 8) X ac_int rfl (by decide) (Nat.le_of_ble_eq_true rfl) (Nat.le_of_ble_eq_true rfl) dX4_init_15 (fun q15 => ?_)
  refine GG.eq (ws' := [wOb h 4 [.ref q7, .null, .null, .null, .null, .null, .int 0, .int 0], wAr E q7 8 zf, wAr E q15 8 zf].flatten) rfl rfl ?_
  refine g_putF (ws' := [wOb h 4 [.ref q7, .ref q15, .null, .null, .null, .null, .int 0, .int 0], wAr E q7 8 zf, wAr E q15 8 zf].flatten) X ps_X4_15 rfl 0 rfl rfl rfl (Nat.le_of_ble_eq_true rfl) rfl dX4_init_17 ?_
  refine g_aload_n X 0 dX4_init_20 rfl ?_
  refine g_bipush (v := nI 8) X dX4_init_21 rfl ?_
  refine g_newI (S := [wOb h 4 [.ref q7, .ref q15, .null, .null, .null, .null, .int 0, .int 0], wAr E q7 8 zf, wAr E q15 8 zf]) (N := 8) X ac_int rfl (by decide) (Nat.le_of_ble_eq_true rfl) (Nat.le_of_ble_eq_true rfl) dX4_init_23 (fun q23 => ?_)
  refine GG.eq (ws' := [wOb h 4 [.ref q7, .ref q15, .null, .null, .null, .null, .int 0, .int 0], wAr E q7 8 zf, wAr E q15 8 zf, wAr E q23 8 zf].flatten) rfl rfl ?_
  refine g_putF (ws' := [wOb h 4 [.ref q7, .ref q15, .ref q23, .null, .null, .null, .int 0, .int 0], wAr E q7 8 zf, wAr E q15 8 zf, wAr E q23 8 zf].flatten) X ps_X4_18 rfl 0 rfl rfl rfl (Nat.le_of_ble_eq_true rfl) rfl dX4_init_25 ?_
  refine g_aload_n X 0 dX4_init_28 rfl ?_
  refine g_bipush (v := nI 8) X dX4_init_29 rfl ?_
  refine g_newI (S := [wOb h 4 [.ref q7, .ref q15, .ref q23, .null, .null, .null, .int 0, .int 0], wAr E q7 8 zf, wAr E q15 8 zf, wAr E q23 8 zf]) (N := 8) X ac_int rfl (by decide) (Nat.le_of_ble_eq_true rfl) (Nat.le_of_ble_eq_true rfl) dX4_init_31 (fun q31 => ?_)
  refine GG.eq (ws' := [wOb h 4 [.ref q7, .ref q15, .ref q23, .null, .null, .null, .int 0, .int 0], wAr E q7 8 zf, wAr E q15 8 zf, wAr E q23 8 zf, wAr E q31 8 zf].flatten) rfl rfl ?_
  refine g_putF (ws' := [wOb h 4 [.ref q7, .ref q15, .ref q23, .ref q31, .null, .null, .int 0, .int 0], wAr E q7 8 zf, wAr E q15 8 zf, wAr E q23 8 zf, wAr E q31 8 zf].flatten) X ps_X4_21 rfl 0 rfl rfl rfl (Nat.le_of_ble_eq_true rfl) rfl dX4_init_33 ?_
  refine g_aload_n X 0 dX4_init_36 rfl ?_
  refine g_bipush (v := nI 8) X dX4_init_37 rfl ?_
  refine g_newI (S := [wOb h 4 [.ref q7, .ref q15, .ref q23, .ref q31, .null, .null, .int 0, .int 0], wAr E q7 8 zf, wAr E q15 8 zf, wAr E q23 8 zf, wAr E q31 8 zf]) (N := 8) X ac_int rfl (by decide) (Nat.le_of_ble_eq_true rfl) (Nat.le_of_ble_eq_true rfl) dX4_init_39 (fun q39 => ?_)
  refine GG.eq (ws' := [wOb h 4 [.ref q7, .ref q15, .ref q23, .ref q31, .null, .null, .int 0, .int 0], wAr E q7 8 zf, wAr E q15 8 zf, wAr E q23 8 zf, wAr E q31 8 zf, wAr E q39 8 zf].flatten) rfl rfl ?_
  refine g_putF (ws' := [wOb h 4 [.ref q7, .ref q15, .ref q23, .ref q31, .ref q39, .null, .int 0, .int 0], wAr E q7 8 zf, wAr E q15 8 zf, wAr E q23 8 zf, wAr E q31 8 zf, wAr E q39 8 zf].flatten) X ps_X4_24 rfl 0 rfl rfl rfl (Nat.le_of_ble_eq_true rfl) rfl dX4_init_41 ?_
  refine g_aload_n X 0 dX4_init_44 rfl ?_
  refine g_bipush (v := nI 8) X dX4_init_45 rfl ?_
  refine g_newI (S := [wOb h 4 [.ref q7, .ref q15, .ref q23, .ref q31, .ref q39, .null, .int 0, .int 0], wAr E q7 8 zf, wAr E q15 8 zf, wAr E q23 8 zf, wAr E q31 8 zf, wAr E q39 8 zf]) (N := 8) X ac_int rfl (by decide) (Nat.le_of_ble_eq_true rfl) (Nat.le_of_ble_eq_true rfl) dX4_init_47 (fun q47 => ?_)
  refine GG.eq (ws' := [wOb h 4 [.ref q7, .ref q15, .ref q23, .ref q31, .ref q39, .null, .int 0, .int 0], wAr E q7 8 zf, wAr E q15 8 zf, wAr E q23 8 zf, wAr E q31 8 zf, wAr E q39 8 zf, wAr E q47 8 zf].flatten) rfl rfl ?_
  refine g_putF (ws' := [wOb h 4 [.ref q7, .ref q15, .ref q23, .ref q31, .ref q39, .ref q47, .int 0, .int 0], wAr E q7 8 zf, wAr E q15 8 zf, wAr E q23 8 zf, wAr E q31 8 zf, wAr E q39 8 zf, wAr E q47 8 zf].flatten) X ps_X4_27 rfl 0 rfl rfl rfl (Nat.le_of_ble_eq_true rfl) rfl dX4_init_49 ?_
  exact g_vretN X hx rfl (List.Perm.refl _) ⟨rfl, adL [h, q7, q15, q23, q31, q39, q47], rfl, List.Perm.of_eq (rfl)⟩ ⟨Nat.le_of_ble_eq_true rfl, Nat.le_of_ble_eq_true rfl⟩ dX4_init_52
set_option maxHeartbeats 4000000 in
set_option maxRecDepth 100000 in
theorem c_X3_init (E : GE) (q : Nat × Nat) (h : Nat) : CN E q n_X3_init [.ref h] ([wOb h 3 [.null]].flatten) (fun v w => v = none ∧ ∃ a : Nat → Nat, (a 0 = h ∧ w.Perm (wSh E a (clrF zf 12)))) := by
  refine CN.intro (by decide +kernel) (Nat.le_of_ble_eq_true rfl) (fun Γ X Z hx => ?_)
  refine GG.lv [0] (lv' := [(0, .ref h)]) rfl ?_
  refine g_aload_n X 0 dX3_init_0 rfl ?_
  refine g_objInit X is_X3_3 oi_im oi_co ⟨by decide, Nat.le_of_ble_eq_true rfl⟩ dX3_init_1 ?_
  refine g_aload_n X 0 dX3_init_4 rfl ?_
  refine g_bipush (v := nI 12) X dX3_init_5 rfl ?_
  refine g_newI (S := [wOb h 3 [.null]]) (N := 12) X ac_int rfl (by decide) (Nat.le_of_ble_eq_true rfl) (Nat.le_of_ble_eq_true rfl) dX3_init_7 (fun q7 => ?_)
  refine GG.eq (ws' := [wOb h 3 [.null], wAr E q7 12 zf].flatten) rfl rfl ?_
  refine g_putF (ws' := [wOb h 3 [.ref q7], wAr E q7 12 zf].flatten) X ps_X3_9 rfl 0 rfl rfl rfl (Nat.le_of_ble_eq_true rfl) rfl dX3_init_9 ?_
  refine g_aload_n X 0 dX3_init_12 rfl ?_
  refine GG.eq (ws' := [wSh E (ad2 h q7) zf].flatten) rfl rfl ?_
  refine g_callV (S' := [wSh E (ad2 h q7) (clrF zf 12)]) (st2 := []) (q0 := 0) X (c_X3_clear E (ad2 h q7) zf) cs_X3_15 rfl [0] [] 1 rfl rfl (by decide) [] rfl rfl rfl rfl (by simp only [List.map_cons, List.map_nil, fsSh]) rfl rfl rfl rfl (Nat.le_of_ble_eq_true rfl) dX3_init_13 rfl ?_ ⟨Nat.le_of_ble_eq_true rfl, Nat.le_of_ble_eq_true rfl⟩
  exact g_vretN X hx rfl (List.Perm.refl _) ⟨rfl, ad2 h q7, rfl, List.Perm.of_eq (by simp)⟩ ⟨Nat.le_of_ble_eq_true rfl, Nat.le_of_ble_eq_true rfl⟩ dX3_init_16
set_option maxHeartbeats 4000000 in
set_option maxRecDepth 100000 in
theorem c_X7_init (E : GE) (q : Nat × Nat) (h : Nat) : CN E q n_X7_init [.ref h] ([wOb h 7 [.int 0, .int 0, .int 0, .int 0, .int 0, .int 0]].flatten) (fun v w => v = none ∧ w = wTr E h (0, 0, 1, 0, 0, 0)) := by
  refine CN.intro (by decide +kernel) (Nat.le_of_ble_eq_true rfl) (fun Γ X Z hx => ?_)
  refine GG.lv [0] (lv' := [(0, .ref h)]) rfl ?_
  refine g_aload_n X 0 dX7_init_0 rfl ?_
  refine g_objInit X is_X7_3 oi_im oi_co ⟨by decide, Nat.le_of_ble_eq_true rfl⟩ dX7_init_1 ?_
  refine g_aload_n X 0 dX7_init_4 rfl ?_
  refine g_iconst (v := nI 1) X dX7_init_5 rfl ?_
  refine g_putf (ws' := [wOb h 7 [.int 0, .int 0, .int (nI 1), .int 0, .int 0, .int 0]].flatten) X ps_X7_9 0 rfl rfl rfl (Nat.le_of_ble_eq_true rfl) rfl dX7_init_6 ?_
  exact g_vretN X hx rfl (List.Perm.refl _) ⟨rfl, rfl⟩ ⟨Nat.le_of_ble_eq_true rfl, Nat.le_of_ble_eq_true rfl⟩ dX7_init_9
