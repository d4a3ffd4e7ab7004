set_option maxHeartbeats 4000000 in
set_option maxRecDepth 100000 in
theorem c_X5_init (E : GE) (q : Nat × Nat) (h : Nat) : CN E q n_X5_init [.ref h] ([wOb h 5 [.null, .int 0]].flatten) (fun v w => v = none ∧ ∃ a : Nat → Nat, (a 0 = h ∧ w.Perm (wTx E a (zf, 0)))) := by
  refine CN.intro (by decide +kernel) (Nat.le_of_ble_eq_true rfl) (fun Γ X Z hx => ?_)
  refine GG.lv [0] (lv' := [(0, .ref h)]) rfl ?_
  refine g_aload_n X 0 dX5_init_0 rfl ?_
  refine g_objInit X is_X5_3 oi_im oi_co ⟨by decide, Nat.le_of_ble_eq_true rfl⟩ dX5_init_1 ?_
  refine g_aload_n X 0 dX5_init_4 rfl ?_
  refine g_sipush (v := nI 200) X dX5_init_5 rfl ?_
  refine g_newC (S := [wOb h 5 [.null, .int 0]]) (N := 200) X ac_char rfl (by decide) (Nat.le_of_ble_eq_true rfl) (Nat.le_of_ble_eq_true rfl) dX5_init_8 (fun q8 => ?_)
  refine GG.eq (ws' := [wOb h 5 [.null, .int 0], wCh E q8 200 zf].flatten) rfl rfl ?_
  refine g_putF (ws' := [wOb h 5 [.ref q8, .int 0], wCh E q8 200 zf].flatten) X ps_X5_9 rfl 0 rfl rfl rfl (Nat.le_of_ble_eq_true rfl) rfl dX5_init_10 ?_
  exact g_vretN X hx rfl (List.Perm.refl _) ⟨rfl, adL [h, q8], rfl, List.Perm.of_eq (rfl)⟩ ⟨Nat.le_of_ble_eq_true rfl, Nat.le_of_ble_eq_true rfl⟩ dX5_init_13
set_option maxHeartbeats 4000000 in
set_option maxRecDepth 100000 in
theorem c_X2_init (E : GE) (q : Nat × Nat) (h : Nat) : CN E q n_X2_init [.ref h] ([wOb h 2 [.null, .int 0]].flatten) (fun v w => v = none ∧ ∃ a : Nat → Nat, (a 0 = h ∧ w.Perm (wRd E a (zf, 0)))) := by
  refine CN.intro (by decide +kernel) (Nat.le_of_ble_eq_true rfl) (fun Γ X Z hx => ?_)
  refine GG.lv [0] (lv' := [(0, .ref h)]) rfl ?_
  refine g_aload_n X 0 dX2_init_0 rfl ?_
  refine g_objInit X is_X2_3 oi_im oi_co ⟨by decide, Nat.le_of_ble_eq_true rfl⟩ dX2_init_1 ?_
  refine g_aload_n X 0 dX2_init_4 rfl ?_
  refine g_iconst (v := nI 3) X dX2_init_5 rfl ?_
  refine g_newI (S := [wOb h 2 [.null, .int 0]]) (N := 3) X ac_int rfl (by decide) (Nat.le_of_ble_eq_true rfl) (Nat.le_of_ble_eq_true rfl) dX2_init_6 (fun q6 => ?_)
  refine GG.eq (ws' := [wOb h 2 [.null, .int 0], wAr E q6 3 zf].flatten) rfl rfl ?_
  refine g_putF (ws' := [wOb h 2 [.ref q6, .int 0], wAr E q6 3 zf].flatten) X ps_X2_9 rfl 0 rfl rfl rfl (Nat.le_of_ble_eq_true rfl) rfl dX2_init_8 ?_
  exact g_vretN X hx rfl (List.Perm.refl _) ⟨rfl, adL [h, q6], rfl, List.Perm.of_eq (rfl)⟩ ⟨Nat.le_of_ble_eq_true rfl, Nat.le_of_ble_eq_true rfl⟩ dX2_init_11
set_option maxHeartbeats 4000000 in
set_option maxRecDepth 100000 in
theorem c_X8_init (E : GE) (q : Nat × Nat) (h : Nat) : CN E q n_X8_init [.ref h] ([wOb h 8 [.null, .int 0]].flatten) (fun v w => v = none ∧ ∃ a : Nat → Nat, (a 0 = h ∧ w.Perm (wWy E a (zf, 0)))) := by
  refine CN.intro (by decide +kernel) (Nat.le_of_ble_eq_true rfl) (fun Γ X Z hx => ?_)
  refine GG.lv [0] (lv' := [(0, .ref h)]) rfl ?_
  refine g_aload_n X 0 dX8_init_0 rfl ?_
  refine g_objInit X is_X8_3 oi_im oi_co ⟨by decide, Nat.le_of_ble_eq_true rfl⟩ dX8_init_1 ?_
  refine g_aload_n X 0 dX8_init_4 rfl ?_
  refine g_iconst (v := nI 4) X dX8_init_5 rfl ?_
  refine g_newI (S := [wOb h 8 [.null, .int 0]]) (N := 4) X ac_int rfl (by decide) (Nat.le_of_ble_eq_true rfl) (Nat.le_of_ble_eq_true rfl) dX8_init_6 (fun q6 => ?_)
  refine GG.eq (ws' := [wOb h 8 [.null, .int 0], wAr E q6 4 zf].flatten) rfl rfl ?_
  refine g_putF (ws' := [wOb h 8 [.ref q6, .int 0], wAr E q6 4 zf].flatten) X ps_X8_9 rfl 0 rfl rfl rfl (Nat.le_of_ble_eq_true rfl) rfl dX8_init_8 ?_
  exact g_vretN X hx rfl (List.Perm.refl _) ⟨rfl, adL [h, q6], rfl, List.Perm.of_eq (rfl)⟩ ⟨Nat.le_of_ble_eq_true rfl, Nat.le_of_ble_eq_true rfl⟩ dX8_init_11
set_option maxHeartbeats 4000000 in
set_option maxRecDepth 100000 in
theorem c_X4_init (E : GE) (q : Nat × Nat) (h : Nat) : CN E q n_X4_init [.ref h] ([wOb h 4 [.null, .null, .null, .null, .null, .null, .int 0, .int 0]].flatten) (fun v w => v = none ∧ ∃ a : Nat → Nat, (a 0 = h ∧ w.Perm (wSv E a sv0))) := by
  refine CN.intro (by decide +kernel) (Nat.le_of_ble_eq_true rfl) (fun Γ X Z hx => ?_)
  refine GG.lv [0] (lv' := [(0, .ref h)]) rfl ?_
  refine g_aload_n X 0 dX4_init_0 rfl ?_
  refine g_objInit X is_X4_3 oi_im oi_co ⟨by decide, Nat.le_of_ble_eq_true rfl⟩ dX4_init_1 ?_
  refine g_aload_n X 0 dX4_init_4 rfl ?_
  refine g_bipush (v := nI 8) X dX4_init_5 rfl ?_
  refine g_newI (S := [wOb h 4 [.null, .null, .null, .null, .null, .null, .int 0, .int 0]]) (N := 8) X ac_int rfl (by decide) (Nat.le_of_ble_eq_true rfl) (Nat.le_of_ble_eq_true rfl) dX4_init_7 (fun q7 => ?_)
  refine GG.eq (ws' := [wOb h 4 [.null, .null, .null, .null, .null, .null, .int 0, .int 0], wAr E q7 8 zf].flatten) rfl rfl ?_
  refine g_putF (ws' := [wOb h 4 [.ref q7, .null, .null, .null, .null, .null, .int 0, .int 0], wAr E q7 8 zf].flatten) X ps_X4_9 rfl 0 rfl rfl rfl (Nat.le_of_ble_eq_true rfl) rfl dX4_init_9 ?_
  refine g_aload_n X 0 dX4_init_12 rfl ?_
  refine g_bipush (v := nI 8) X dX4_init_13 rfl ?_
  refine g_newI (S := [wOb h 4 [.ref q7, .null, .null, .null, .null, .null, .int 0, .int 0], wAr E q7 8 zf]) (N := 8) X ac_int rfl (by decide) (Nat.le_of_ble_eq_true rfl) (Nat.le_of_ble_eq_true rfl) dX4_init_15 (fun q15 => ?_)
  refine GG.eq (ws' := [wOb h 4 [.ref q7, .null, .null, .null, .null, .null, .int 0, .int 0], wAr E q7 8 zf, wAr E q15 8 zf].flatten) rfl rfl ?_
  refine g_putF (ws' := [wOb h 4 [.ref q7, .ref q15, .null, .null, .null, .null, .int 0, .int 0], wAr E q7 8 zf, wAr E q15 8 zf].flatten) X ps_X4_15 rfl 0 rfl rfl rfl (Nat.le_of_ble_eq_true rfl) rfl dX4_init_17 ?_
  refine g_aload_n X 0 dX4_init_20 rfl ?_
  refine g_bipush (v := nI 8) X dX4_init_21 rfl ?_
  refine g_newI (S := [wOb h 4 [.ref q7, .ref q15, .null, .null, .null, .null, .int 0, .int 0], wAr E q7 8 zf, wAr E q15 8 zf]) (N := 8) X ac_int rfl (by decide) (Nat.le_of_ble_eq_true rfl) (Nat.le_of_ble_eq_true rfl) dX4_init_23 (fun q23 => ?_)
  refine GG.eq (ws' := [wOb h 4 [.ref q7, .ref q15, .null, .null, .null, .null, .int 0, .int 0], wAr E q7 8 zf, wAr E q15 8 zf, wAr E q23 8 zf].flatten) rfl rfl ?_
  refine g_putF (ws' := [wOb h 4 [.ref q7, .ref q15, .ref q23, .null, .null, .null, .int 0, .int 0], wAr E q7 8 zf, wAr E q15 8 zf, wAr E q23 8 zf].flatten) X ps_X4_18 rfl 0 rfl rfl rfl (Nat.le_of_ble_eq_true rfl) rfl dX4_init_25 ?_
  refine g_aload_n X 0 dX4_init_28 rfl ?_
  refine g_bipush (v := nI 8) X dX4_init_29 rfl ?_
  refine g_newI (S := [wOb h 4 [.ref q7, .ref q15, .ref q23, .null, .null, .null, .int 0, .int 0], wAr E q7 8 zf, wAr E q15 8 zf, wAr E q23 8 zf]) (N := 8) X ac_int rfl (by decide) (Nat.le_of_ble_eq_true rfl) (Nat.le_of_ble_eq_true rfl) dX4_init_31 (fun q31 => ?_)
  refine GG.eq (ws' := [wOb h 4 [.ref q7, .ref q15, .ref q23, .null, .null, .null, .int 0, .int 0], wAr E q7 8 zf, wAr E q15 8 zf, wAr E q23 8 zf, wAr E q31 8 zf].flatten) rfl rfl ?_
  refine g_putF (ws' := [wOb h 4 [.ref q7, .ref q15, .ref q23, .ref q31, .null, .null, .int 0, .int 0], wAr E q7 8 zf, wAr E q15 8 zf, wAr E q23 8 zf, wAr E q31 8 zf].flatten) X ps_X4_21 rfl 0 rfl rfl rfl (Nat.le_of_ble_eq_true rfl) rfl dX4_init_33 ?_
  refine g_aload_n X 0 dX4_init_36 rfl ?_
  refine g_bipush (v := nI 8) X dX4_init_37 rfl ?_
  refine g_newI (S := [wOb h 4 [.ref q7, .ref q15, .ref q23, .ref q31, .null, .null, .int 0, .int 0], wAr E q7 8 zf, wAr E q15 8 zf, wAr E q23 8 zf, wAr E q31 8 zf]) (N := 8) X ac_int rfl (by decide) (Nat.le_of_ble_eq_true rfl) (Nat.le_of_ble_eq_true rfl) dX4_init_39 (fun q39 => ?_)
  refine GG.eq (ws' := [wOb h 4 [.ref q7, .ref q15, .ref q23, .ref q31, .null, .null, .int 0, .int 0], wAr E q7 8 zf, wAr E q15 8 zf, wAr E q23 8 zf, wAr E q31 8 zf, wAr E q39 8 zf].flatten) rfl rfl ?_
  refine g_putF (ws' := [wOb h 4 [.ref q7, .ref q15, .ref q23, .ref q31, .ref q39, .null, .int 0, .int 0], wAr E q7 8 zf, wAr E q15 8 zf, wAr E q23 8 zf, wAr E q31 8 zf, wAr E q39 8 zf].flatten) X ps_X4_24 rfl 0 rfl rfl rfl (Nat.le_of_ble_eq_true rfl) rfl dX4_init_41 ?_
  refine g_aload_n X 0 dX4_init_44 rfl ?_
  refine g_bipush (v := nI 8) X dX4_init_45 rfl ?_
  refine g_newI (S := [wOb h 4 [.ref q7, .ref q15, .ref q23, .ref q31, .ref q39, .null, .int 0, .int 0], wAr E q7 8 zf, wAr E q15 8 zf, wAr E q23 8 zf, wAr E q31 8 zf, wAr E q39 8 zf]) (N := 8) X ac_int rfl (by decide) (Nat.le_of_ble_eq_true rfl) (Nat.le_of_ble_eq_true rfl) dX4_init_47 (fun q47 => ?_)
  refine GG.eq (ws' := [wOb h 4 [.ref q7, .ref q15, .ref q23, .ref q31, .ref q39, .null, .int 0, .int 0], wAr E q7 8 zf, wAr E q15 8 zf, wAr E q23 8 zf, wAr E q31 8 zf, wAr E q39 8 zf, wAr E q47 8 zf].flatten) rfl rfl ?_
  refine g_putF (ws' := [wOb h 4 [.ref q7, .ref q15, .ref q23, .ref q31, .ref q39, .ref q47, .int 0, .int 0], wAr E q7 8 zf, wAr E q15 8 zf, wAr E q23 8 zf, wAr E q31 8 zf, wAr E q39 8 zf, wAr E q47 8 zf].flatten) X ps_X4_27 rfl 0 rfl rfl rfl (Nat.le_of_ble_eq_true rfl) rfl dX4_init_49 ?_
  exact g_vretN X hx rfl (List.Perm.refl _) ⟨rfl, adL [h, q7, q15, q23, q31, q39, q47], rfl, List.Perm.of_eq (rfl)⟩ ⟨Nat.le_of_ble_eq_true rfl, Nat.le_of_ble_eq_true rfl⟩ dX4_init_52
set_option maxHeartbeats 4000000 in
set_option maxRecDepth 100000 in
theorem c_X3_init (E : GE) (q : Nat × Nat) (h : Nat) : CN E q n_X3_init [.ref h] ([wOb h 3 [.null]].flatten) (fun v w => v = none ∧ ∃ a : Nat → Nat, (a 0 = h ∧ w.Perm (wSh E a (clrF zf 12)))) := by
  refine CN.intro (by decide +kernel) (Nat.le_of_ble_eq_true rfl) (fun Γ X Z hx => ?_)
  refine GG.lv [0] (lv' := [(0, .ref h)]) rfl ?_
  refine g_aload_n X 0 dX3_init_0 rfl ?_
  refine g_objInit X is_X3_3 oi_im oi_co ⟨by decide, Nat.le_of_ble_eq_true rfl⟩ dX3_init_1 ?_
  refine g_aload_n X 0 dX3_init_4 rfl ?_
  refine g_bipush (v := nI 12) X dX3_init_5 rfl ?_
  refine g_newI (S := [wOb h 3 [.null]]) (N := 12) X ac_int rfl (by decide) (Nat.le_of_ble_eq_true rfl) (Nat.le_of_ble_eq_true rfl) dX3_init_7 (fun q7 => ?_)
  refine GG.eq (ws' := [wOb h 3 [.null], wAr E q7 12 zf].flatten) rfl rfl ?_
  refine g_putF (ws' := [wOb h 3 [.ref q7], wAr E q7 12 zf].flatten) X ps_X3_9 rfl 0 rfl rfl rfl (Nat.le_of_ble_eq_true rfl) rfl dX3_init_9 ?_
  refine g_aload_n X 0 dX3_init_12 rfl ?_
  refine GG.eq (ws' := [wSh E (ad2 h q7) zf].flatten) rfl rfl ?_
  refine g_callV (S' := [wSh E (ad2 h q7) (clrF zf 12)]) (st2 := []) (q0 := 0) X (c_X3_clear E (ad2 h q7) zf) cs_X3_15 rfl [0] [] 1 rfl rfl (by decide) [] rfl rfl rfl rfl (by simp only [List.map_cons, List.map_nil, fsSh]) rfl rfl rfl rfl (Nat.le_of_ble_eq_true rfl) dX3_init_13 rfl ?_ ⟨Nat.le_of_ble_eq_true rfl, Nat.le_of_ble_eq_true rfl⟩
  exact g_vretN X hx rfl (List.Perm.refl _) ⟨rfl, ad2 h q7, rfl, List.Perm.of_eq (by simp)⟩ ⟨Nat.le_of_ble_eq_true rfl, Nat.le_of_ble_eq_true rfl⟩ dX3_init_16
set_option maxHeartbeats 4000000 in
set_option maxRecDepth 100000 in
theorem c_X7_init (E : GE) (q : Nat × Nat) (h : Nat) : CN E q n_X7_init [.ref h] ([wOb h 7 [.int 0, .int 0, .int 0, .int 0, .int 0, .int 0]].flatten) (fun v w => v = none ∧ w.Perm (wTr E h (0, 0, 1, 0, 0, 0))) := by
  refine CN.intro (by decide +kernel) (Nat.le_of_ble_eq_true rfl) (fun Γ X Z hx => ?_)
  refine GG.lv [0] (lv' := [(0, .ref h)]) rfl ?_
  refine g_aload_n X 0 dX7_init_0 rfl ?_
  refine g_objInit X is_X7_3 oi_im oi_co ⟨by decide, Nat.le_of_ble_eq_true rfl⟩ dX7_init_1 ?_
  refine g_aload_n X 0 dX7_init_4 rfl ?_
  refine g_iconst (v := nI 1) X dX7_init_5 rfl ?_
  refine g_putf (ws' := [wOb h 7 [.int 0, .int 0, .int (nI 1), .int 0, .int 0, .int 0]].flatten) X ps_X7_9 0 rfl rfl rfl (Nat.le_of_ble_eq_true rfl) rfl dX7_init_6 ?_
  exact g_vretN X hx rfl (List.Perm.refl _) ⟨rfl, List.Perm.of_eq rfl⟩ ⟨Nat.le_of_ble_eq_true rfl, Nat.le_of_ble_eq_true rfl⟩ dX7_init_9
set_option maxHeartbeats 4000000 in
set_option maxRecDepth 100000 in
theorem c_X6_init (E : GE) (q : Nat × Nat) (h : Nat) : CN E q n_X6_init [.ref h] ([wOb h 6 [.null, .null, .int 0, .int 0]].flatten) (fun v w => v = none ∧ ∃ a b : Nat → Nat, w.Perm (wTo3 E h a b tv0)) := by
  refine CN.intro (by decide +kernel) (Nat.le_of_ble_eq_true rfl) (fun Γ X Z hx => ?_)
  refine GG.lv [0] (lv' := [(0, .ref h)]) rfl ?_
  refine g_aload_n X 0 dX6_init_0 rfl ?_
  refine g_objInit X is_X6_3 oi_im oi_co ⟨by decide, Nat.le_of_ble_eq_true rfl⟩ dX6_init_1 ?_
  refine g_aload_n X 0 dX6_init_4 rfl ?_
  refine g_new (S := [wOb h 6 [.null, .null, .int 0, .int 0]]) X nw_X6_9 (Nat.le_of_ble_eq_true rfl) (Nat.le_of_ble_eq_true rfl) dX6_init_5 (fun q5 => ?_)
  refine GG.eq (ws' := [wOb h 6 [.null, .null, .int 0, .int 0], wOb q5 4 [.null, .null, .null, .null, .null, .null, .int 0, .int 0]].flatten) rfl rfl ?_
  refine g_dup X dX6_init_8 rfl ?_
  refine g_callI (S := [wOb h 6 [.null, .null, .int 0, .int 0], wOb q5 4 [.null, .null, .null, .null, .null, .null, .int 0, .int 0]]) (C := [wOb q5 4 [.null, .null, .null, .null, .null, .null, .int 0, .int 0]]) (R := [wOb h 6 [.null, .null, .int 0, .int 0]]) (As := []) (rest := [.ref q5, .ref h]) X Z (c_X4_init E q q5) is_X6_11 rfl [1] [0] 2 rfl (by decide) rfl rfl rfl rfl (Nat.le_of_ble_eq_true rfl) dX6_init_9 ⟨Nat.le_of_ble_eq_true rfl, Nat.le_of_ble_eq_true rfl⟩ (fun v9 w9 h9 => ?_)
  obtain ⟨rfl, a9, rfl, hp9⟩ := h9
  refine GG.perm (ws' := [wOb h 6 [.null, .null, .int 0, .int 0], wSv E a9 sv0].flatten) (pm_app (R := [wOb h 6 [.null, .null, .int 0, .int 0]]) hp9 (by simp only [List.flatten_cons, List.flatten_nil, List.append_nil, List.append_assoc, List.cons_append, List.nil_append])) ?_
  refine GG.eq (st' := [.ref (a9 0), .ref h]) rfl rfl ?_
  refine g_putF (ws' := [wOb h 6 [.ref (a9 0), .null, .int 0, .int 0], wSv E a9 sv0].flatten) X ps_X6_12 rfl 0 rfl rfl rfl (Nat.le_of_ble_eq_true rfl) rfl dX6_init_12 ?_
  refine g_aload_n X 0 dX6_init_15 rfl ?_
  refine g_new (S := [wOb h 6 [.ref (a9 0), .null, .int 0, .int 0], wSv E a9 sv0]) X nw_X6_9 (Nat.le_of_ble_eq_true rfl) (Nat.le_of_ble_eq_true rfl) dX6_init_16 (fun q16 => ?_)
  refine GG.eq (ws' := [wOb h 6 [.ref (a9 0), .null, .int 0, .int 0], wSv E a9 sv0, wOb q16 4 [.null, .null, .null, .null, .null, .null, .int 0, .int 0]].flatten) rfl rfl ?_
  refine g_dup X dX6_init_19 rfl ?_
  refine g_callI (S := [wOb h 6 [.ref (a9 0), .null, .int 0, .int 0], wSv E a9 sv0, wOb q16 4 [.null, .null, .null, .null, .null, .null, .int 0, .int 0]]) (C := [wOb q16 4 [.null, .null, .null, .null, .null, .null, .int 0, .int 0]]) (R := [wOb h 6 [.ref (a9 0), .null, .int 0, .int 0], wSv E a9 sv0]) (As := []) (rest := [.ref q16, .ref h]) X Z (c_X4_init E q q16) is_X6_11 rfl [2] [0, 1] 3 rfl (by decide) rfl rfl rfl rfl (Nat.le_of_ble_eq_true rfl) dX6_init_20 ⟨Nat.le_of_ble_eq_true rfl, Nat.le_of_ble_eq_true rfl⟩ (fun v20 w20 h20 => ?_)
  obtain ⟨rfl, a20, rfl, hp20⟩ := h20
  refine GG.perm (ws' := [wOb h 6 [.ref (a9 0), .null, .int 0, .int 0], wSv E a9 sv0, wSv E a20 sv0].flatten) (pm_app (R := [wOb h 6 [.ref (a9 0), .null, .int 0, .int 0], wSv E a9 sv0]) hp20 (by simp only [List.flatten_cons, List.flatten_nil, List.append_nil, List.append_assoc, List.cons_append, List.nil_append])) ?_
  refine GG.eq (st' := [.ref (a20 0), .ref h]) rfl rfl ?_
  refine g_putF (ws' := [wOb h 6 [.ref (a9 0), .ref (a20 0), .int 0, .int 0], wSv E a9 sv0, wSv E a20 sv0].flatten) X ps_X6_18 rfl 0 rfl rfl rfl (Nat.le_of_ble_eq_true rfl) rfl dX6_init_23 ?_
  exact g_vretN X hx rfl (List.Perm.refl _) ⟨rfl, a9, a20, List.Perm.of_eq rfl⟩ ⟨Nat.le_of_ble_eq_true rfl, Nat.le_of_ble_eq_true rfl⟩ dX6_init_26
theorem sg_re {S S' : List va_W} (is : List Nat) (n : Nat) (hn : S.length = n) (hp : is.Perm (List.range n)) (h : sgP S is = S') : S.flatten.Perm S'.flatten := by
  subst h
  have := sgP_perm (S := S) (is := is) (js := []) hn (by rw [List.append_nil]; exact hp)
  rw [show (sgP S []).flatten = [] from rfl, List.append_nil] at this
  exact this
set_option maxHeartbeats 4000000 in
set_option maxRecDepth 100000 in
theorem c_X0_init (E : GE) (q : Nat × Nat) (h : Nat) : CN E q n_X0_init [.ref h] ([wOb h 0 [.null, .null, .null, .null, .null, .null, .int 0]].flatten) (fun v w => v = none ∧ ∃ m rb rc : Nat → Nat, (m 0 = h ∧ w.Perm ([wMo E m rb rc 0, wRw E rb rz, wRw E rc rz, wAr E (m 3) 8 zf, wAr E (m 4) 8 zf, wAr E (m 5) 8 zf, wAr E (m 6) 8 zf].flatten))) := by
  refine CN.intro (by decide +kernel) (Nat.le_of_ble_eq_true rfl) (fun Γ X Z hx => ?_)
  refine GG.lv [0] (lv' := [(0, .ref h)]) rfl ?_
  refine g_aload_n X 0 dX0_init_0 rfl ?_
  refine g_objInit X is_X0_3 oi_im oi_co ⟨by decide, Nat.le_of_ble_eq_true rfl⟩ dX0_init_1 ?_
  refine g_aload_n X 0 dX0_init_4 rfl ?_
  refine g_bipush (v := nI 8) X dX0_init_5 rfl ?_
  refine g_bipush (v := nI 8) X dX0_init_7 rfl ?_
  refine g_multi (S := [wOb h 0 [.null, .null, .null, .null, .null, .null, .int 0]]) X Z cl_X0_9 ac_int (Nat.le_of_ble_eq_true rfl) (Nat.le_of_ble_eq_true rfl) dX0_init_9 (fun q9 => ?_)
  refine GG.eq (ws' := [wOb h 0 [.null, .null, .null, .null, .null, .null, .int 0], wRa E q9 (fun j => q9 + 1 + j), wRw E (fun j => q9 + 1 + j) rz].flatten) rfl rfl ?_
  refine g_putF (ws' := [wOb h 0 [.ref q9, .null, .null, .null, .null, .null, .int 0], wRa E q9 (fun j => q9 + 1 + j), wRw E (fun j => q9 + 1 + j) rz].flatten) X ps_X0_11 rfl 0 rfl rfl rfl (Nat.le_of_ble_eq_true rfl) rfl dX0_init_13 ?_
  refine g_aload_n X 0 dX0_init_16 rfl ?_
  refine g_bipush (v := nI 8) X dX0_init_17 rfl ?_
  refine g_bipush (v := nI 8) X dX0_init_19 rfl ?_
  refine g_multi (S := [wOb h 0 [.ref q9, .null, .null, .null, .null, .null, .int 0], wRa E q9 (fun j => q9 + 1 + j), wRw E (fun j => q9 + 1 + j) rz]) X Z cl_X0_9 ac_int (Nat.le_of_ble_eq_true rfl) (Nat.le_of_ble_eq_true rfl) dX0_init_21 (fun q21 => ?_)
  refine GG.eq (ws' := [wOb h 0 [.ref q9, .null, .null, .null, .null, .null, .int 0], wRa E q9 (fun j => q9 + 1 + j), wRw E (fun j => q9 + 1 + j) rz, wRa E q21 (fun j => q21 + 1 + j), wRw E (fun j => q21 + 1 + j) rz].flatten) rfl rfl ?_
  refine g_putF (ws' := [wOb h 0 [.ref q9, .ref q21, .null, .null, .null, .null, .int 0], wRa E q9 (fun j => q9 + 1 + j), wRw E (fun j => q9 + 1 + j) rz, wRa E q21 (fun j => q21 + 1 + j), wRw E (fun j => q21 + 1 + j) rz].flatten) X ps_X0_16 rfl 0 rfl rfl rfl (Nat.le_of_ble_eq_true rfl) rfl dX0_init_25 ?_
  refine g_aload_n X 0 dX0_init_28 rfl ?_
  refine g_bipush (v := nI 8) X dX0_init_29 rfl ?_
  refine g_newI (S := [wOb h 0 [.ref q9, .ref q21, .null, .null, .null, .null, .int 0], wRa E q9 (fun j => q9 + 1 + j), wRw E (fun j => q9 + 1 + j) rz, wRa E q21 (fun j => q21 + 1 + j), wRw E (fun j => q21 + 1 + j) rz]) (N := 8) X ac_int rfl (by decide) (Nat.le_of_ble_eq_true rfl) (Nat.le_of_ble_eq_true rfl) dX0_init_31 (fun q31 => ?_)
  refine GG.eq (ws' := [wOb h 0 [.ref q9, .ref q21, .null, .null, .null, .null, .int 0], wRa E q9 (fun j => q9 + 1 + j), wRw E (fun j => q9 + 1 + j) rz, wRa E q21 (fun j => q21 + 1 + j), wRw E (fun j => q21 + 1 + j) rz, wAr E q31 8 zf].flatten) rfl rfl ?_
  refine g_putF (ws' := [wOb h 0 [.ref q9, .ref q21, .ref q31, .null, .null, .null, .int 0], wRa E q9 (fun j => q9 + 1 + j), wRw E (fun j => q9 + 1 + j) rz, wRa E q21 (fun j => q21 + 1 + j), wRw E (fun j => q21 + 1 + j) rz, wAr E q31 8 zf].flatten) X ps_X0_19 rfl 0 rfl rfl rfl (Nat.le_of_ble_eq_true rfl) rfl dX0_init_33 ?_
  refine g_aload_n X 0 dX0_init_36 rfl ?_
  refine g_bipush (v := nI 8) X dX0_init_37 rfl ?_
  refine g_newI (S := [wOb h 0 [.ref q9, .ref q21, .ref q31, .null, .null, .null, .int 0], wRa E q9 (fun j => q9 + 1 + j), wRw E (fun j => q9 + 1 + j) rz, wRa E q21 (fun j => q21 + 1 + j), wRw E (fun j => q21 + 1 + j) rz, wAr E q31 8 zf]) (N := 8) X ac_int rfl (by decide) (Nat.le_of_ble_eq_true rfl) (Nat.le_of_ble_eq_true rfl) dX0_init_39 (fun q39 => ?_)
  refine GG.eq (ws' := [wOb h 0 [.ref q9, .ref q21, .ref q31, .null, .null, .null, .int 0], wRa E q9 (fun j => q9 + 1 + j), wRw E (fun j => q9 + 1 + j) rz, wRa E q21 (fun j => q21 + 1 + j), wRw E (fun j => q21 + 1 + j) rz, wAr E q31 8 zf, wAr E q39 8 zf].flatten) rfl rfl ?_
  refine g_putF (ws' := [wOb h 0 [.ref q9, .ref q21, .ref q31, .ref q39, .null, .null, .int 0], wRa E q9 (fun j => q9 + 1 + j), wRw E (fun j => q9 + 1 + j) rz, wRa E q21 (fun j => q21 + 1 + j), wRw E (fun j => q21 + 1 + j) rz, wAr E q31 8 zf, wAr E q39 8 zf].flatten) X ps_X0_23 rfl 0 rfl rfl rfl (Nat.le_of_ble_eq_true rfl) rfl dX0_init_41 ?_
  refine g_aload_n X 0 dX0_init_44 rfl ?_
  refine g_bipush (v := nI 8) X dX0_init_45 rfl ?_
  refine g_newI (S := [wOb h 0 [.ref q9, .ref q21, .ref q31, .ref q39, .null, .null, .int 0], wRa E q9 (fun j => q9 + 1 + j), wRw E (fun j => q9 + 1 + j) rz, wRa E q21 (fun j => q21 + 1 + j), wRw E (fun j => q21 + 1 + j) rz, wAr E q31 8 zf, wAr E q39 8 zf]) (N := 8) X ac_int rfl (by decide) (Nat.le_of_ble_eq_true rfl) (Nat.le_of_ble_eq_true rfl) dX0_init_47 (fun q47 => ?_)
  refine GG.eq (ws' := [wOb h 0 [.ref q9, .ref q21, .ref q31, .ref q39, .null, .null, .int 0], wRa E q9 (fun j => q9 + 1 + j), wRw E (fun j => q9 + 1 + j) rz, wRa E q21 (fun j => q21 + 1 + j), wRw E (fun j => q21 + 1 + j) rz, wAr E q31 8 zf, wAr E q39 8 zf, wAr E q47 8 zf].flatten) rfl rfl ?_
  refine g_putF (ws' := [wOb h 0 [.ref q9, .ref q21, .ref q31, .ref q39, .ref q47, .null, .int 0], wRa E q9 (fun j => q9 + 1 + j), wRw E (fun j => q9 + 1 + j) rz, wRa E q21 (fun j => q21 + 1 + j), wRw E (fun j => q21 + 1 + j) rz, wAr E q31 8 zf, wAr E q39 8 zf, wAr E q47 8 zf].flatten) X ps_X0_26 rfl 0 rfl rfl rfl (Nat.le_of_ble_eq_true rfl) rfl dX0_init_49 ?_
  refine g_aload_n X 0 dX0_init_52 rfl ?_
  refine g_bipush (v := nI 8) X dX0_init_53 rfl ?_
  refine g_newI (S := [wOb h 0 [.ref q9, .ref q21, .ref q31, .ref q39, .ref q47, .null, .int 0], wRa E q9 (fun j => q9 + 1 + j), wRw E (fun j => q9 + 1 + j) rz, wRa E q21 (fun j => q21 + 1 + j), wRw E (fun j => q21 + 1 + j) rz, wAr E q31 8 zf, wAr E q39 8 zf, wAr E q47 8 zf]) (N := 8) X ac_int rfl (by decide) (Nat.le_of_ble_eq_true rfl) (Nat.le_of_ble_eq_true rfl) dX0_init_55 (fun q55 => ?_)
  refine GG.eq (ws' := [wOb h 0 [.ref q9, .ref q21, .ref q31, .ref q39, .ref q47, .null, .int 0], wRa E q9 (fun j => q9 + 1 + j), wRw E (fun j => q9 + 1 + j) rz, wRa E q21 (fun j => q21 + 1 + j), wRw E (fun j => q21 + 1 + j) rz, wAr E q31 8 zf, wAr E q39 8 zf, wAr E q47 8 zf, wAr E q55 8 zf].flatten) rfl rfl ?_
  refine g_putF (ws' := [wOb h 0 [.ref q9, .ref q21, .ref q31, .ref q39, .ref q47, .ref q55, .int 0], wRa E q9 (fun j => q9 + 1 + j), wRw E (fun j => q9 + 1 + j) rz, wRa E q21 (fun j => q21 + 1 + j), wRw E (fun j => q21 + 1 + j) rz, wAr E q31 8 zf, wAr E q39 8 zf, wAr E q47 8 zf, wAr E q55 8 zf].flatten) X ps_X0_29 rfl 0 rfl rfl rfl (Nat.le_of_ble_eq_true rfl) rfl dX0_init_57 ?_
  exact g_vretN X hx rfl (List.Perm.refl _) ⟨rfl, adL [h, q9, q21, q31, q39, q47, q55], (fun j => q9 + 1 + j), (fun j => q21 + 1 + j), rfl, (sg_re [0, 1, 3, 2, 4, 5, 6, 7, 8] 9 rfl (by decide) rfl).trans (List.Perm.of_eq rfl)⟩ ⟨Nat.le_of_ble_eq_true rfl, Nat.le_of_ble_eq_true rfl⟩ dX0_init_60
