set_option maxHeartbeats 4000000 in
set_option maxRecDepth 100000 in
theorem c_X2_numbersOf (E : GE) (l : Int32) : CT E m_X2_numbersOf [.int l] ([]) (some (.int (nI (wantN l)))) ([]) := by
  refine CT.intro (by decide +kernel) (Nat.le_of_ble_eq_true rfl) (fun Γ X hx => ?_)
  refine GG.lv [0] (lv' := [(0, .int l)]) rfl ?_
  refine g_iload_n X 0 dX2_numbersOf_0 rfl ?_
  by_cases w_1_97 : l = nI 97
  · subst w_1_97
    refine g_tsIn (tgt := 98) X 97 dX2_numbersOf_1 rfl (by decide) (by decide) rfl (by decide) ?_
    refine g_iconst (v := (nI 3)) X dX2_numbersOf_98 rfl ?_
    exact g_iretv (r := (nI 3)) X hx rfl (by first | rfl | simp [wantN]) (by rfl) dX2_numbersOf_99
  by_cases w_1_98 : l = nI 98
  · subst w_1_98
    refine g_tsIn (tgt := 98) X 98 dX2_numbersOf_1 rfl (by decide) (by decide) rfl (by decide) ?_
    refine g_iconst (v := (nI 3)) X dX2_numbersOf_98 rfl ?_
    exact g_iretv (r := (nI 3)) X hx rfl (by first | rfl | simp [wantN]) (by rfl) dX2_numbersOf_99
  by_cases w_1_110 : l = nI 110
  · subst w_1_110
    refine g_tsIn (tgt := 96) X 110 dX2_numbersOf_1 rfl (by decide) (by decide) rfl (by decide) ?_
    refine g_iconst (v := (nI 1)) X dX2_numbersOf_96 rfl ?_
    exact g_iretv (r := (nI 1)) X hx rfl (by first | rfl | simp [wantN]) (by rfl) dX2_numbersOf_97
  by_cases w_1_114 : l = nI 114
  · subst w_1_114
    refine g_tsIn (tgt := 96) X 114 dX2_numbersOf_1 rfl (by decide) (by decide) rfl (by decide) ?_
    refine g_iconst (v := (nI 1)) X dX2_numbersOf_96 rfl ?_
    exact g_iretv (r := (nI 1)) X hx rfl (by first | rfl | simp [wantN]) (by rfl) dX2_numbersOf_97
  by_cases w_1_115 : l = nI 115
  · subst w_1_115
    refine g_tsIn (tgt := 98) X 115 dX2_numbersOf_1 rfl (by decide) (by decide) rfl (by decide) ?_
    refine g_iconst (v := (nI 3)) X dX2_numbersOf_98 rfl ?_
    exact g_iretv (r := (nI 3)) X hx rfl (by first | rfl | simp [wantN]) (by rfl) dX2_numbersOf_99
  by_cases w_1_116 : l = nI 116
  · subst w_1_116
    refine g_tsIn (tgt := 98) X 116 dX2_numbersOf_1 rfl (by decide) (by decide) rfl (by decide) ?_
    refine g_iconst (v := (nI 3)) X dX2_numbersOf_98 rfl ?_
    exact g_iretv (r := (nI 3)) X hx rfl (by first | rfl | simp [wantN]) (by rfl) dX2_numbersOf_99
  refine g_tsDef (tgt := 100) X dX2_numbersOf_1 (by decide) (fun i hi => ?_) (by decide) ?_
  · have hi2 : i < 20 := hi
    match i, hi2 with
    | 0, _ => exact Or.inr (lv_neT w_1_97 rfl)
    | 1, _ => exact Or.inr (lv_neT w_1_98 rfl)
    | 2, _ => exact Or.inl rfl
    | 3, _ => exact Or.inl rfl
    | 4, _ => exact Or.inl rfl
    | 5, _ => exact Or.inl rfl
    | 6, _ => exact Or.inl rfl
    | 7, _ => exact Or.inl rfl
    | 8, _ => exact Or.inl rfl
    | 9, _ => exact Or.inl rfl
    | 10, _ => exact Or.inl rfl
    | 11, _ => exact Or.inl rfl
    | 12, _ => exact Or.inl rfl
    | 13, _ => exact Or.inr (lv_neT w_1_110 rfl)
    | 14, _ => exact Or.inl rfl
    | 15, _ => exact Or.inl rfl
    | 16, _ => exact Or.inl rfl
    | 17, _ => exact Or.inr (lv_neT w_1_114 rfl)
    | 18, _ => exact Or.inr (lv_neT w_1_115 rfl)
    | 19, _ => exact Or.inr (lv_neT w_1_116 rfl)
    | i + 20, h => exact absurd h (by omega)
  refine g_iconst (v := (nI 0)) X dX2_numbersOf_100 rfl ?_
  exact g_iretv (r := (nI 0)) X hx rfl (by first | rfl | simp [wantN, w_1_97, w_1_98, w_1_110, w_1_114, w_1_115, w_1_116]) (by rfl) dX2_numbersOf_101
