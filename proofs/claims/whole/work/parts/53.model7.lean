set_option maxHeartbeats 4000000 in
set_option maxRecDepth 100000 in
theorem c_X10_comesTo (E : GE) (a : Nat → Nat) (s : MD0) (x : Int32) (y : Int32) (hfx : ¬ farI x < 0) (hfy : ¬ y ≤ 0) : CT E m_X10_comesTo [.ref (a 0), .int x, .int y] ([wMd E a s].flatten) none ([wMd E a (dR s, dN0 s, dU s, dK s, dP s, x / nI (rGc x y), y / nI (rGc x y), dS s, dA s, dQ s)].flatten) := by
  refine CT.intro (by decide +kernel) (Nat.le_of_ble_eq_true rfl) (fun Γ X hx => ?_)
  refine GG.lv [0, 1, 2] (lv' := [(0, .ref (a 0)), (1, .int x), (2, .int y)]) rfl ?_
  obtain ⟨d, hd, rfl⟩ := nI_of (show ¬ y < 0 from fun q => hfy (by rw [i_lt] at q; rw [i_le]; omega))
  obtain ⟨c0, hc0, ec0⟩ := nI_of hfx
  have hd0 : 0 < d := Nat.pos_of_ne_zero (fun e => hfy (by rw [e]; decide))
  refine g_iload_n X 1 dX10_comesTo_0 rfl ?_
  refine g_callSP (st2 := [.int (farI x)]) (ws' := [wMd E a s].flatten) (wr := [wMd E a s].flatten) X (c_X10_far E x) cs_X10_180 rfl (List.Perm.refl _) rfl (List.Perm.refl _) rfl rfl (Nat.le_of_ble_eq_true rfl) dX10_comesTo_1 rfl ?_
  rw [ec0]
  refine g_istore_n (lv' := [(3, .int (nI c0)), (0, .ref (a 0)), (1, .int x), (2, .int (nI d))]) X dX10_comesTo_4 (by decide) rfl ?_
  refine g_iload_n X 3 dX10_comesTo_5 rfl ?_
  refine g_istore (lv' := [(4, .int (nI d)), (3, .int (nI c0)), (0, .ref (a 0)), (1, .int x), (2, .int (nI d))]) X dX10_comesTo_6 (by decide) rfl ?_
  have L_8 : ∀ (n_8 : Nat) (A : Nat) (B : Nat) (hA : A < 2 ^ 31) (hB : B < 2 ^ 31) (hg : Nat.gcd A B = Nat.gcd c0 d) (hm_8 : B < n_8) (x_3 : Int32) (ex_3 : x_3 = (nI A)) (x_4 : Int32) (ex_4 : x_4 = (nI B)), GG E m_X10_comesTo Γ 0 0 ([wMd E a s].flatten) [(0, .ref (a 0)), (1, .int x), (2, .int (nI d)), (3, .int x_3), (4, .int x_4)] 8 [] := by
    intro n_8
    induction n_8 with
    | zero => intro A B hA hB hg hm_8; exact absurd hm_8 (Nat.not_lt_zero _)
    | succ n_8 ih_8 =>
      intro A B hA hB hg hm_8 x_3 ex_3 x_4 ex_4
      subst ex_3
      subst ex_4
      refine g_iload X 4 dX10_comesTo_8 rfl ?_
      refine g_if_eq (tgt := 29) X dX10_comesTo_10 (by decide) (fun c_10 => ?_) (fun c_10 => ?_)
      · have f_c_10 : B = 0 := n_eq (by omega) (by omega) c_10
        have eA : A = Nat.gcd c0 d := by rw [← hg, f_c_10, Nat.gcd_zero_right]
        have hG : 0 < A := by rw [eA]; exact Nat.gcd_pos_of_pos_right _ hd0
        have hG0 : ¬ nI A = 0 := nI_ne0 hG hA
        refine g_aload_n X 0 dX10_comesTo_29 rfl ?_
        refine g_iload_n X 1 dX10_comesTo_30 rfl ?_
        refine g_iload_n X 3 dX10_comesTo_31 rfl ?_
        refine g_idiv X dX10_comesTo_32 (by assumption) ?_
        refine g_putf (ws' := [wMd E a (dR s, dN0 s, dU s, dK s, dP s, (x / (nI A)), dY s, dS s, dA s, dQ s)].flatten) X ps_X10_183 0 rfl rfl rfl (Nat.le_of_ble_eq_true rfl) rfl dX10_comesTo_33 ?_
        refine g_aload_n X 0 dX10_comesTo_36 rfl ?_
        refine g_iload_n X 2 dX10_comesTo_37 rfl ?_
        refine g_iload_n X 3 dX10_comesTo_38 rfl ?_
        refine g_idivN X (by omega) (by omega) (by omega) dX10_comesTo_39 ?_
        refine g_putf (ws' := [wMd E a (dR s, dN0 s, dU s, dK s, dP s, (x / (nI A)), (nI (d / A)), dS s, dA s, dQ s)].flatten) X ps_X10_186 0 rfl rfl rfl (Nat.le_of_ble_eq_true rfl) rfl dX10_comesTo_40 ?_
        exact g_vret X hx rfl rfl (by unfold rGc; rw [ec0, nI_clamp hc0, nI_clamp hd, ← eA, pk_div hd hG hA]) dX10_comesTo_43
      · have f_c_10 : ¬ B = 0 := n_ne (by omega) (by omega) c_10
        refine g_iload_n X 3 dX10_comesTo_13 rfl ?_
        refine g_iload X 4 dX10_comesTo_14 rfl ?_
        refine g_iremN X (by omega) (by omega) (by omega) dX10_comesTo_16 ?_
        refine g_istore (lv' := [(5, .int (nI (A % B))), (0, .ref (a 0)), (1, .int x), (2, .int (nI d)), (3, .int (nI A)), (4, .int (nI B))]) X dX10_comesTo_17 (by decide) rfl ?_
        refine g_iload X 5 dX10_comesTo_19 rfl ?_
        refine g_istore_n (lv' := [(3, .int (nI B)), (5, .int (nI (A % B))), (0, .ref (a 0)), (1, .int x), (2, .int (nI d)), (4, .int (nI B))]) X dX10_comesTo_21 (by decide) rfl ?_
        refine g_iload X 1 dX10_comesTo_22 rfl ?_
        refine g_istore (lv' := [(4, .int (nI (A % B))), (3, .int (nI B)), (5, .int (nI (A % B))), (0, .ref (a 0)), (1, .int x), (2, .int (nI d))]) X dX10_comesTo_24 (by decide) rfl ?_
        refine g_goto (tgt := 8) X dX10_comesTo_26 (by decide) ?_
        refine GG.lv [3, 4, 5, 1, 0] rfl ?_
        exact ih_8 B (A % B) (hB) (Nat.lt_trans (Nat.mod_lt _ (by omega)) hB) ((gcd_step A B).trans hg) (by have := Nat.mod_lt A (show B > 0 by omega); omega) (nI B) (by rfl) (nI (A % B)) (by rfl)
  refine GG.lv [2, 3, 4, 1, 0] rfl ?_
  exact L_8 (d + 1) c0 d (hc0) (hd) (rfl) (by omega) (nI c0) (by rfl) (nI d) (by rfl)
set_option maxHeartbeats 4000000 in
set_option maxRecDepth 100000 in
theorem c_X10_triangleOf (E : GE) (a : Nat → Nat) (s : MD0) (mm : Nat → Nat) (xo : Nat → Int32) (yo : Nat → Int32) (mt : Nat → Int32) (i : Nat) (hmm : ∀ g, g < 2 → mm g ≤ 8) (hi : i < 16) : CT E m_X10_triangleOf [.ref (a 0), .int (nI i)] ([wMd E a s, wAn E (a 2) 2 mm, wAr E (a 5) 16 xo, wAr E (a 6) 16 yo, wAr E (a 17) 16 mt].flatten) (some (.int ((rTgS mm xo yo mt i 512).1))) ([wMd E a s, wAn E (a 2) 2 mm, wAr E (a 5) 16 xo, wAr E (a 6) 16 yo, wAr E (a 17) 16 mt].flatten) := by
  refine CT.intro (by decide +kernel) (Nat.le_of_ble_eq_true rfl) (fun Γ X hx => ?_)
  refine GG.lv [0, 1] (lv' := [(0, .ref (a 0)), (1, .int (nI i))]) rfl ?_
  have hm0 := hmm 0 (by decide)
  have hm1 := hmm 1 (by decide)
  refine g_bipush (v := (-4)) X dX10_triangleOf_0 rfl ?_
  refine g_istore_n (lv' := [(2, .int (-4)), (0, .ref (a 0)), (1, .int (nI i))]) X dX10_triangleOf_2 (by decide) rfl ?_
  refine g_ldc (v := (nI 1073741824)) X dX10_triangleOf_3 ks_X10_189 ?_
  refine g_istore_n (lv' := [(3, .int (nI 1073741824)), (2, .int (-4)), (0, .ref (a 0)), (1, .int (nI i))]) X dX10_triangleOf_5 (by decide) rfl ?_
  refine g_iconst (v := (nI 0)) X dX10_triangleOf_6 rfl ?_
  refine g_istore (lv' := [(4, .int (nI 0)), (3, .int (nI 1073741824)), (2, .int (-4)), (0, .ref (a 0)), (1, .int (nI i))]) X dX10_triangleOf_7 (by decide) rfl ?_
  have L_9 : ∀ (n_9 : Nat) (k : Nat) (hk : k ≤ 512) (hm_9 : 512 - k < n_9) (x_2 : Int32) (ex_2 : x_2 = ((rTgS mm xo yo mt i k).1)) (x_3 : Int32) (ex_3 : x_3 = ((rTgS mm xo yo mt i k).2)) (x_4 : Int32) (ex_4 : x_4 = (nI k)), GG E m_X10_triangleOf Γ 0 0 ([wMd E a s, wAn E (a 2) 2 mm, wAr E (a 5) 16 xo, wAr E (a 6) 16 yo, wAr E (a 17) 16 mt].flatten) [(0, .ref (a 0)), (1, .int (nI i)), (2, .int x_2), (3, .int x_3), (4, .int x_4)] 9 [] := by
    intro n_9
    induction n_9 with
    | zero => intro k hk hm_9; exact absurd hm_9 (Nat.not_lt_zero _)
    | succ n_9 ih_9 =>
      intro k hk hm_9 x_2 ex_2 x_3 ex_3 x_4 ex_4
      subst ex_2
      subst ex_3
      subst ex_4
      refine g_iload X 4 dX10_triangleOf_9 rfl ?_
      refine g_sipush (v := (nI 512)) X dX10_triangleOf_11 rfl ?_
      refine g_icmp_ge (tgt := 145) X dX10_triangleOf_14 (by decide) (fun c_14 => ?_) (fun c_14 => ?_)
      · have f_c_14 : 512 ≤ k := n_le (by omega) (by omega) c_14
        have fn_c_14 := Nat.not_lt.mpr f_c_14
        refine g_iload_n X 2 dX10_triangleOf_145 rfl ?_
        exact g_iretv (r := ((rTgS mm xo yo mt i k).1)) X hx rfl (by rw [show 512 = k by omega]) (by rfl) dX10_triangleOf_146
      · have f_c_14 : k < 512 := n_nle (by omega) (by omega) c_14
        have fn_c_14 := Nat.not_le.mpr f_c_14
        refine g_iload X 4 dX10_triangleOf_17 rfl ?_
        refine g_bipush (v := (nI 64)) X dX10_triangleOf_19 rfl ?_
        refine g_idivN X (by omega) (by omega) (by omega) dX10_triangleOf_21 ?_
        refine g_istore (lv' := [(5, .int (nI (k / 64))), (0, .ref (a 0)), (1, .int (nI i)), (2, .int ((rTgS mm xo yo mt i k).1)), (3, .int ((rTgS mm xo yo mt i k).2)), (4, .int (nI k))]) X dX10_triangleOf_22 (by decide) rfl ?_
        refine g_iload X 5 dX10_triangleOf_24 rfl ?_
        refine g_bipush (v := (nI 8)) X dX10_triangleOf_26 rfl ?_
        refine g_idivN X (by omega) (by omega) (by omega) dX10_triangleOf_28 ?_
        refine g_bipush (v := (nI 8)) X dX10_triangleOf_29 rfl ?_
        refine g_iremN X (by omega) (by omega) (by omega) dX10_triangleOf_31 ?_
        refine g_istore (lv' := [(6, .int (nI ((k / 8) % 8))), (5, .int (nI (k / 64))), (0, .ref (a 0)), (1, .int (nI i)), (2, .int ((rTgS mm xo yo mt i k).1)), (3, .int ((rTgS mm xo yo mt i k).2)), (4, .int (nI k))]) X dX10_triangleOf_32 (by decide) rfl ?_
        refine g_iload X 6 dX10_triangleOf_34 rfl ?_
        refine g_bipush (v := (nI 8)) X dX10_triangleOf_36 rfl ?_
        refine g_iremN X (by omega) (by omega) (by omega) dX10_triangleOf_38 ?_
        refine g_istore (lv' := [(7, .int (nI (k % 8))), (6, .int (nI ((k / 8) % 8))), (5, .int (nI (k / 64))), (0, .ref (a 0)), (1, .int (nI i)), (2, .int ((rTgS mm xo yo mt i k).1)), (3, .int ((rTgS mm xo yo mt i k).2)), (4, .int (nI k))]) X dX10_triangleOf_39 (by decide) rfl ?_
        refine g_iload X 2 dX10_triangleOf_41 rfl ?_
        refine g_iload X 1 dX10_triangleOf_43 rfl ?_
        refine g_icmp_ge (tgt := 139) X dX10_triangleOf_45 (by decide) (fun c_45 => ?_) (fun c_45 => ?_)
        · have f_c_45 : (k / 8) % 8 ≤ k / 64 := n_le (by omega) (by omega) c_45
          have fn_c_45 := Nat.not_lt.mpr f_c_45
          refine g_iincN (lv' := [(4, .int (nI (k + 1))), (7, .int (nI (k % 8))), (6, .int (nI ((k / 8) % 8))), (5, .int (nI (k / 64))), (0, .ref (a 0)), (1, .int (nI i)), (2, .int ((rTgS mm xo yo mt i k).1)), (3, .int ((rTgS mm xo yo mt i k).2))]) X 7 dX10_triangleOf_139 rfl (by decide) rfl ?_
          refine g_goto (tgt := 9) X dX10_triangleOf_142 (by decide) ?_
          refine GG.lv [4, 5, 6, 7, 0] rfl ?_
          exact ih_9 (k + 1) (by omega) (by omega) ((rTgS mm xo yo mt i k).1) (by show _ = (rTg mm xo yo mt i _ _ _ k (rTgS mm xo yo mt i k)).1; rw [rTg_f (by simp only [rMm, c_14, f_c_14, fn_c_14, c_45, f_c_45, fn_c_45, decide_true, decide_false, not_true_eq_false, not_false_eq_true, Bool.true_and, Bool.false_and, Bool.and_true, Bool.and_false, Bool.true_or, Bool.false_or, Bool.or_true, Bool.or_false, and_true, true_and, and_false, false_and, or_true, true_or, or_false, false_or, if_true, if_false, Bool.false_eq_true, decide_eq_true_eq])]) ((rTgS mm xo yo mt i k).2) (by show _ = (rTg mm xo yo mt i _ _ _ k (rTgS mm xo yo mt i k)).2; rw [rTg_f (by simp only [rMm, c_14, f_c_14, fn_c_14, c_45, f_c_45, fn_c_45, decide_true, decide_false, not_true_eq_false, not_false_eq_true, Bool.true_and, Bool.false_and, Bool.and_true, Bool.and_false, Bool.true_or, Bool.false_or, Bool.or_true, Bool.or_false, and_true, true_and, and_false, false_and, or_true, true_or, or_false, false_or, if_true, if_false, Bool.false_eq_true, decide_eq_true_eq])]) (nI (k + 1)) (by rfl)
        · have f_c_45 : k / 64 < (k / 8) % 8 := n_nle (by omega) (by omega) c_45
          have fn_c_45 := Nat.not_le.mpr f_c_45
          refine g_iload X 1 dX10_triangleOf_48 rfl ?_
          refine g_iload X 0 dX10_triangleOf_50 rfl ?_
          refine g_icmp_ge (tgt := 139) X dX10_triangleOf_52 (by decide) (fun c_52 => ?_) (fun c_52 => ?_)
          · have f_c_52 : k % 8 ≤ (k / 8) % 8 := n_le (by omega) (by omega) c_52
            have fn_c_52 := Nat.not_lt.mpr f_c_52
            refine g_iincN (lv' := [(4, .int (nI (k + 1))), (7, .int (nI (k % 8))), (6, .int (nI ((k / 8) % 8))), (5, .int (nI (k / 64))), (0, .ref (a 0)), (1, .int (nI i)), (2, .int ((rTgS mm xo yo mt i k).1)), (3, .int ((rTgS mm xo yo mt i k).2))]) X 7 dX10_triangleOf_139 rfl (by decide) rfl ?_
            refine g_goto (tgt := 9) X dX10_triangleOf_142 (by decide) ?_
            refine GG.lv [4, 5, 6, 7, 0] rfl ?_
            exact ih_9 (k + 1) (by omega) (by omega) ((rTgS mm xo yo mt i k).1) (by show _ = (rTg mm xo yo mt i _ _ _ k (rTgS mm xo yo mt i k)).1; rw [rTg_f (by simp only [rMm, c_14, f_c_14, fn_c_14, c_45, f_c_45, fn_c_45, c_52, f_c_52, fn_c_52, decide_true, decide_false, not_true_eq_false, not_false_eq_true, Bool.true_and, Bool.false_and, Bool.and_true, Bool.and_false, Bool.true_or, Bool.false_or, Bool.or_true, Bool.or_false, and_true, true_and, and_false, false_and, or_true, true_or, or_false, false_or, if_true, if_false, Bool.false_eq_true, decide_eq_true_eq])]) ((rTgS mm xo yo mt i k).2) (by show _ = (rTg mm xo yo mt i _ _ _ k (rTgS mm xo yo mt i k)).2; rw [rTg_f (by simp only [rMm, c_14, f_c_14, fn_c_14, c_45, f_c_45, fn_c_45, c_52, f_c_52, fn_c_52, decide_true, decide_false, not_true_eq_false, not_false_eq_true, Bool.true_and, Bool.false_and, Bool.and_true, Bool.and_false, Bool.true_or, Bool.false_or, Bool.or_true, Bool.or_false, and_true, true_and, and_false, false_and, or_true, true_or, or_false, false_or, if_true, if_false, Bool.false_eq_true, decide_eq_true_eq])]) (nI (k + 1)) (by rfl)
          · have f_c_52 : (k / 8) % 8 < k % 8 := n_nle (by omega) (by omega) c_52
            have fn_c_52 := Nat.not_le.mpr f_c_52
            refine g_iload X 0 dX10_triangleOf_55 rfl ?_
            refine g_aload_n X 3 dX10_triangleOf_57 rfl ?_
            refine g_getf (v := .ref (a 2)) X fs_X10_16 0 rfl rfl dX10_triangleOf_58 ?_
            refine g_iconst (v := (nI 0)) X dX10_triangleOf_61 rfl ?_
            refine g_anld (f := mm) X 1 rfl 0 (ix_nI (by omega) (by decide)) dX10_triangleOf_62 ?_
            refine g_icmp_ge (tgt := 139) X dX10_triangleOf_63 (by decide) (fun c_63 => ?_) (fun c_63 => ?_)
            · have f_c_63 : mm 0 ≤ k % 8 := n_le (by omega) (by omega) c_63
              have fn_c_63 := Nat.not_lt.mpr f_c_63
              refine g_iincN (lv' := [(4, .int (nI (k + 1))), (7, .int (nI (k % 8))), (6, .int (nI ((k / 8) % 8))), (5, .int (nI (k / 64))), (0, .ref (a 0)), (1, .int (nI i)), (2, .int ((rTgS mm xo yo mt i k).1)), (3, .int ((rTgS mm xo yo mt i k).2))]) X 7 dX10_triangleOf_139 rfl (by decide) rfl ?_
              refine g_goto (tgt := 9) X dX10_triangleOf_142 (by decide) ?_
              refine GG.lv [4, 5, 6, 7, 0] rfl ?_
              exact ih_9 (k + 1) (by omega) (by omega) ((rTgS mm xo yo mt i k).1) (by show _ = (rTg mm xo yo mt i _ _ _ k (rTgS mm xo yo mt i k)).1; rw [rTg_f (by simp only [rMm, c_14, f_c_14, fn_c_14, c_45, f_c_45, fn_c_45, c_52, f_c_52, fn_c_52, c_63, f_c_63, fn_c_63, decide_true, decide_false, not_true_eq_false, not_false_eq_true, Bool.true_and, Bool.false_and, Bool.and_true, Bool.and_false, Bool.true_or, Bool.false_or, Bool.or_true, Bool.or_false, and_true, true_and, and_false, false_and, or_true, true_or, or_false, false_or, if_true, if_false, Bool.false_eq_true, decide_eq_true_eq])]) ((rTgS mm xo yo mt i k).2) (by show _ = (rTg mm xo yo mt i _ _ _ k (rTgS mm xo yo mt i k)).2; rw [rTg_f (by simp only [rMm, c_14, f_c_14, fn_c_14, c_45, f_c_45, fn_c_45, c_52, f_c_52, fn_c_52, c_63, f_c_63, fn_c_63, decide_true, decide_false, not_true_eq_false, not_false_eq_true, Bool.true_and, Bool.false_and, Bool.and_true, Bool.and_false, Bool.true_or, Bool.false_or, Bool.or_true, Bool.or_false, and_true, true_and, and_false, false_and, or_true, true_or, or_false, false_or, if_true, if_false, Bool.false_eq_true, decide_eq_true_eq])]) (nI (k + 1)) (by rfl)
            · have f_c_63 : k % 8 < mm 0 := n_nle (by omega) (by omega) c_63
              have fn_c_63 := Nat.not_le.mpr f_c_63
              refine g_aload_n X 3 dX10_triangleOf_66 rfl ?_
              refine g_iload X 2 dX10_triangleOf_67 rfl ?_
              refine g_callVr (st2 := [.int (b2i (decide (¬ mt (k / 64) = -4)))]) (q0 := 0) X (c_X10_isMatched E a s mt (k / 64) (by first | assumption | omega | exact Nat.zero_le _)) cs_X10_190 rfl [0, 4] [1, 2, 3] 5 rfl (by decide) rfl rfl rfl rfl rfl (Nat.le_of_ble_eq_true rfl) dX10_triangleOf_69 rfl ?_
              refine g_bif_eq (tgt := 139) X dX10_triangleOf_72 (by decide) (fun c_72 => ?_) (fun c_72 => ?_)
              · refine g_iincN (lv' := [(4, .int (nI (k + 1))), (7, .int (nI (k % 8))), (6, .int (nI ((k / 8) % 8))), (5, .int (nI (k / 64))), (0, .ref (a 0)), (1, .int (nI i)), (2, .int ((rTgS mm xo yo mt i k).1)), (3, .int ((rTgS mm xo yo mt i k).2))]) X 7 dX10_triangleOf_139 rfl (by decide) rfl ?_
                refine g_goto (tgt := 9) X dX10_triangleOf_142 (by decide) ?_
                refine GG.lv [4, 5, 6, 7, 0] rfl ?_
                exact ih_9 (k + 1) (by omega) (by omega) ((rTgS mm xo yo mt i k).1) (by show _ = (rTg mm xo yo mt i _ _ _ k (rTgS mm xo yo mt i k)).1; rw [rTg_f (by simp only [rMm, c_14, f_c_14, fn_c_14, c_45, f_c_45, fn_c_45, c_52, f_c_52, fn_c_52, c_63, f_c_63, fn_c_63, c_72, decide_true, decide_false, not_true_eq_false, not_false_eq_true, Bool.true_and, Bool.false_and, Bool.and_true, Bool.and_false, Bool.true_or, Bool.false_or, Bool.or_true, Bool.or_false, and_true, true_and, and_false, false_and, or_true, true_or, or_false, false_or, if_true, if_false, Bool.false_eq_true, decide_eq_true_eq])]) ((rTgS mm xo yo mt i k).2) (by show _ = (rTg mm xo yo mt i _ _ _ k (rTgS mm xo yo mt i k)).2; rw [rTg_f (by simp only [rMm, c_14, f_c_14, fn_c_14, c_45, f_c_45, fn_c_45, c_52, f_c_52, fn_c_52, c_63, f_c_63, fn_c_63, c_72, decide_true, decide_false, not_true_eq_false, not_false_eq_true, Bool.true_and, Bool.false_and, Bool.and_true, Bool.and_false, Bool.true_or, Bool.false_or, Bool.or_true, Bool.or_false, and_true, true_and, and_false, false_and, or_true, true_or, or_false, false_or, if_true, if_false, Bool.false_eq_true, decide_eq_true_eq])]) (nI (k + 1)) (by rfl)
              · refine g_aload_n X 3 dX10_triangleOf_75 rfl ?_
                refine g_iload X 1 dX10_triangleOf_76 rfl ?_
                refine g_callVr (st2 := [.int (b2i (decide (¬ mt ((k / 8) % 8) = -4)))]) (q0 := 0) X (c_X10_isMatched E a s mt ((k / 8) % 8) (by first | assumption | omega | exact Nat.zero_le _)) cs_X10_190 rfl [0, 4] [1, 2, 3] 5 rfl (by decide) rfl rfl rfl rfl rfl (Nat.le_of_ble_eq_true rfl) dX10_triangleOf_78 rfl ?_
                refine g_bif_eq (tgt := 139) X dX10_triangleOf_81 (by decide) (fun c_81 => ?_) (fun c_81 => ?_)
                · refine g_iincN (lv' := [(4, .int (nI (k + 1))), (7, .int (nI (k % 8))), (6, .int (nI ((k / 8) % 8))), (5, .int (nI (k / 64))), (0, .ref (a 0)), (1, .int (nI i)), (2, .int ((rTgS mm xo yo mt i k).1)), (3, .int ((rTgS mm xo yo mt i k).2))]) X 7 dX10_triangleOf_139 rfl (by decide) rfl ?_
                  refine g_goto (tgt := 9) X dX10_triangleOf_142 (by decide) ?_
                  refine GG.lv [4, 5, 6, 7, 0] rfl ?_
                  exact ih_9 (k + 1) (by omega) (by omega) ((rTgS mm xo yo mt i k).1) (by show _ = (rTg mm xo yo mt i _ _ _ k (rTgS mm xo yo mt i k)).1; rw [rTg_f (by simp only [rMm, c_14, f_c_14, fn_c_14, c_45, f_c_45, fn_c_45, c_52, f_c_52, fn_c_52, c_63, f_c_63, fn_c_63, c_72, c_81, decide_true, decide_false, not_true_eq_false, not_false_eq_true, Bool.true_and, Bool.false_and, Bool.and_true, Bool.and_false, Bool.true_or, Bool.false_or, Bool.or_true, Bool.or_false, and_true, true_and, and_false, false_and, or_true, true_or, or_false, false_or, if_true, if_false, Bool.false_eq_true, decide_eq_true_eq])]) ((rTgS mm xo yo mt i k).2) (by show _ = (rTg mm xo yo mt i _ _ _ k (rTgS mm xo yo mt i k)).2; rw [rTg_f (by simp only [rMm, c_14, f_c_14, fn_c_14, c_45, f_c_45, fn_c_45, c_52, f_c_52, fn_c_52, c_63, f_c_63, fn_c_63, c_72, c_81, decide_true, decide_false, not_true_eq_false, not_false_eq_true, Bool.true_and, Bool.false_and, Bool.and_true, Bool.and_false, Bool.true_or, Bool.false_or, Bool.or_true, Bool.or_false, and_true, true_and, and_false, false_and, or_true, true_or, or_false, false_or, if_true, if_false, Bool.false_eq_true, decide_eq_true_eq])]) (nI (k + 1)) (by rfl)
                · refine g_aload_n X 3 dX10_triangleOf_84 rfl ?_
                  refine g_iload X 0 dX10_triangleOf_85 rfl ?_
                  refine g_callVr (st2 := [.int (b2i (decide (¬ mt (k % 8) = -4)))]) (q0 := 0) X (c_X10_isMatched E a s mt (k % 8) (by first | assumption | omega | exact Nat.zero_le _)) cs_X10_190 rfl [0, 4] [1, 2, 3] 5 rfl (by decide) rfl rfl rfl rfl rfl (Nat.le_of_ble_eq_true rfl) dX10_triangleOf_87 rfl ?_
                  refine g_bif_eq (tgt := 139) X dX10_triangleOf_90 (by decide) (fun c_90 => ?_) (fun c_90 => ?_)
                  · refine g_iincN (lv' := [(4, .int (nI (k + 1))), (7, .int (nI (k % 8))), (6, .int (nI ((k / 8) % 8))), (5, .int (nI (k / 64))), (0, .ref (a 0)), (1, .int (nI i)), (2, .int ((rTgS mm xo yo mt i k).1)), (3, .int ((rTgS mm xo yo mt i k).2))]) X 7 dX10_triangleOf_139 rfl (by decide) rfl ?_
                    refine g_goto (tgt := 9) X dX10_triangleOf_142 (by decide) ?_
                    refine GG.lv [4, 5, 6, 7, 0] rfl ?_
                    exact ih_9 (k + 1) (by omega) (by omega) ((rTgS mm xo yo mt i k).1) (by show _ = (rTg mm xo yo mt i _ _ _ k (rTgS mm xo yo mt i k)).1; rw [rTg_f (by simp only [rMm, c_14, f_c_14, fn_c_14, c_45, f_c_45, fn_c_45, c_52, f_c_52, fn_c_52, c_63, f_c_63, fn_c_63, c_72, c_81, c_90, decide_true, decide_false, not_true_eq_false, not_false_eq_true, Bool.true_and, Bool.false_and, Bool.and_true, Bool.and_false, Bool.true_or, Bool.false_or, Bool.or_true, Bool.or_false, and_true, true_and, and_false, false_and, or_true, true_or, or_false, false_or, if_true, if_false, Bool.false_eq_true, decide_eq_true_eq])]) ((rTgS mm xo yo mt i k).2) (by show _ = (rTg mm xo yo mt i _ _ _ k (rTgS mm xo yo mt i k)).2; rw [rTg_f (by simp only [rMm, c_14, f_c_14, fn_c_14, c_45, f_c_45, fn_c_45, c_52, f_c_52, fn_c_52, c_63, f_c_63, fn_c_63, c_72, c_81, c_90, decide_true, decide_false, not_true_eq_false, not_false_eq_true, Bool.true_and, Bool.false_and, Bool.and_true, Bool.and_false, Bool.true_or, Bool.false_or, Bool.or_true, Bool.or_false, and_true, true_and, and_false, false_and, or_true, true_or, or_false, false_or, if_true, if_false, Bool.false_eq_true, decide_eq_true_eq])]) (nI (k + 1)) (by rfl)
                  · refine g_aload_n X 3 dX10_triangleOf_93 rfl ?_
                    refine g_iload X 2 dX10_triangleOf_94 rfl ?_
                    refine g_iload X 1 dX10_triangleOf_96 rfl ?_
                    refine g_iload X 0 dX10_triangleOf_98 rfl ?_
                    refine g_callVr (st2 := [.int (rArea xo yo (k / 64) ((k / 8) % 8) (k % 8))]) (q0 := 0) X (c_X10_area E a s xo yo (k / 64) ((k / 8) % 8) (k % 8) (by first | assumption | omega | exact Nat.zero_le _) (by first | assumption | omega | exact Nat.zero_le _) (by first | assumption | omega | exact Nat.zero_le _)) cs_X10_177 rfl [0, 2, 3] [1, 4] 5 rfl (by decide) rfl rfl rfl rfl rfl (Nat.le_of_ble_eq_true rfl) dX10_triangleOf_100 rfl ?_
                    refine g_callSP (st2 := [.int (farI (rArea xo yo (k / 64) ((k / 8) % 8) (k % 8)))]) (ws' := [wMd E a s, wAn E (a 2) 2 mm, wAr E (a 5) 16 xo, wAr E (a 6) 16 yo, wAr E (a 17) 16 mt].flatten) (wr := [wMd E a s, wAn E (a 2) 2 mm, wAr E (a 5) 16 xo, wAr E (a 6) 16 yo, wAr E (a 17) 16 mt].flatten) X (c_X10_far E (rArea xo yo (k / 64) ((k / 8) % 8) (k % 8))) cs_X10_180 rfl (List.Perm.refl _) rfl (List.Perm.refl _) rfl rfl (Nat.le_of_ble_eq_true rfl) dX10_triangleOf_103 rfl ?_
                    refine g_istore (lv' := [(8, .int (farI (rArea xo yo (k / 64) ((k / 8) % 8) (k % 8)))), (7, .int (nI (k % 8))), (6, .int (nI ((k / 8) % 8))), (5, .int (nI (k / 64))), (0, .ref (a 0)), (1, .int (nI i)), (2, .int ((rTgS mm xo yo mt i k).1)), (3, .int ((rTgS mm xo yo mt i k).2)), (4, .int (nI k))]) X dX10_triangleOf_106 (by decide) rfl ?_
                    refine g_iload X 0 dX10_triangleOf_108 rfl ?_
                    refine g_if_le (tgt := 139) X dX10_triangleOf_110 (by decide) (fun c_110 => ?_) (fun c_110 => ?_)
                    · refine g_iincN (lv' := [(4, .int (nI (k + 1))), (8, .int (farI (rArea xo yo (k / 64) ((k / 8) % 8) (k % 8)))), (7, .int (nI (k % 8))), (6, .int (nI ((k / 8) % 8))), (5, .int (nI (k / 64))), (0, .ref (a 0)), (1, .int (nI i)), (2, .int ((rTgS mm xo yo mt i k).1)), (3, .int ((rTgS mm xo yo mt i k).2))]) X 8 dX10_triangleOf_139 rfl (by decide) rfl ?_
                      refine g_goto (tgt := 9) X dX10_triangleOf_142 (by decide) ?_
                      refine GG.lv [5, 6, 7, 8, 0] rfl ?_
                      exact ih_9 (k + 1) (by omega) (by omega) ((rTgS mm xo yo mt i k).1) (by show _ = (rTg mm xo yo mt i _ _ _ k (rTgS mm xo yo mt i k)).1; rw [rTg_f (by simp only [rMm, c_14, f_c_14, fn_c_14, c_45, f_c_45, fn_c_45, c_52, f_c_52, fn_c_52, c_63, f_c_63, fn_c_63, c_72, c_81, c_90, c_110, decide_true, decide_false, not_true_eq_false, not_false_eq_true, Bool.true_and, Bool.false_and, Bool.and_true, Bool.and_false, Bool.true_or, Bool.false_or, Bool.or_true, Bool.or_false, and_true, true_and, and_false, false_and, or_true, true_or, or_false, false_or, if_true, if_false, Bool.false_eq_true, decide_eq_true_eq])]) ((rTgS mm xo yo mt i k).2) (by show _ = (rTg mm xo yo mt i _ _ _ k (rTgS mm xo yo mt i k)).2; rw [rTg_f (by simp only [rMm, c_14, f_c_14, fn_c_14, c_45, f_c_45, fn_c_45, c_52, f_c_52, fn_c_52, c_63, f_c_63, fn_c_63, c_72, c_81, c_90, c_110, decide_true, decide_false, not_true_eq_false, not_false_eq_true, Bool.true_and, Bool.false_and, Bool.and_true, Bool.and_false, Bool.true_or, Bool.false_or, Bool.or_true, Bool.or_false, and_true, true_and, and_false, false_and, or_true, true_or, or_false, false_or, if_true, if_false, Bool.false_eq_true, decide_eq_true_eq])]) (nI (k + 1)) (by rfl)
                    · refine g_iload X 0 dX10_triangleOf_113 rfl ?_
                      refine g_iload_n X 7 dX10_triangleOf_115 rfl ?_
                      refine g_icmp_ge (tgt := 139) X dX10_triangleOf_116 (by decide) (fun c_116 => ?_) (fun c_116 => ?_)
                      · refine g_iincN (lv' := [(4, .int (nI (k + 1))), (8, .int (farI (rArea xo yo (k / 64) ((k / 8) % 8) (k % 8)))), (7, .int (nI (k % 8))), (6, .int (nI ((k / 8) % 8))), (5, .int (nI (k / 64))), (0, .ref (a 0)), (1, .int (nI i)), (2, .int ((rTgS mm xo yo mt i k).1)), (3, .int ((rTgS mm xo yo mt i k).2))]) X 8 dX10_triangleOf_139 rfl (by decide) rfl ?_
                        refine g_goto (tgt := 9) X dX10_triangleOf_142 (by decide) ?_
                        refine GG.lv [5, 6, 7, 8, 0] rfl ?_
                        exact ih_9 (k + 1) (by omega) (by omega) ((rTgS mm xo yo mt i k).1) (by show _ = (rTg mm xo yo mt i _ _ _ k (rTgS mm xo yo mt i k)).1; rw [rTg_f (by simp only [rMm, c_14, f_c_14, fn_c_14, c_45, f_c_45, fn_c_45, c_52, f_c_52, fn_c_52, c_63, f_c_63, fn_c_63, c_72, c_81, c_90, c_110, c_116, decide_true, decide_false, not_true_eq_false, not_false_eq_true, Bool.true_and, Bool.false_and, Bool.and_true, Bool.and_false, Bool.true_or, Bool.false_or, Bool.or_true, Bool.or_false, and_true, true_and, and_false, false_and, or_true, true_or, or_false, false_or, if_true, if_false, Bool.false_eq_true, decide_eq_true_eq])]) ((rTgS mm xo yo mt i k).2) (by show _ = (rTg mm xo yo mt i _ _ _ k (rTgS mm xo yo mt i k)).2; rw [rTg_f (by simp only [rMm, c_14, f_c_14, fn_c_14, c_45, f_c_45, fn_c_45, c_52, f_c_52, fn_c_52, c_63, f_c_63, fn_c_63, c_72, c_81, c_90, c_110, c_116, decide_true, decide_false, not_true_eq_false, not_false_eq_true, Bool.true_and, Bool.false_and, Bool.and_true, Bool.and_false, Bool.true_or, Bool.false_or, Bool.or_true, Bool.or_false, and_true, true_and, and_false, false_and, or_true, true_or, or_false, false_or, if_true, if_false, Bool.false_eq_true, decide_eq_true_eq])]) (nI (k + 1)) (by rfl)
                      · refine g_aload_n X 4 dX10_triangleOf_119 rfl ?_
                        refine g_iload_n X 5 dX10_triangleOf_120 rfl ?_
                        refine g_iload X 3 dX10_triangleOf_121 rfl ?_
                        refine g_iload X 2 dX10_triangleOf_123 rfl ?_
                        refine g_iload X 1 dX10_triangleOf_125 rfl ?_
                        refine g_callVr (st2 := [.int (b2i (rIns xo yo i (k / 64) ((k / 8) % 8) (k % 8)))]) (q0 := 0) X (c_X10_isWithin E a s xo yo i (k / 64) ((k / 8) % 8) (k % 8) (by first | assumption | omega | exact Nat.zero_le _) (by first | assumption | omega | exact Nat.zero_le _) (by first | assumption | omega | exact Nat.zero_le _) (by first | assumption | omega | exact Nat.zero_le _)) cs_X10_193 rfl [0, 2, 3] [1, 4] 5 rfl (by decide) rfl rfl rfl rfl rfl (Nat.le_of_ble_eq_true rfl) dX10_triangleOf_127 rfl ?_
                        refine g_bif_eq (tgt := 139) X dX10_triangleOf_130 (by decide) (fun c_130 => ?_) (fun c_130 => ?_)
                        · refine g_iincN (lv' := [(4, .int (nI (k + 1))), (8, .int (farI (rArea xo yo (k / 64) ((k / 8) % 8) (k % 8)))), (7, .int (nI (k % 8))), (6, .int (nI ((k / 8) % 8))), (5, .int (nI (k / 64))), (0, .ref (a 0)), (1, .int (nI i)), (2, .int ((rTgS mm xo yo mt i k).1)), (3, .int ((rTgS mm xo yo mt i k).2))]) X 8 dX10_triangleOf_139 rfl (by decide) rfl ?_
                          refine g_goto (tgt := 9) X dX10_triangleOf_142 (by decide) ?_
                          refine GG.lv [5, 6, 7, 8, 0] rfl ?_
                          exact ih_9 (k + 1) (by omega) (by omega) ((rTgS mm xo yo mt i k).1) (by show _ = (rTg mm xo yo mt i _ _ _ k (rTgS mm xo yo mt i k)).1; rw [rTg_f (by simp only [rMm, c_14, f_c_14, fn_c_14, c_45, f_c_45, fn_c_45, c_52, f_c_52, fn_c_52, c_63, f_c_63, fn_c_63, c_72, c_81, c_90, c_110, c_116, c_130, decide_true, decide_false, not_true_eq_false, not_false_eq_true, Bool.true_and, Bool.false_and, Bool.and_true, Bool.and_false, Bool.true_or, Bool.false_or, Bool.or_true, Bool.or_false, and_true, true_and, and_false, false_and, or_true, true_or, or_false, false_or, if_true, if_false, Bool.false_eq_true, decide_eq_true_eq])]) ((rTgS mm xo yo mt i k).2) (by show _ = (rTg mm xo yo mt i _ _ _ k (rTgS mm xo yo mt i k)).2; rw [rTg_f (by simp only [rMm, c_14, f_c_14, fn_c_14, c_45, f_c_45, fn_c_45, c_52, f_c_52, fn_c_52, c_63, f_c_63, fn_c_63, c_72, c_81, c_90, c_110, c_116, c_130, decide_true, decide_false, not_true_eq_false, not_false_eq_true, Bool.true_and, Bool.false_and, Bool.and_true, Bool.and_false, Bool.true_or, Bool.false_or, Bool.or_true, Bool.or_false, and_true, true_and, and_false, false_and, or_true, true_or, or_false, false_or, if_true, if_false, Bool.false_eq_true, decide_eq_true_eq])]) (nI (k + 1)) (by rfl)
                        · refine g_iload X 8 dX10_triangleOf_133 rfl ?_
                          refine g_istore_n (lv' := [(2, .int (nI k)), (8, .int (farI (rArea xo yo (k / 64) ((k / 8) % 8) (k % 8)))), (7, .int (nI (k % 8))), (6, .int (nI ((k / 8) % 8))), (5, .int (nI (k / 64))), (0, .ref (a 0)), (1, .int (nI i)), (3, .int ((rTgS mm xo yo mt i k).2)), (4, .int (nI k))]) X dX10_triangleOf_135 (by decide) rfl ?_
                          refine g_iload X 1 dX10_triangleOf_136 rfl ?_
                          refine g_istore_n (lv' := [(3, .int (farI (rArea xo yo (k / 64) ((k / 8) % 8) (k % 8)))), (2, .int (nI k)), (8, .int (farI (rArea xo yo (k / 64) ((k / 8) % 8) (k % 8)))), (7, .int (nI (k % 8))), (6, .int (nI ((k / 8) % 8))), (5, .int (nI (k / 64))), (0, .ref (a 0)), (1, .int (nI i)), (4, .int (nI k))]) X dX10_triangleOf_138 (by decide) rfl ?_
                          refine g_iincN (lv' := [(4, .int (nI (k + 1))), (3, .int (farI (rArea xo yo (k / 64) ((k / 8) % 8) (k % 8)))), (2, .int (nI k)), (8, .int (farI (rArea xo yo (k / 64) ((k / 8) % 8) (k % 8)))), (7, .int (nI (k % 8))), (6, .int (nI ((k / 8) % 8))), (5, .int (nI (k / 64))), (0, .ref (a 0)), (1, .int (nI i))]) X 8 dX10_triangleOf_139 rfl (by decide) rfl ?_
                          refine g_goto (tgt := 9) X dX10_triangleOf_142 (by decide) ?_
                          refine GG.lv [7, 8, 2, 1, 0] rfl ?_
                          exact ih_9 (k + 1) (by omega) (by omega) (nI k) (by show _ = (rTg mm xo yo mt i _ _ _ k (rTgS mm xo yo mt i k)).1; rw [rTg_t (by simp only [rMm, c_14, f_c_14, fn_c_14, c_45, f_c_45, fn_c_45, c_52, f_c_52, fn_c_52, c_63, f_c_63, fn_c_63, c_72, c_81, c_90, c_110, c_116, c_130, decide_true, decide_false, not_true_eq_false, not_false_eq_true, Bool.true_and, Bool.false_and, Bool.and_true, Bool.and_false, Bool.true_or, Bool.false_or, Bool.or_true, Bool.or_false, and_true, true_and, and_false, false_and, or_true, true_or, or_false, false_or, if_true, if_false, Bool.false_eq_true, decide_eq_true_eq])]) (farI (rArea xo yo (k / 64) ((k / 8) % 8) (k % 8))) (by show _ = (rTg mm xo yo mt i _ _ _ k (rTgS mm xo yo mt i k)).2; rw [rTg_t (by simp only [rMm, c_14, f_c_14, fn_c_14, c_45, f_c_45, fn_c_45, c_52, f_c_52, fn_c_52, c_63, f_c_63, fn_c_63, c_72, c_81, c_90, c_110, c_116, c_130, decide_true, decide_false, not_true_eq_false, not_false_eq_true, Bool.true_and, Bool.false_and, Bool.and_true, Bool.and_false, Bool.true_or, Bool.false_or, Bool.or_true, Bool.or_false, and_true, true_and, and_false, false_and, or_true, true_or, or_false, false_or, if_true, if_false, Bool.false_eq_true, decide_eq_true_eq])]) (nI (k + 1)) (by rfl)
  refine GG.lv [3, 4, 2, 1, 0] rfl ?_
  exact L_9 (513) 0 (by omega) (by omega) (-4) (by rfl) (nI 1073741824) (by rfl) (nI 0) (by rfl)
set_option maxHeartbeats 4000000 in
set_option maxRecDepth 100000 in
theorem c_X10_nearest (E : GE) (a : Nat → Nat) (s : MD0) (mm : Nat → Nat) (xo : Nat → Int32) (yo : Nat → Int32) (mt : Nat → Int32) (i : Nat) (hmm : ∀ g, g < 2 → mm g ≤ 8) (hi : i < 16) : CT E m_X10_nearest [.ref (a 0), .int (nI i)] ([wMd E a s, wAn E (a 2) 2 mm, wAr E (a 5) 16 xo, wAr E (a 6) 16 yo, wAr E (a 17) 16 mt].flatten) (some (.int (rNrS xo yo mt i (mm 0)))) ([wMd E a s, wAn E (a 2) 2 mm, wAr E (a 5) 16 xo, wAr E (a 6) 16 yo, wAr E (a 17) 16 mt].flatten) := by
  refine CT.intro (by decide +kernel) (Nat.le_of_ble_eq_true rfl) (fun Γ X hx => ?_)
  refine GG.lv [0, 1] (lv' := [(0, .ref (a 0)), (1, .int (nI i))]) rfl ?_
  have hm0 := hmm 0 (by decide)
  have hm1 := hmm 1 (by decide)
  refine g_bipush (v := (-4)) X dX10_nearest_0 rfl ?_
  refine g_istore_n (lv' := [(2, .int (-4)), (0, .ref (a 0)), (1, .int (nI i))]) X dX10_nearest_2 (by decide) rfl ?_
  refine g_iconst (v := (nI 0)) X dX10_nearest_3 rfl ?_
  refine g_istore_n (lv' := [(3, .int (nI 0)), (2, .int (-4)), (0, .ref (a 0)), (1, .int (nI i))]) X dX10_nearest_4 (by decide) rfl ?_
  have L_5 : ∀ (n_5 : Nat) (k : Nat) (hk : k ≤ mm 0) (hm_5 : mm 0 - k < n_5) (x_2 : Int32) (ex_2 : x_2 = (rNrS xo yo mt i k)) (x_3 : Int32) (ex_3 : x_3 = (nI k)), GG E m_X10_nearest Γ 0 0 ([wMd E a s, wAn E (a 2) 2 mm, wAr E (a 5) 16 xo, wAr E (a 6) 16 yo, wAr E (a 17) 16 mt].flatten) [(0, .ref (a 0)), (1, .int (nI i)), (2, .int x_2), (3, .int x_3)] 5 [] := by
    intro n_5
    induction n_5 with
    | zero => intro k hk hm_5; exact absurd hm_5 (Nat.not_lt_zero _)
    | succ n_5 ih_5 =>
      intro k hk hm_5 x_2 ex_2 x_3 ex_3
      subst ex_2
      subst ex_3
      refine g_iload_n X 3 dX10_nearest_5 rfl ?_
      refine g_aload_n X 0 dX10_nearest_6 rfl ?_
      refine g_getf (v := .ref (a 2)) X fs_X10_16 0 rfl rfl dX10_nearest_7 ?_
      refine g_iconst (v := (nI 0)) X dX10_nearest_10 rfl ?_
      refine g_anld (f := mm) X 1 rfl 0 (ix_nI (by omega) (by decide)) dX10_nearest_11 ?_
      refine g_icmp_ge (tgt := 68) X dX10_nearest_12 (by decide) (fun c_12 => ?_) (fun c_12 => ?_)
      · have f_c_12 : mm 0 ≤ k := n_le (by omega) (by omega) c_12
        have fn_c_12 := Nat.not_lt.mpr f_c_12
        refine g_iload_n X 2 dX10_nearest_68 rfl ?_
        exact g_iretv (r := (rNrS xo yo mt i k)) X hx rfl (by rw [show mm 0 = k by omega]) (by rfl) dX10_nearest_69
      · have f_c_12 : k < mm 0 := n_nle (by omega) (by omega) c_12
        have fn_c_12 := Nat.not_le.mpr f_c_12
        refine g_aload_n X 0 dX10_nearest_15 rfl ?_
        refine g_iload_n X 3 dX10_nearest_16 rfl ?_
        refine g_callVr (st2 := [.int (b2i (decide (¬ mt k = -4)))]) (q0 := 0) X (c_X10_isMatched E a s mt k (by first | assumption | omega | exact Nat.zero_le _)) cs_X10_190 rfl [0, 4] [1, 2, 3] 5 rfl (by decide) rfl rfl rfl rfl rfl (Nat.le_of_ble_eq_true rfl) dX10_nearest_17 rfl ?_
        refine g_bif_eq (tgt := 48) X dX10_nearest_20 (by decide) (fun c_20 => ?_) (fun c_20 => ?_)
        · refine g_iconst (v := (nI 0)) X dX10_nearest_48 rfl ?_
          refine g_istore (lv' := [(4, .int (nI 0)), (0, .ref (a 0)), (1, .int (nI i)), (2, .int (rNrS xo yo mt i k)), (3, .int (nI k))]) X dX10_nearest_49 (by decide) rfl ?_
          refine g_iload X 0 dX10_nearest_51 rfl ?_
          refine g_if_eq (tgt := 60) X dX10_nearest_53 (by decide) (fun c_53 => ?_) (fun c_53 => absurd c_53 (by decide))
          refine g_iload_n X 3 dX10_nearest_60 rfl ?_
          refine g_istore_n (lv' := [(2, .int (rNrS xo yo mt i k)), (4, .int (nI 0)), (0, .ref (a 0)), (1, .int (nI i)), (3, .int (nI k))]) X dX10_nearest_61 (by decide) rfl ?_
          refine g_iincN (lv' := [(3, .int (nI (k + 1))), (2, .int (rNrS xo yo mt i k)), (4, .int (nI 0)), (0, .ref (a 0)), (1, .int (nI i))]) X 4 dX10_nearest_62 rfl (by decide) rfl ?_
          refine g_goto (tgt := 5) X dX10_nearest_65 (by decide) ?_
          refine GG.lv [3, 4, 1, 0] rfl ?_
          exact ih_5 (k + 1) (by omega) (by omega) (rNrS xo yo mt i k) (by show _ = rNr1 xo yo mt i k (rNrS xo yo mt i k); rw [rNr1_f (by simp only [c_12, f_c_12, fn_c_12, c_20, decide_true, decide_false, not_true_eq_false, not_false_eq_true, Bool.true_and, Bool.false_and, Bool.and_true, Bool.and_false, Bool.true_or, Bool.false_or, Bool.or_true, Bool.or_false, and_true, true_and, and_false, false_and, or_true, true_or, or_false, false_or, if_true, if_false, Bool.false_eq_true, decide_eq_true_eq])]) (nI (k + 1)) (by rfl)
        · refine g_iload_n X 2 dX10_nearest_23 rfl ?_
          refine g_bipush (v := (-4)) X dX10_nearest_24 rfl ?_
          refine g_icmp_eq (tgt := 44) X dX10_nearest_26 (by decide) (fun c_26 => ?_) (fun c_26 => ?_)
          · refine g_iconst (v := (nI 1)) X dX10_nearest_44 rfl ?_
            refine g_goto (tgt := 49) X dX10_nearest_45 (by decide) ?_
            refine g_istore (lv' := [(4, .int (nI 1)), (0, .ref (a 0)), (1, .int (nI i)), (2, .int (rNrS xo yo mt i k)), (3, .int (nI k))]) X dX10_nearest_49 (by decide) rfl ?_
            refine g_iload X 0 dX10_nearest_51 rfl ?_
            refine g_if_eq (tgt := 60) X dX10_nearest_53 (by decide) (fun c_53 => absurd c_53 (by decide)) (fun c_53 => ?_)
            refine g_iload_n X 4 dX10_nearest_56 rfl ?_
            refine g_goto (tgt := 61) X dX10_nearest_57 (by decide) ?_
            refine g_istore_n (lv' := [(2, .int (nI k)), (4, .int (nI 1)), (0, .ref (a 0)), (1, .int (nI i)), (3, .int (nI k))]) X dX10_nearest_61 (by decide) rfl ?_
            refine g_iincN (lv' := [(3, .int (nI (k + 1))), (2, .int (nI k)), (4, .int (nI 1)), (0, .ref (a 0)), (1, .int (nI i))]) X 4 dX10_nearest_62 rfl (by decide) rfl ?_
            refine g_goto (tgt := 5) X dX10_nearest_65 (by decide) ?_
            refine GG.lv [3, 4, 1, 0] rfl ?_
            exact ih_5 (k + 1) (by omega) (by omega) (nI k) (by show _ = rNr1 xo yo mt i k (rNrS xo yo mt i k); rw [rNr1_t (by simp only [c_12, f_c_12, fn_c_12, c_20, c_26, decide_true, decide_false, not_true_eq_false, not_false_eq_true, Bool.true_and, Bool.false_and, Bool.and_true, Bool.and_false, Bool.true_or, Bool.false_or, Bool.or_true, Bool.or_false, and_true, true_and, and_false, false_and, or_true, true_or, or_false, false_or, if_true, if_false, Bool.false_eq_true, decide_eq_true_eq])]) (nI (k + 1)) (by rfl)
          · obtain ⟨b, hb, eb, -⟩ := (rNrS_ok xo yo mt i k).resolve_left c_26
            rw [eb]
            refine g_aload_n X 0 dX10_nearest_29 rfl ?_
            refine g_iload_n X 1 dX10_nearest_30 rfl ?_
            refine g_iload_n X 3 dX10_nearest_31 rfl ?_
            refine g_callVr (st2 := [.int (rDist xo yo i k)]) (q0 := 0) X (c_X10_distance E a s xo yo i k (by first | assumption | omega | exact Nat.zero_le _) (by first | assumption | omega | exact Nat.zero_le _)) cs_X10_134 rfl [0, 2, 3] [1, 4] 5 rfl (by decide) rfl rfl rfl rfl rfl (Nat.le_of_ble_eq_true rfl) dX10_nearest_32 rfl ?_
            refine g_aload_n X 0 dX10_nearest_35 rfl ?_
            refine g_iload_n X 1 dX10_nearest_36 rfl ?_
            refine g_iload_n X 2 dX10_nearest_37 rfl ?_
            refine g_callVr (st2 := [.int (rDist xo yo i b), .int (rDist xo yo i k)]) (q0 := 0) X (c_X10_distance E a s xo yo i b (by first | assumption | omega | exact Nat.zero_le _) (by first | assumption | omega | exact Nat.zero_le _)) cs_X10_134 rfl [0, 2, 3] [1, 4] 5 rfl (by decide) rfl rfl rfl rfl rfl (Nat.le_of_ble_eq_true rfl) dX10_nearest_38 rfl ?_
            refine g_icmp_ge (tgt := 48) X dX10_nearest_41 (by decide) (fun c_41 => ?_) (fun c_41 => ?_)
            · refine g_iconst (v := (nI 0)) X dX10_nearest_48 rfl ?_
              refine g_istore (lv' := [(4, .int (nI 0)), (0, .ref (a 0)), (1, .int (nI i)), (2, .int (nI b)), (3, .int (nI k))]) X dX10_nearest_49 (by decide) rfl ?_
              refine g_iload X 0 dX10_nearest_51 rfl ?_
              refine g_if_eq (tgt := 60) X dX10_nearest_53 (by decide) (fun c_53 => ?_) (fun c_53 => absurd c_53 (by decide))
              refine g_iload_n X 3 dX10_nearest_60 rfl ?_
              refine g_istore_n (lv' := [(2, .int (nI b)), (4, .int (nI 0)), (0, .ref (a 0)), (1, .int (nI i)), (3, .int (nI k))]) X dX10_nearest_61 (by decide) rfl ?_
              refine g_iincN (lv' := [(3, .int (nI (k + 1))), (2, .int (nI b)), (4, .int (nI 0)), (0, .ref (a 0)), (1, .int (nI i))]) X 4 dX10_nearest_62 rfl (by decide) rfl ?_
              refine g_goto (tgt := 5) X dX10_nearest_65 (by decide) ?_
              refine GG.lv [3, 4, 1, 0] rfl ?_
              exact ih_5 (k + 1) (by omega) (by omega) (nI b) (by show _ = rNr1 xo yo mt i k (rNrS xo yo mt i k); rw [eb]; rw [rNr1_f (by simp only [nI_clamp (show b < 2 ^ 31 by omega), eq_false (nI_ne_m4 (show b < 2 ^ 31 by omega)), c_12, f_c_12, fn_c_12, c_20, c_26, c_41, decide_true, decide_false, not_true_eq_false, not_false_eq_true, Bool.true_and, Bool.false_and, Bool.and_true, Bool.and_false, Bool.true_or, Bool.false_or, Bool.or_true, Bool.or_false, and_true, true_and, and_false, false_and, or_true, true_or, or_false, false_or, if_true, if_false, Bool.false_eq_true, decide_eq_true_eq])]) (nI (k + 1)) (by rfl)
            · refine g_iconst (v := (nI 1)) X dX10_nearest_44 rfl ?_
              refine g_goto (tgt := 49) X dX10_nearest_45 (by decide) ?_
              refine g_istore (lv' := [(4, .int (nI 1)), (0, .ref (a 0)), (1, .int (nI i)), (2, .int (nI b)), (3, .int (nI k))]) X dX10_nearest_49 (by decide) rfl ?_
              refine g_iload X 0 dX10_nearest_51 rfl ?_
              refine g_if_eq (tgt := 60) X dX10_nearest_53 (by decide) (fun c_53 => absurd c_53 (by decide)) (fun c_53 => ?_)
              refine g_iload_n X 4 dX10_nearest_56 rfl ?_
              refine g_goto (tgt := 61) X dX10_nearest_57 (by decide) ?_
              refine g_istore_n (lv' := [(2, .int (nI k)), (4, .int (nI 1)), (0, .ref (a 0)), (1, .int (nI i)), (3, .int (nI k))]) X dX10_nearest_61 (by decide) rfl ?_
              refine g_iincN (lv' := [(3, .int (nI (k + 1))), (2, .int (nI k)), (4, .int (nI 1)), (0, .ref (a 0)), (1, .int (nI i))]) X 4 dX10_nearest_62 rfl (by decide) rfl ?_
              refine g_goto (tgt := 5) X dX10_nearest_65 (by decide) ?_
              refine GG.lv [3, 4, 1, 0] rfl ?_
              exact ih_5 (k + 1) (by omega) (by omega) (nI k) (by show _ = rNr1 xo yo mt i k (rNrS xo yo mt i k); rw [eb]; rw [rNr1_t (by simp only [nI_clamp (show b < 2 ^ 31 by omega), eq_false (nI_ne_m4 (show b < 2 ^ 31 by omega)), c_12, f_c_12, fn_c_12, c_20, c_26, c_41, decide_true, decide_false, not_true_eq_false, not_false_eq_true, Bool.true_and, Bool.false_and, Bool.and_true, Bool.and_false, Bool.true_or, Bool.false_or, Bool.or_true, Bool.or_false, and_true, true_and, and_false, false_and, or_true, true_or, or_false, false_or, if_true, if_false, Bool.false_eq_true, decide_eq_true_eq])]) (nI (k + 1)) (by rfl)
  refine GG.lv [2, 3, 1, 0] rfl ?_
  exact L_5 (mm 0 + 1) 0 (by omega) (by omega) (-4) (by rfl) (nI 0) (by rfl)
set_option maxHeartbeats 4000000 in
set_option maxRecDepth 100000 in
theorem c_X10_placeOf_1 (E : GE) (a : Nat → Nat) (s : MD0) (xo : Nat → Int32) (yo : Nat → Int32) (p : Nat) (hp : p < 16) : CT E m_X10_placeOf [.ref (a 0), .int (nI p), .int (nI 1)] ([wMd E a s, wAr E (a 5) 16 xo, wAr E (a 6) 16 yo].flatten) (some (.int (xo p))) ([wMd E a s, wAr E (a 5) 16 xo, wAr E (a 6) 16 yo].flatten) := by
  refine CT.intro (by decide +kernel) (Nat.le_of_ble_eq_true rfl) (fun Γ X hx => ?_)
  refine GG.lv [0, 1, 2] (lv' := [(0, .ref (a 0)), (1, .int (nI p)), (2, .int (nI 1))]) rfl ?_
  refine g_iload_n X 2 dX10_placeOf_0 rfl ?_
  refine g_if_eq (tgt := 13) X dX10_placeOf_1 (by decide) (fun c_1 => absurd c_1 (by decide)) (fun c_1 => ?_)
  refine g_aload_n X 0 dX10_placeOf_4 rfl ?_
  refine g_getf (v := .ref (a 5)) X fs_X10_26 0 rfl rfl dX10_placeOf_5 ?_
  refine g_iload_n X 1 dX10_placeOf_8 rfl ?_
  refine g_iald X 1 rfl p (ix_nI (by omega) (by decide)) dX10_placeOf_9 ?_
  refine g_goto (tgt := 19) X dX10_placeOf_10 (by decide) ?_
  exact g_iretv (r := (xo p)) X hx rfl (by rfl) (by rfl) dX10_placeOf_19
set_option maxHeartbeats 4000000 in
set_option maxRecDepth 100000 in
theorem c_X10_placeOf_0 (E : GE) (a : Nat → Nat) (s : MD0) (xo : Nat → Int32) (yo : Nat → Int32) (p : Nat) (hp : p < 16) : CT E m_X10_placeOf [.ref (a 0), .int (nI p), .int (nI 0)] ([wMd E a s, wAr E (a 5) 16 xo, wAr E (a 6) 16 yo].flatten) (some (.int (yo p))) ([wMd E a s, wAr E (a 5) 16 xo, wAr E (a 6) 16 yo].flatten) := by
  refine CT.intro (by decide +kernel) (Nat.le_of_ble_eq_true rfl) (fun Γ X hx => ?_)
  refine GG.lv [0, 1, 2] (lv' := [(0, .ref (a 0)), (1, .int (nI p)), (2, .int (nI 0))]) rfl ?_
  refine g_iload_n X 2 dX10_placeOf_0 rfl ?_
  refine g_if_eq (tgt := 13) X dX10_placeOf_1 (by decide) (fun c_1 => ?_) (fun c_1 => absurd c_1 (by decide))
  refine g_aload_n X 0 dX10_placeOf_13 rfl ?_
  refine g_getf (v := .ref (a 6)) X fs_X10_29 0 rfl rfl dX10_placeOf_14 ?_
  refine g_iload_n X 1 dX10_placeOf_17 rfl ?_
  refine g_iald X 2 rfl p (ix_nI (by omega) (by decide)) dX10_placeOf_18 ?_
  exact g_iretv (r := (yo p)) X hx rfl (by rfl) (by rfl) dX10_placeOf_19
set_option maxHeartbeats 4000000 in
set_option maxRecDepth 100000 in
theorem c_X10_setComes_1 (E : GE) (a : Nat → Nat) (s : MD0) (mm : Nat → Nat) (xo : Nat → Int32) (yo : Nat → Int32) (mt : Nat → Int32) (i : Nat) (hmm : ∀ g, g < 2 → mm g ≤ 8) (hi : i < 16) (hm4 : okMt4 mt) (hxx : okXY xo) (hyy : okXY yo) : CT E m_X10_setComes [.ref (a 0), .int (nI i), .int (nI 1)] ([wMd E a s, wAn E (a 2) 2 mm, wAr E (a 5) 16 xo, wAr E (a 6) 16 yo, wAr E (a 17) 16 mt].flatten) none ([wMd E a (dR s, dN0 s, dU s, dK s, dP s, rCx (rCm xo xo yo mm mt i), rCy (rCm xo xo yo mm mt i), dS s, dA s, dQ s), wAn E (a 2) 2 mm, wAr E (a 5) 16 xo, wAr E (a 6) 16 yo, wAr E (a 17) 16 mt].flatten) := by
  refine CT.intro (by decide +kernel) (Nat.le_of_ble_eq_true rfl) (fun Γ X hx => ?_)
  refine GG.lv [0, 1, 2] (lv' := [(0, .ref (a 0)), (1, .int (nI i)), (2, .int (nI 1))]) rfl ?_
  have hm0 := hmm 0 (by decide)
  have hm1 := hmm 1 (by decide)
  refine g_aload_n X 0 dX10_setComes_0 rfl ?_
  refine g_iload_n X 1 dX10_setComes_1 rfl ?_
  refine g_callVr (st2 := [.int (b2i (decide (¬ mt i = -4)))]) (q0 := 0) X (c_X10_isMatched E a s mt i (by first | assumption | omega | exact Nat.zero_le _)) cs_X10_190 rfl [0, 4] [1, 2, 3] 5 rfl (by decide) rfl rfl rfl rfl rfl (Nat.le_of_ble_eq_true rfl) dX10_setComes_2 rfl ?_
  refine g_bif_eq (tgt := 28) X dX10_setComes_5 (by decide) (fun c_5 => ?_) (fun c_5 => ?_)
  · have km : mt i = -4 := by simpa using c_5
    refine g_aload_n X 0 dX10_setComes_28 rfl ?_
    refine g_iload_n X 1 dX10_setComes_29 rfl ?_
    refine g_callVr (st2 := [.int ((rTgS mm xo yo mt i 512).1)]) (q0 := 0) X (c_X10_triangleOf E a s mm xo yo mt i (by first | assumption | omega | exact Nat.zero_le _) (by first | assumption | omega | exact Nat.zero_le _)) cs_X10_205 rfl [0, 1, 2, 3, 4] [] 5 rfl (by decide) rfl rfl rfl rfl rfl (Nat.le_of_ble_eq_true rfl) dX10_setComes_30 rfl ?_
    refine g_istore_n (lv' := [(3, .int ((rTgS mm xo yo mt i 512).1)), (0, .ref (a 0)), (1, .int (nI i)), (2, .int (nI 1))]) X dX10_setComes_33 (by decide) rfl ?_
    refine g_iload_n X 0 dX10_setComes_34 rfl ?_
    refine g_bipush (v := (-4)) X dX10_setComes_35 rfl ?_
    refine g_icmp_eq (tgt := 169) X dX10_setComes_37 (by decide) (fun c_37 => ?_) (fun c_37 => ?_)
    · refine g_aload_n X 1 dX10_setComes_169 rfl ?_
      refine g_iload_n X 2 dX10_setComes_170 rfl ?_
      refine g_callVr (st2 := [.int (rNrS xo yo mt i (mm 0))]) (q0 := 0) X (c_X10_nearest E a s mm xo yo mt i (by first | assumption | omega | exact Nat.zero_le _) (by first | assumption | omega | exact Nat.zero_le _)) cs_X10_208 rfl [0, 1, 2, 3, 4] [] 5 rfl (by decide) rfl rfl rfl rfl rfl (Nat.le_of_ble_eq_true rfl) dX10_setComes_171 rfl ?_
      refine g_istore (lv' := [(4, .int (rNrS xo yo mt i (mm 0))), (3, .int ((rTgS mm xo yo mt i 512).1)), (0, .ref (a 0)), (1, .int (nI i)), (2, .int (nI 1))]) X dX10_setComes_174 (by decide) rfl ?_
      refine g_aload_n X 2 dX10_setComes_176 rfl ?_
      refine g_aload_n X 2 dX10_setComes_177 rfl ?_
      refine g_iload_n X 3 dX10_setComes_178 rfl ?_
      refine g_iload_n X 4 dX10_setComes_179 rfl ?_
      refine g_callVr (st2 := [.int (xo i), .ref (a 0)]) (q0 := 0) X (c_X10_placeOf_1 E a s xo yo i (by first | assumption | omega | exact Nat.zero_le _)) cs_X10_197 rfl [0, 2, 3] [1, 4] 5 rfl (by decide) rfl rfl rfl rfl rfl (Nat.le_of_ble_eq_true rfl) dX10_setComes_180 rfl ?_
      refine g_iload X 0 dX10_setComes_183 rfl ?_
      refine g_bipush (v := (-4)) X dX10_setComes_185 rfl ?_
      refine g_icmp_ne (tgt := 194) X dX10_setComes_187 (by decide) (fun c_187 => ?_) (fun c_187 => ?_)
      · obtain ⟨m, hm, em, hmm4⟩ := (rNrS_ok xo yo mt i (mm 0)).resolve_left c_187
        have kmm := okMt4_at hm4 (show m < 16 by omega) hmm4
        have kmm2 := kmm.2
        rw [em]
        refine g_aload_n X 2 dX10_setComes_194 rfl ?_
        refine g_bipush (v := (nI 8)) X dX10_setComes_195 rfl ?_
        refine g_aload_n X 2 dX10_setComes_197 rfl ?_
        refine g_getf (v := .ref (a 17)) X fs_X10_56 0 rfl rfl dX10_setComes_198 ?_
        refine g_iload X 0 dX10_setComes_201 rfl ?_
        refine g_iald X 4 rfl m (ix_nI (by omega) (by decide)) dX10_setComes_203 ?_
        rw [kmm.1]
        refine g_iaddN X dX10_setComes_204 ?_
        refine g_iload_n X 4 dX10_setComes_205 rfl ?_
        refine g_callVr (st2 := [.int (xo (8 + (rmN mt m))), .int (xo i), .ref (a 0)]) (q0 := 0) X (c_X10_placeOf_1 E a s xo yo (8 + (rmN mt m)) (by first | assumption | omega | exact Nat.zero_le _)) cs_X10_197 rfl [0, 2, 3] [1, 4] 5 rfl (by decide) rfl rfl rfl rfl rfl (Nat.le_of_ble_eq_true rfl) dX10_setComes_206 rfl ?_
        refine g_aload_n X 2 dX10_setComes_209 rfl ?_
        refine g_iload X 0 dX10_setComes_210 rfl ?_
        refine g_iload_n X 4 dX10_setComes_212 rfl ?_
        refine g_callVr (st2 := [.int (xo m), .int (xo (8 + (rmN mt m))), .int (xo i), .ref (a 0)]) (q0 := 0) X (c_X10_placeOf_1 E a s xo yo m (by first | assumption | omega | exact Nat.zero_le _)) cs_X10_197 rfl [0, 2, 3] [1, 4] 5 rfl (by decide) rfl rfl rfl rfl rfl (Nat.le_of_ble_eq_true rfl) dX10_setComes_213 rfl ?_
        refine g_isub X dX10_setComes_216 ?_
        refine g_iadd X dX10_setComes_217 ?_
        refine g_iconst (v := (nI 1)) X dX10_setComes_218 rfl ?_
        refine g_callV (st2 := []) (S' := [wMd E a (dR s, dN0 s, dU s, dK s, dP s, ((xo i) + ((xo (8 + (rmN mt m))) - (xo m))) / nI (rGc ((xo i) + ((xo (8 + (rmN mt m))) - (xo m))) (nI 1)), (nI 1) / nI (rGc ((xo i) + ((xo (8 + (rmN mt m))) - (xo m))) (nI 1)), dS s, dA s, dQ s), wAn E (a 2) 2 mm, wAr E (a 5) 16 xo, wAr E (a 6) 16 yo, wAr E (a 17) 16 mt]) (q0 := 0) X (c_X10_comesTo E a s ((xo i) + ((xo (8 + (rmN mt m))) - (xo m))) (nI 1) (far_nn (bd_add (okXY_bd hxx hi) (bd_sub (okXY_bd hxx (show 8 + rmN mt m < 16 by omega)) (okXY_bd hxx (show m < 16 by omega)) (by decide)).1 (by decide)).1 (by decide)) (by decide)) cs_X10_201 rfl [0] [1, 2, 3, 4] 5 rfl rfl (by decide) [wAn E (a 2) 2 mm, wAr E (a 5) 16 xo, wAr E (a 6) 16 yo, wAr E (a 17) 16 mt] rfl rfl rfl rfl (by simp only [List.map_cons, List.map_nil, fsAn, fsAr, fsMd]) rfl rfl rfl rfl (Nat.le_of_ble_eq_true rfl) dX10_setComes_219 rfl ?_
        exact g_vret X hx rfl rfl (by rw [rCm_n km c_37 em (by omega)]; rfl) dX10_setComes_222
      · refine g_iconst (v := (nI 0)) X dX10_setComes_190 rfl ?_
        refine g_goto (tgt := 217) X dX10_setComes_191 (by decide) ?_
        refine g_iadd X dX10_setComes_217 ?_
        refine g_iconst (v := (nI 1)) X dX10_setComes_218 rfl ?_
        refine g_callV (st2 := []) (S' := [wMd E a (dR s, dN0 s, dU s, dK s, dP s, ((xo i) + (nI 0)) / nI (rGc ((xo i) + (nI 0)) (nI 1)), (nI 1) / nI (rGc ((xo i) + (nI 0)) (nI 1)), dS s, dA s, dQ s), wAn E (a 2) 2 mm, wAr E (a 5) 16 xo, wAr E (a 6) 16 yo, wAr E (a 17) 16 mt]) (q0 := 0) X (c_X10_comesTo E a s ((xo i) + (nI 0)) (nI 1) (far_nn (bd_add (okXY_bd hxx hi) (bd_nI (B := 0) (by decide) (by decide)) (by decide)).1 (by decide)) (by decide)) cs_X10_201 rfl [0] [1, 2, 3, 4] 5 rfl rfl (by decide) [wAn E (a 2) 2 mm, wAr E (a 5) 16 xo, wAr E (a 6) 16 yo, wAr E (a 17) 16 mt] rfl rfl rfl rfl (by simp only [List.map_cons, List.map_nil, fsAn, fsAr, fsMd]) rfl rfl rfl rfl (Nat.le_of_ble_eq_true rfl) dX10_setComes_219 rfl ?_
        exact g_vret X hx rfl rfl (by rw [rCm_0 km c_37 c_187]; rfl) dX10_setComes_222
    · obtain ⟨k, hk, ek, hq, hq0, -⟩ := (rTgS_ok mm xo yo mt i (Nat.le_refl 512)).resolve_left c_37
      obtain ⟨⟨l1, l2, l3⟩, l4, l5, l6⟩ := rMm_lt hq
      have ka := okMt4_at hm4 (by omega) l4
      have kb := okMt4_at hm4 (by omega) l5
      have kc := okMt4_at hm4 (by omega) l6
      have ka2 := ka.2
      have kb2 := kb.2
      have kc2 := kc.2
      rw [ek]
      refine g_iload_n X 0 dX10_setComes_40 rfl ?_
      refine g_bipush (v := (nI 64)) X dX10_setComes_41 rfl ?_
      refine g_idivN X (by omega) (by omega) (by omega) dX10_setComes_43 ?_
      refine g_istore (lv' := [(4, .int (nI (k / 64))), (3, .int (nI k)), (0, .ref (a 0)), (1, .int (nI i)), (2, .int (nI 1))]) X dX10_setComes_44 (by decide) rfl ?_
      refine g_iload_n X 1 dX10_setComes_46 rfl ?_
      refine g_bipush (v := (nI 8)) X dX10_setComes_47 rfl ?_
      refine g_idivN X (by omega) (by omega) (by omega) dX10_setComes_49 ?_
      refine g_bipush (v := (nI 8)) X dX10_setComes_50 rfl ?_
      refine g_iremN X (by omega) (by omega) (by omega) dX10_setComes_52 ?_
      refine g_istore (lv' := [(5, .int (nI ((k / 8) % 8))), (4, .int (nI (k / 64))), (3, .int (nI k)), (0, .ref (a 0)), (1, .int (nI i)), (2, .int (nI 1))]) X dX10_setComes_53 (by decide) rfl ?_
      refine g_iload_n X 2 dX10_setComes_55 rfl ?_
      refine g_bipush (v := (nI 8)) X dX10_setComes_56 rfl ?_
      refine g_iremN X (by omega) (by omega) (by omega) dX10_setComes_58 ?_
      refine g_istore (lv' := [(6, .int (nI (k % 8))), (5, .int (nI ((k / 8) % 8))), (4, .int (nI (k / 64))), (3, .int (nI k)), (0, .ref (a 0)), (1, .int (nI i)), (2, .int (nI 1))]) X dX10_setComes_59 (by decide) rfl ?_
      refine g_aload_n X 4 dX10_setComes_61 rfl ?_
      refine g_iload_n X 5 dX10_setComes_62 rfl ?_
      refine g_iload X 1 dX10_setComes_63 rfl ?_
      refine g_iload X 0 dX10_setComes_65 rfl ?_
      refine g_callVr (st2 := [.int (rArea xo yo i ((k / 8) % 8) (k % 8))]) (q0 := 0) X (c_X10_area E a s xo yo i ((k / 8) % 8) (k % 8) (by first | assumption | omega | exact Nat.zero_le _) (by first | assumption | omega | exact Nat.zero_le _) (by first | assumption | omega | exact Nat.zero_le _)) cs_X10_177 rfl [0, 2, 3] [1, 4] 5 rfl (by decide) rfl rfl rfl rfl rfl (Nat.le_of_ble_eq_true rfl) dX10_setComes_67 rfl ?_
      refine g_callSP (st2 := [.int (farI (rArea xo yo i ((k / 8) % 8) (k % 8)))]) (ws' := [wMd E a s, wAn E (a 2) 2 mm, wAr E (a 5) 16 xo, wAr E (a 6) 16 yo, wAr E (a 17) 16 mt].flatten) (wr := [wMd E a s, wAn E (a 2) 2 mm, wAr E (a 5) 16 xo, wAr E (a 6) 16 yo, wAr E (a 17) 16 mt].flatten) X (c_X10_far E (rArea xo yo i ((k / 8) % 8) (k % 8))) cs_X10_180 rfl (List.Perm.refl _) rfl (List.Perm.refl _) rfl rfl (Nat.le_of_ble_eq_true rfl) dX10_setComes_70 rfl ?_
      refine g_aload_n X 4 dX10_setComes_73 rfl ?_
      refine g_bipush (v := (nI 8)) X dX10_setComes_74 rfl ?_
      refine g_aload_n X 4 dX10_setComes_76 rfl ?_
      refine g_getf (v := .ref (a 17)) X fs_X10_56 0 rfl rfl dX10_setComes_77 ?_
      refine g_iload X 2 dX10_setComes_80 rfl ?_
      refine g_iald X 4 rfl (k / 64) (ix_nI (by omega) (by decide)) dX10_setComes_82 ?_
      rw [ka.1]
      refine g_iaddN X dX10_setComes_83 ?_
      refine g_iload_n X 6 dX10_setComes_84 rfl ?_
      refine g_callVr (st2 := [.int (xo (8 + (rmN mt (k / 64)))), .int (farI (rArea xo yo i ((k / 8) % 8) (k % 8)))]) (q0 := 0) X (c_X10_placeOf_1 E a s xo yo (8 + (rmN mt (k / 64))) (by first | assumption | omega | exact Nat.zero_le _)) cs_X10_197 rfl [0, 2, 3] [1, 4] 5 rfl (by decide) rfl rfl rfl rfl rfl (Nat.le_of_ble_eq_true rfl) dX10_setComes_85 rfl ?_
      refine g_imul X dX10_setComes_88 ?_
      refine g_aload_n X 4 dX10_setComes_89 rfl ?_
      refine g_iload X 2 dX10_setComes_90 rfl ?_
      refine g_iload_n X 5 dX10_setComes_92 rfl ?_
      refine g_iload X 0 dX10_setComes_93 rfl ?_
      refine g_callVr (st2 := [.int (rArea xo yo (k / 64) i (k % 8)), .int ((farI (rArea xo yo i ((k / 8) % 8) (k % 8))) * (xo (8 + (rmN mt (k / 64)))))]) (q0 := 0) X (c_X10_area E a s xo yo (k / 64) i (k % 8) (by first | assumption | omega | exact Nat.zero_le _) (by first | assumption | omega | exact Nat.zero_le _) (by first | assumption | omega | exact Nat.zero_le _)) cs_X10_177 rfl [0, 2, 3] [1, 4] 5 rfl (by decide) rfl rfl rfl rfl rfl (Nat.le_of_ble_eq_true rfl) dX10_setComes_95 rfl ?_
      refine g_callSP (st2 := [.int (farI (rArea xo yo (k / 64) i (k % 8))), .int ((farI (rArea xo yo i ((k / 8) % 8) (k % 8))) * (xo (8 + (rmN mt (k / 64)))))]) (ws' := [wMd E a s, wAn E (a 2) 2 mm, wAr E (a 5) 16 xo, wAr E (a 6) 16 yo, wAr E (a 17) 16 mt].flatten) (wr := [wMd E a s, wAn E (a 2) 2 mm, wAr E (a 5) 16 xo, wAr E (a 6) 16 yo, wAr E (a 17) 16 mt].flatten) X (c_X10_far E (rArea xo yo (k / 64) i (k % 8))) cs_X10_180 rfl (List.Perm.refl _) rfl (List.Perm.refl _) rfl rfl (Nat.le_of_ble_eq_true rfl) dX10_setComes_98 rfl ?_
      refine g_aload_n X 4 dX10_setComes_101 rfl ?_
      refine g_bipush (v := (nI 8)) X dX10_setComes_102 rfl ?_
      refine g_aload_n X 4 dX10_setComes_104 rfl ?_
      refine g_getf (v := .ref (a 17)) X fs_X10_56 0 rfl rfl dX10_setComes_105 ?_
      refine g_iload X 1 dX10_setComes_108 rfl ?_
      refine g_iald X 4 rfl ((k / 8) % 8) (ix_nI (by omega) (by decide)) dX10_setComes_110 ?_
      rw [kb.1]
      refine g_iaddN X dX10_setComes_111 ?_
      refine g_iload_n X 6 dX10_setComes_112 rfl ?_
      refine g_callVr (st2 := [.int (xo (8 + (rmN mt ((k / 8) % 8)))), .int (farI (rArea xo yo (k / 64) i (k % 8))), .int ((farI (rArea xo yo i ((k / 8) % 8) (k % 8))) * (xo (8 + (rmN mt (k / 64)))))]) (q0 := 0) X (c_X10_placeOf_1 E a s xo yo (8 + (rmN mt ((k / 8) % 8))) (by first | assumption | omega | exact Nat.zero_le _)) cs_X10_197 rfl [0, 2, 3] [1, 4] 5 rfl (by decide) rfl rfl rfl rfl rfl (Nat.le_of_ble_eq_true rfl) dX10_setComes_113 rfl ?_
      refine g_imul X dX10_setComes_116 ?_
      refine g_iadd X dX10_setComes_117 ?_
      refine g_aload_n X 4 dX10_setComes_118 rfl ?_
      refine g_iload X 2 dX10_setComes_119 rfl ?_
      refine g_iload X 1 dX10_setComes_121 rfl ?_
      refine g_iload_n X 5 dX10_setComes_123 rfl ?_
      refine g_callVr (st2 := [.int (rArea xo yo (k / 64) ((k / 8) % 8) i), .int (((farI (rArea xo yo i ((k / 8) % 8) (k % 8))) * (xo (8 + (rmN mt (k / 64))))) + ((farI (rArea xo yo (k / 64) i (k % 8))) * (xo (8 + (rmN mt ((k / 8) % 8))))))]) (q0 := 0) X (c_X10_area E a s xo yo (k / 64) ((k / 8) % 8) i (by first | assumption | omega | exact Nat.zero_le _) (by first | assumption | omega | exact Nat.zero_le _) (by first | assumption | omega | exact Nat.zero_le _)) cs_X10_177 rfl [0, 2, 3] [1, 4] 5 rfl (by decide) rfl rfl rfl rfl rfl (Nat.le_of_ble_eq_true rfl) dX10_setComes_124 rfl ?_
      refine g_callSP (st2 := [.int (farI (rArea xo yo (k / 64) ((k / 8) % 8) i)), .int (((farI (rArea xo yo i ((k / 8) % 8) (k % 8))) * (xo (8 + (rmN mt (k / 64))))) + ((farI (rArea xo yo (k / 64) i (k % 8))) * (xo (8 + (rmN mt ((k / 8) % 8))))))]) (ws' := [wMd E a s, wAn E (a 2) 2 mm, wAr E (a 5) 16 xo, wAr E (a 6) 16 yo, wAr E (a 17) 16 mt].flatten) (wr := [wMd E a s, wAn E (a 2) 2 mm, wAr E (a 5) 16 xo, wAr E (a 6) 16 yo, wAr E (a 17) 16 mt].flatten) X (c_X10_far E (rArea xo yo (k / 64) ((k / 8) % 8) i)) cs_X10_180 rfl (List.Perm.refl _) rfl (List.Perm.refl _) rfl rfl (Nat.le_of_ble_eq_true rfl) dX10_setComes_127 rfl ?_
      refine g_aload_n X 4 dX10_setComes_130 rfl ?_
      refine g_bipush (v := (nI 8)) X dX10_setComes_131 rfl ?_
      refine g_aload_n X 4 dX10_setComes_133 rfl ?_
      refine g_getf (v := .ref (a 17)) X fs_X10_56 0 rfl rfl dX10_setComes_134 ?_
      refine g_iload X 0 dX10_setComes_137 rfl ?_
      refine g_iald X 4 rfl (k % 8) (ix_nI (by omega) (by decide)) dX10_setComes_139 ?_
      rw [kc.1]
      refine g_iaddN X dX10_setComes_140 ?_
      refine g_iload_n X 6 dX10_setComes_141 rfl ?_
      refine g_callVr (st2 := [.int (xo (8 + (rmN mt (k % 8)))), .int (farI (rArea xo yo (k / 64) ((k / 8) % 8) i)), .int (((farI (rArea xo yo i ((k / 8) % 8) (k % 8))) * (xo (8 + (rmN mt (k / 64))))) + ((farI (rArea xo yo (k / 64) i (k % 8))) * (xo (8 + (rmN mt ((k / 8) % 8))))))]) (q0 := 0) X (c_X10_placeOf_1 E a s xo yo (8 + (rmN mt (k % 8))) (by first | assumption | omega | exact Nat.zero_le _)) cs_X10_197 rfl [0, 2, 3] [1, 4] 5 rfl (by decide) rfl rfl rfl rfl rfl (Nat.le_of_ble_eq_true rfl) dX10_setComes_142 rfl ?_
      refine g_imul X dX10_setComes_145 ?_
      refine g_iadd X dX10_setComes_146 ?_
      refine g_istore (lv' := [(7, .int ((((farI (rArea xo yo i ((k / 8) % 8) (k % 8))) * (xo (8 + (rmN mt (k / 64))))) + ((farI (rArea xo yo (k / 64) i (k % 8))) * (xo (8 + (rmN mt ((k / 8) % 8)))))) + ((farI (rArea xo yo (k / 64) ((k / 8) % 8) i)) * (xo (8 + (rmN mt (k % 8))))))), (6, .int (nI (k % 8))), (5, .int (nI ((k / 8) % 8))), (4, .int (nI (k / 64))), (3, .int (nI k)), (0, .ref (a 0)), (1, .int (nI i)), (2, .int (nI 1))]) X dX10_setComes_147 (by decide) rfl ?_
      refine g_aload_n X 5 dX10_setComes_149 rfl ?_
      refine g_iload X 0 dX10_setComes_150 rfl ?_
      refine g_aload_n X 5 dX10_setComes_152 rfl ?_
      refine g_iload X 3 dX10_setComes_153 rfl ?_
      refine g_iload X 2 dX10_setComes_155 rfl ?_
      refine g_iload X 1 dX10_setComes_157 rfl ?_
      refine g_callVr (st2 := [.int (rArea xo yo (k / 64) ((k / 8) % 8) (k % 8)), .int ((((farI (rArea xo yo i ((k / 8) % 8) (k % 8))) * (xo (8 + (rmN mt (k / 64))))) + ((farI (rArea xo yo (k / 64) i (k % 8))) * (xo (8 + (rmN mt ((k / 8) % 8)))))) + ((farI (rArea xo yo (k / 64) ((k / 8) % 8) i)) * (xo (8 + (rmN mt (k % 8)))))), .ref (a 0)]) (q0 := 0) X (c_X10_area E a s xo yo (k / 64) ((k / 8) % 8) (k % 8) (by first | assumption | omega | exact Nat.zero_le _) (by first | assumption | omega | exact Nat.zero_le _) (by first | assumption | omega | exact Nat.zero_le _)) cs_X10_177 rfl [0, 2, 3] [1, 4] 5 rfl (by decide) rfl rfl rfl rfl rfl (Nat.le_of_ble_eq_true rfl) dX10_setComes_159 rfl ?_
      refine g_callSP (st2 := [.int (farI (rArea xo yo (k / 64) ((k / 8) % 8) (k % 8))), .int ((((farI (rArea xo yo i ((k / 8) % 8) (k % 8))) * (xo (8 + (rmN mt (k / 64))))) + ((farI (rArea xo yo (k / 64) i (k % 8))) * (xo (8 + (rmN mt ((k / 8) % 8)))))) + ((farI (rArea xo yo (k / 64) ((k / 8) % 8) i)) * (xo (8 + (rmN mt (k % 8)))))), .ref (a 0)]) (ws' := [wMd E a s, wAn E (a 2) 2 mm, wAr E (a 5) 16 xo, wAr E (a 6) 16 yo, wAr E (a 17) 16 mt].flatten) (wr := [wMd E a s, wAn E (a 2) 2 mm, wAr E (a 5) 16 xo, wAr E (a 6) 16 yo, wAr E (a 17) 16 mt].flatten) X (c_X10_far E (rArea xo yo (k / 64) ((k / 8) % 8) (k % 8))) cs_X10_180 rfl (List.Perm.refl _) rfl (List.Perm.refl _) rfl rfl (Nat.le_of_ble_eq_true rfl) dX10_setComes_162 rfl ?_
      refine g_callV (st2 := []) (S' := [wMd E a (dR s, dN0 s, dU s, dK s, dP s, ((((farI (rArea xo yo i ((k / 8) % 8) (k % 8))) * (xo (8 + (rmN mt (k / 64))))) + ((farI (rArea xo yo (k / 64) i (k % 8))) * (xo (8 + (rmN mt ((k / 8) % 8)))))) + ((farI (rArea xo yo (k / 64) ((k / 8) % 8) i)) * (xo (8 + (rmN mt (k % 8)))))) / nI (rGc ((((farI (rArea xo yo i ((k / 8) % 8) (k % 8))) * (xo (8 + (rmN mt (k / 64))))) + ((farI (rArea xo yo (k / 64) i (k % 8))) * (xo (8 + (rmN mt ((k / 8) % 8)))))) + ((farI (rArea xo yo (k / 64) ((k / 8) % 8) i)) * (xo (8 + (rmN mt (k % 8)))))) (farI (rArea xo yo (k / 64) ((k / 8) % 8) (k % 8)))), (farI (rArea xo yo (k / 64) ((k / 8) % 8) (k % 8))) / nI (rGc ((((farI (rArea xo yo i ((k / 8) % 8) (k % 8))) * (xo (8 + (rmN mt (k / 64))))) + ((farI (rArea xo yo (k / 64) i (k % 8))) * (xo (8 + (rmN mt ((k / 8) % 8)))))) + ((farI (rArea xo yo (k / 64) ((k / 8) % 8) i)) * (xo (8 + (rmN mt (k % 8)))))) (farI (rArea xo yo (k / 64) ((k / 8) % 8) (k % 8)))), dS s, dA s, dQ s), wAn E (a 2) 2 mm, wAr E (a 5) 16 xo, wAr E (a 6) 16 yo, wAr E (a 17) 16 mt]) (q0 := 0) X (c_X10_comesTo E a s ((((farI (rArea xo yo i ((k / 8) % 8) (k % 8))) * (xo (8 + (rmN mt (k / 64))))) + ((farI (rArea xo yo (k / 64) i (k % 8))) * (xo (8 + (rmN mt ((k / 8) % 8)))))) + ((farI (rArea xo yo (k / 64) ((k / 8) % 8) i)) * (xo (8 + (rmN mt (k % 8)))))) (farI (rArea xo yo (k / 64) ((k / 8) % 8) (k % 8))) (far_nn (rSm_bd (mt := mt) hxx hxx hyy hi (by omega) (by omega) (by omega) (by omega) (by omega) (by omega)) (by decide)) hq0) cs_X10_201 rfl [0] [1, 2, 3, 4] 5 rfl rfl (by decide) [wAn E (a 2) 2 mm, wAr E (a 5) 16 xo, wAr E (a 6) 16 yo, wAr E (a 17) 16 mt] rfl rfl rfl rfl (by simp only [List.map_cons, List.map_nil, fsAn, fsAr, fsMd]) rfl rfl rfl rfl (Nat.le_of_ble_eq_true rfl) dX10_setComes_165 rfl ?_
      exact g_vret X hx rfl rfl (by rw [rCm_t km ek hk]; rfl) dX10_setComes_168
  · have km : ¬ mt i = -4 := of_decide_eq_true c_5
    have ki := okMt4_at hm4 hi km
    have ki2 := ki.2
    refine g_aload_n X 0 dX10_setComes_8 rfl ?_
    refine g_aload_n X 0 dX10_setComes_9 rfl ?_
    refine g_bipush (v := (nI 8)) X dX10_setComes_10 rfl ?_
    refine g_aload_n X 0 dX10_setComes_12 rfl ?_
    refine g_getf (v := .ref (a 17)) X fs_X10_56 0 rfl rfl dX10_setComes_13 ?_
    refine g_iload_n X 1 dX10_setComes_16 rfl ?_
    refine g_iald X 4 rfl i (ix_nI (by omega) (by decide)) dX10_setComes_17 ?_
    rw [ki.1]
    refine g_iaddN X dX10_setComes_18 ?_
    refine g_iload_n X 2 dX10_setComes_19 rfl ?_
    refine g_callVr (st2 := [.int (xo (8 + (rmN mt i))), .ref (a 0)]) (q0 := 0) X (c_X10_placeOf_1 E a s xo yo (8 + (rmN mt i)) (by first | assumption | omega | exact Nat.zero_le _)) cs_X10_197 rfl [0, 2, 3] [1, 4] 5 rfl (by decide) rfl rfl rfl rfl rfl (Nat.le_of_ble_eq_true rfl) dX10_setComes_20 rfl ?_
    refine g_iconst (v := (nI 1)) X dX10_setComes_23 rfl ?_
    refine g_callV (st2 := []) (S' := [wMd E a (dR s, dN0 s, dU s, dK s, dP s, (xo (8 + (rmN mt i))) / nI (rGc (xo (8 + (rmN mt i))) (nI 1)), (nI 1) / nI (rGc (xo (8 + (rmN mt i))) (nI 1)), dS s, dA s, dQ s), wAn E (a 2) 2 mm, wAr E (a 5) 16 xo, wAr E (a 6) 16 yo, wAr E (a 17) 16 mt]) (q0 := 0) X (c_X10_comesTo E a s (xo (8 + (rmN mt i))) (nI 1) (far_nn (okXY_bd hxx (by omega)) (by decide)) (by decide)) cs_X10_201 rfl [0] [1, 2, 3, 4] 5 rfl rfl (by decide) [wAn E (a 2) 2 mm, wAr E (a 5) 16 xo, wAr E (a 6) 16 yo, wAr E (a 17) 16 mt] rfl rfl rfl rfl (by simp only [List.map_cons, List.map_nil, fsAn, fsAr, fsMd]) rfl rfl rfl rfl (Nat.le_of_ble_eq_true rfl) dX10_setComes_24 rfl ?_
    exact g_vret X hx rfl rfl (by rw [rCm_m km]; rfl) dX10_setComes_27
set_option maxHeartbeats 4000000 in
set_option maxRecDepth 100000 in
theorem c_X10_setComes_0 (E : GE) (a : Nat → Nat) (s : MD0) (mm : Nat → Nat) (xo : Nat → Int32) (yo : Nat → Int32) (mt : Nat → Int32) (i : Nat) (hmm : ∀ g, g < 2 → mm g ≤ 8) (hi : i < 16) (hm4 : okMt4 mt) (hxx : okXY xo) (hyy : okXY yo) : CT E m_X10_setComes [.ref (a 0), .int (nI i), .int (nI 0)] ([wMd E a s, wAn E (a 2) 2 mm, wAr E (a 5) 16 xo, wAr E (a 6) 16 yo, wAr E (a 17) 16 mt].flatten) none ([wMd E a (dR s, dN0 s, dU s, dK s, dP s, rCx (rCm yo xo yo mm mt i), rCy (rCm yo xo yo mm mt i), dS s, dA s, dQ s), wAn E (a 2) 2 mm, wAr E (a 5) 16 xo, wAr E (a 6) 16 yo, wAr E (a 17) 16 mt].flatten) := by
  refine CT.intro (by decide +kernel) (Nat.le_of_ble_eq_true rfl) (fun Γ X hx => ?_)
  refine GG.lv [0, 1, 2] (lv' := [(0, .ref (a 0)), (1, .int (nI i)), (2, .int (nI 0))]) rfl ?_
  have hm0 := hmm 0 (by decide)
  have hm1 := hmm 1 (by decide)
  refine g_aload_n X 0 dX10_setComes_0 rfl ?_
  refine g_iload_n X 1 dX10_setComes_1 rfl ?_
  refine g_callVr (st2 := [.int (b2i (decide (¬ mt i = -4)))]) (q0 := 0) X (c_X10_isMatched E a s mt i (by first | assumption | omega | exact Nat.zero_le _)) cs_X10_190 rfl [0, 4] [1, 2, 3] 5 rfl (by decide) rfl rfl rfl rfl rfl (Nat.le_of_ble_eq_true rfl) dX10_setComes_2 rfl ?_
  refine g_bif_eq (tgt := 28) X dX10_setComes_5 (by decide) (fun c_5 => ?_) (fun c_5 => ?_)
  · have km : mt i = -4 := by simpa using c_5
    refine g_aload_n X 0 dX10_setComes_28 rfl ?_
    refine g_iload_n X 1 dX10_setComes_29 rfl ?_
    refine g_callVr (st2 := [.int ((rTgS mm xo yo mt i 512).1)]) (q0 := 0) X (c_X10_triangleOf E a s mm xo yo mt i (by first | assumption | omega | exact Nat.zero_le _) (by first | assumption | omega | exact Nat.zero_le _)) cs_X10_205 rfl [0, 1, 2, 3, 4] [] 5 rfl (by decide) rfl rfl rfl rfl rfl (Nat.le_of_ble_eq_true rfl) dX10_setComes_30 rfl ?_
    refine g_istore_n (lv' := [(3, .int ((rTgS mm xo yo mt i 512).1)), (0, .ref (a 0)), (1, .int (nI i)), (2, .int (nI 0))]) X dX10_setComes_33 (by decide) rfl ?_
    refine g_iload_n X 0 dX10_setComes_34 rfl ?_
    refine g_bipush (v := (-4)) X dX10_setComes_35 rfl ?_
    refine g_icmp_eq (tgt := 169) X dX10_setComes_37 (by decide) (fun c_37 => ?_) (fun c_37 => ?_)
    · refine g_aload_n X 1 dX10_setComes_169 rfl ?_
      refine g_iload_n X 2 dX10_setComes_170 rfl ?_
      refine g_callVr (st2 := [.int (rNrS xo yo mt i (mm 0))]) (q0 := 0) X (c_X10_nearest E a s mm xo yo mt i (by first | assumption | omega | exact Nat.zero_le _) (by first | assumption | omega | exact Nat.zero_le _)) cs_X10_208 rfl [0, 1, 2, 3, 4] [] 5 rfl (by decide) rfl rfl rfl rfl rfl (Nat.le_of_ble_eq_true rfl) dX10_setComes_171 rfl ?_
      refine g_istore (lv' := [(4, .int (rNrS xo yo mt i (mm 0))), (3, .int ((rTgS mm xo yo mt i 512).1)), (0, .ref (a 0)), (1, .int (nI i)), (2, .int (nI 0))]) X dX10_setComes_174 (by decide) rfl ?_
      refine g_aload_n X 2 dX10_setComes_176 rfl ?_
      refine g_aload_n X 2 dX10_setComes_177 rfl ?_
      refine g_iload_n X 3 dX10_setComes_178 rfl ?_
      refine g_iload_n X 4 dX10_setComes_179 rfl ?_
      refine g_callVr (st2 := [.int (yo i), .ref (a 0)]) (q0 := 0) X (c_X10_placeOf_0 E a s xo yo i (by first | assumption | omega | exact Nat.zero_le _)) cs_X10_197 rfl [0, 2, 3] [1, 4] 5 rfl (by decide) rfl rfl rfl rfl rfl (Nat.le_of_ble_eq_true rfl) dX10_setComes_180 rfl ?_
      refine g_iload X 0 dX10_setComes_183 rfl ?_
      refine g_bipush (v := (-4)) X dX10_setComes_185 rfl ?_
      refine g_icmp_ne (tgt := 194) X dX10_setComes_187 (by decide) (fun c_187 => ?_) (fun c_187 => ?_)
      · obtain ⟨m, hm, em, hmm4⟩ := (rNrS_ok xo yo mt i (mm 0)).resolve_left c_187
        have kmm := okMt4_at hm4 (show m < 16 by omega) hmm4
        have kmm2 := kmm.2
        rw [em]
        refine g_aload_n X 2 dX10_setComes_194 rfl ?_
        refine g_bipush (v := (nI 8)) X dX10_setComes_195 rfl ?_
        refine g_aload_n X 2 dX10_setComes_197 rfl ?_
        refine g_getf (v := .ref (a 17)) X fs_X10_56 0 rfl rfl dX10_setComes_198 ?_
        refine g_iload X 0 dX10_setComes_201 rfl ?_
        refine g_iald X 4 rfl m (ix_nI (by omega) (by decide)) dX10_setComes_203 ?_
        rw [kmm.1]
        refine g_iaddN X dX10_setComes_204 ?_
        refine g_iload_n X 4 dX10_setComes_205 rfl ?_
        refine g_callVr (st2 := [.int (yo (8 + (rmN mt m))), .int (yo i), .ref (a 0)]) (q0 := 0) X (c_X10_placeOf_0 E a s xo yo (8 + (rmN mt m)) (by first | assumption | omega | exact Nat.zero_le _)) cs_X10_197 rfl [0, 2, 3] [1, 4] 5 rfl (by decide) rfl rfl rfl rfl rfl (Nat.le_of_ble_eq_true rfl) dX10_setComes_206 rfl ?_
        refine g_aload_n X 2 dX10_setComes_209 rfl ?_
        refine g_iload X 0 dX10_setComes_210 rfl ?_
        refine g_iload_n X 4 dX10_setComes_212 rfl ?_
        refine g_callVr (st2 := [.int (yo m), .int (yo (8 + (rmN mt m))), .int (yo i), .ref (a 0)]) (q0 := 0) X (c_X10_placeOf_0 E a s xo yo m (by first | assumption | omega | exact Nat.zero_le _)) cs_X10_197 rfl [0, 2, 3] [1, 4] 5 rfl (by decide) rfl rfl rfl rfl rfl (Nat.le_of_ble_eq_true rfl) dX10_setComes_213 rfl ?_
        refine g_isub X dX10_setComes_216 ?_
        refine g_iadd X dX10_setComes_217 ?_
        refine g_iconst (v := (nI 1)) X dX10_setComes_218 rfl ?_
        refine g_callV (st2 := []) (S' := [wMd E a (dR s, dN0 s, dU s, dK s, dP s, ((yo i) + ((yo (8 + (rmN mt m))) - (yo m))) / nI (rGc ((yo i) + ((yo (8 + (rmN mt m))) - (yo m))) (nI 1)), (nI 1) / nI (rGc ((yo i) + ((yo (8 + (rmN mt m))) - (yo m))) (nI 1)), dS s, dA s, dQ s), wAn E (a 2) 2 mm, wAr E (a 5) 16 xo, wAr E (a 6) 16 yo, wAr E (a 17) 16 mt]) (q0 := 0) X (c_X10_comesTo E a s ((yo i) + ((yo (8 + (rmN mt m))) - (yo m))) (nI 1) (far_nn (bd_add (okXY_bd hyy hi) (bd_sub (okXY_bd hyy (show 8 + rmN mt m < 16 by omega)) (okXY_bd hyy (show m < 16 by omega)) (by decide)).1 (by decide)).1 (by decide)) (by decide)) cs_X10_201 rfl [0] [1, 2, 3, 4] 5 rfl rfl (by decide) [wAn E (a 2) 2 mm, wAr E (a 5) 16 xo, wAr E (a 6) 16 yo, wAr E (a 17) 16 mt] rfl rfl rfl rfl (by simp only [List.map_cons, List.map_nil, fsAn, fsAr, fsMd]) rfl rfl rfl rfl (Nat.le_of_ble_eq_true rfl) dX10_setComes_219 rfl ?_
        exact g_vret X hx rfl rfl (by rw [rCm_n km c_37 em (by omega)]; rfl) dX10_setComes_222
      · refine g_iconst (v := (nI 0)) X dX10_setComes_190 rfl ?_
        refine g_goto (tgt := 217) X dX10_setComes_191 (by decide) ?_
        refine g_iadd X dX10_setComes_217 ?_
        refine g_iconst (v := (nI 1)) X dX10_setComes_218 rfl ?_
        refine g_callV (st2 := []) (S' := [wMd E a (dR s, dN0 s, dU s, dK s, dP s, ((yo i) + (nI 0)) / nI (rGc ((yo i) + (nI 0)) (nI 1)), (nI 1) / nI (rGc ((yo i) + (nI 0)) (nI 1)), dS s, dA s, dQ s), wAn E (a 2) 2 mm, wAr E (a 5) 16 xo, wAr E (a 6) 16 yo, wAr E (a 17) 16 mt]) (q0 := 0) X (c_X10_comesTo E a s ((yo i) + (nI 0)) (nI 1) (far_nn (bd_add (okXY_bd hyy hi) (bd_nI (B := 0) (by decide) (by decide)) (by decide)).1 (by decide)) (by decide)) cs_X10_201 rfl [0] [1, 2, 3, 4] 5 rfl rfl (by decide) [wAn E (a 2) 2 mm, wAr E (a 5) 16 xo, wAr E (a 6) 16 yo, wAr E (a 17) 16 mt] rfl rfl rfl rfl (by simp only [List.map_cons, List.map_nil, fsAn, fsAr, fsMd]) rfl rfl rfl rfl (Nat.le_of_ble_eq_true rfl) dX10_setComes_219 rfl ?_
        exact g_vret X hx rfl rfl (by rw [rCm_0 km c_37 c_187]; rfl) dX10_setComes_222
    · obtain ⟨k, hk, ek, hq, hq0, -⟩ := (rTgS_ok mm xo yo mt i (Nat.le_refl 512)).resolve_left c_37
      obtain ⟨⟨l1, l2, l3⟩, l4, l5, l6⟩ := rMm_lt hq
      have ka := okMt4_at hm4 (by omega) l4
      have kb := okMt4_at hm4 (by omega) l5
      have kc := okMt4_at hm4 (by omega) l6
      have ka2 := ka.2
      have kb2 := kb.2
      have kc2 := kc.2
      rw [ek]
      refine g_iload_n X 0 dX10_setComes_40 rfl ?_
      refine g_bipush (v := (nI 64)) X dX10_setComes_41 rfl ?_
      refine g_idivN X (by omega) (by omega) (by omega) dX10_setComes_43 ?_
      refine g_istore (lv' := [(4, .int (nI (k / 64))), (3, .int (nI k)), (0, .ref (a 0)), (1, .int (nI i)), (2, .int (nI 0))]) X dX10_setComes_44 (by decide) rfl ?_
      refine g_iload_n X 1 dX10_setComes_46 rfl ?_
      refine g_bipush (v := (nI 8)) X dX10_setComes_47 rfl ?_
      refine g_idivN X (by omega) (by omega) (by omega) dX10_setComes_49 ?_
      refine g_bipush (v := (nI 8)) X dX10_setComes_50 rfl ?_
      refine g_iremN X (by omega) (by omega) (by omega) dX10_setComes_52 ?_
      refine g_istore (lv' := [(5, .int (nI ((k / 8) % 8))), (4, .int (nI (k / 64))), (3, .int (nI k)), (0, .ref (a 0)), (1, .int (nI i)), (2, .int (nI 0))]) X dX10_setComes_53 (by decide) rfl ?_
      refine g_iload_n X 2 dX10_setComes_55 rfl ?_
      refine g_bipush (v := (nI 8)) X dX10_setComes_56 rfl ?_
      refine g_iremN X (by omega) (by omega) (by omega) dX10_setComes_58 ?_
      refine g_istore (lv' := [(6, .int (nI (k % 8))), (5, .int (nI ((k / 8) % 8))), (4, .int (nI (k / 64))), (3, .int (nI k)), (0, .ref (a 0)), (1, .int (nI i)), (2, .int (nI 0))]) X dX10_setComes_59 (by decide) rfl ?_
      refine g_aload_n X 4 dX10_setComes_61 rfl ?_
      refine g_iload_n X 5 dX10_setComes_62 rfl ?_
      refine g_iload X 1 dX10_setComes_63 rfl ?_
      refine g_iload X 0 dX10_setComes_65 rfl ?_
      refine g_callVr (st2 := [.int (rArea xo yo i ((k / 8) % 8) (k % 8))]) (q0 := 0) X (c_X10_area E a s xo yo i ((k / 8) % 8) (k % 8) (by first | assumption | omega | exact Nat.zero_le _) (by first | assumption | omega | exact Nat.zero_le _) (by first | assumption | omega | exact Nat.zero_le _)) cs_X10_177 rfl [0, 2, 3] [1, 4] 5 rfl (by decide) rfl rfl rfl rfl rfl (Nat.le_of_ble_eq_true rfl) dX10_setComes_67 rfl ?_
      refine g_callSP (st2 := [.int (farI (rArea xo yo i ((k / 8) % 8) (k % 8)))]) (ws' := [wMd E a s, wAn E (a 2) 2 mm, wAr E (a 5) 16 xo, wAr E (a 6) 16 yo, wAr E (a 17) 16 mt].flatten) (wr := [wMd E a s, wAn E (a 2) 2 mm, wAr E (a 5) 16 xo, wAr E (a 6) 16 yo, wAr E (a 17) 16 mt].flatten) X (c_X10_far E (rArea xo yo i ((k / 8) % 8) (k % 8))) cs_X10_180 rfl (List.Perm.refl _) rfl (List.Perm.refl _) rfl rfl (Nat.le_of_ble_eq_true rfl) dX10_setComes_70 rfl ?_
      refine g_aload_n X 4 dX10_setComes_73 rfl ?_
      refine g_bipush (v := (nI 8)) X dX10_setComes_74 rfl ?_
      refine g_aload_n X 4 dX10_setComes_76 rfl ?_
      refine g_getf (v := .ref (a 17)) X fs_X10_56 0 rfl rfl dX10_setComes_77 ?_
      refine g_iload X 2 dX10_setComes_80 rfl ?_
      refine g_iald X 4 rfl (k / 64) (ix_nI (by omega) (by decide)) dX10_setComes_82 ?_
      rw [ka.1]
      refine g_iaddN X dX10_setComes_83 ?_
      refine g_iload_n X 6 dX10_setComes_84 rfl ?_
      refine g_callVr (st2 := [.int (yo (8 + (rmN mt (k / 64)))), .int (farI (rArea xo yo i ((k / 8) % 8) (k % 8)))]) (q0 := 0) X (c_X10_placeOf_0 E a s xo yo (8 + (rmN mt (k / 64))) (by first | assumption | omega | exact Nat.zero_le _)) cs_X10_197 rfl [0, 2, 3] [1, 4] 5 rfl (by decide) rfl rfl rfl rfl rfl (Nat.le_of_ble_eq_true rfl) dX10_setComes_85 rfl ?_
      refine g_imul X dX10_setComes_88 ?_
      refine g_aload_n X 4 dX10_setComes_89 rfl ?_
      refine g_iload X 2 dX10_setComes_90 rfl ?_
      refine g_iload_n X 5 dX10_setComes_92 rfl ?_
      refine g_iload X 0 dX10_setComes_93 rfl ?_
      refine g_callVr (st2 := [.int (rArea xo yo (k / 64) i (k % 8)), .int ((farI (rArea xo yo i ((k / 8) % 8) (k % 8))) * (yo (8 + (rmN mt (k / 64)))))]) (q0 := 0) X (c_X10_area E a s xo yo (k / 64) i (k % 8) (by first | assumption | omega | exact Nat.zero_le _) (by first | assumption | omega | exact Nat.zero_le _) (by first | assumption | omega | exact Nat.zero_le _)) cs_X10_177 rfl [0, 2, 3] [1, 4] 5 rfl (by decide) rfl rfl rfl rfl rfl (Nat.le_of_ble_eq_true rfl) dX10_setComes_95 rfl ?_
      refine g_callSP (st2 := [.int (farI (rArea xo yo (k / 64) i (k % 8))), .int ((farI (rArea xo yo i ((k / 8) % 8) (k % 8))) * (yo (8 + (rmN mt (k / 64)))))]) (ws' := [wMd E a s, wAn E (a 2) 2 mm, wAr E (a 5) 16 xo, wAr E (a 6) 16 yo, wAr E (a 17) 16 mt].flatten) (wr := [wMd E a s, wAn E (a 2) 2 mm, wAr E (a 5) 16 xo, wAr E (a 6) 16 yo, wAr E (a 17) 16 mt].flatten) X (c_X10_far E (rArea xo yo (k / 64) i (k % 8))) cs_X10_180 rfl (List.Perm.refl _) rfl (List.Perm.refl _) rfl rfl (Nat.le_of_ble_eq_true rfl) dX10_setComes_98 rfl ?_
      refine g_aload_n X 4 dX10_setComes_101 rfl ?_
      refine g_bipush (v := (nI 8)) X dX10_setComes_102 rfl ?_
      refine g_aload_n X 4 dX10_setComes_104 rfl ?_
      refine g_getf (v := .ref (a 17)) X fs_X10_56 0 rfl rfl dX10_setComes_105 ?_
      refine g_iload X 1 dX10_setComes_108 rfl ?_
      refine g_iald X 4 rfl ((k / 8) % 8) (ix_nI (by omega) (by decide)) dX10_setComes_110 ?_
      rw [kb.1]
      refine g_iaddN X dX10_setComes_111 ?_
      refine g_iload_n X 6 dX10_setComes_112 rfl ?_
      refine g_callVr (st2 := [.int (yo (8 + (rmN mt ((k / 8) % 8)))), .int (farI (rArea xo yo (k / 64) i (k % 8))), .int ((farI (rArea xo yo i ((k / 8) % 8) (k % 8))) * (yo (8 + (rmN mt (k / 64)))))]) (q0 := 0) X (c_X10_placeOf_0 E a s xo yo (8 + (rmN mt ((k / 8) % 8))) (by first | assumption | omega | exact Nat.zero_le _)) cs_X10_197 rfl [0, 2, 3] [1, 4] 5 rfl (by decide) rfl rfl rfl rfl rfl (Nat.le_of_ble_eq_true rfl) dX10_setComes_113 rfl ?_
      refine g_imul X dX10_setComes_116 ?_
      refine g_iadd X dX10_setComes_117 ?_
      refine g_aload_n X 4 dX10_setComes_118 rfl ?_
      refine g_iload X 2 dX10_setComes_119 rfl ?_
      refine g_iload X 1 dX10_setComes_121 rfl ?_
      refine g_iload_n X 5 dX10_setComes_123 rfl ?_
      refine g_callVr (st2 := [.int (rArea xo yo (k / 64) ((k / 8) % 8) i), .int (((farI (rArea xo yo i ((k / 8) % 8) (k % 8))) * (yo (8 + (rmN mt (k / 64))))) + ((farI (rArea xo yo (k / 64) i (k % 8))) * (yo (8 + (rmN mt ((k / 8) % 8))))))]) (q0 := 0) X (c_X10_area E a s xo yo (k / 64) ((k / 8) % 8) i (by first | assumption | omega | exact Nat.zero_le _) (by first | assumption | omega | exact Nat.zero_le _) (by first | assumption | omega | exact Nat.zero_le _)) cs_X10_177 rfl [0, 2, 3] [1, 4] 5 rfl (by decide) rfl rfl rfl rfl rfl (Nat.le_of_ble_eq_true rfl) dX10_setComes_124 rfl ?_
      refine g_callSP (st2 := [.int (farI (rArea xo yo (k / 64) ((k / 8) % 8) i)), .int (((farI (rArea xo yo i ((k / 8) % 8) (k % 8))) * (yo (8 + (rmN mt (k / 64))))) + ((farI (rArea xo yo (k / 64) i (k % 8))) * (yo (8 + (rmN mt ((k / 8) % 8))))))]) (ws' := [wMd E a s, wAn E (a 2) 2 mm, wAr E (a 5) 16 xo, wAr E (a 6) 16 yo, wAr E (a 17) 16 mt].flatten) (wr := [wMd E a s, wAn E (a 2) 2 mm, wAr E (a 5) 16 xo, wAr E (a 6) 16 yo, wAr E (a 17) 16 mt].flatten) X (c_X10_far E (rArea xo yo (k / 64) ((k / 8) % 8) i)) cs_X10_180 rfl (List.Perm.refl _) rfl (List.Perm.refl _) rfl rfl (Nat.le_of_ble_eq_true rfl) dX10_setComes_127 rfl ?_
      refine g_aload_n X 4 dX10_setComes_130 rfl ?_
      refine g_bipush (v := (nI 8)) X dX10_setComes_131 rfl ?_
      refine g_aload_n X 4 dX10_setComes_133 rfl ?_
      refine g_getf (v := .ref (a 17)) X fs_X10_56 0 rfl rfl dX10_setComes_134 ?_
      refine g_iload X 0 dX10_setComes_137 rfl ?_
      refine g_iald X 4 rfl (k % 8) (ix_nI (by omega) (by decide)) dX10_setComes_139 ?_
      rw [kc.1]
      refine g_iaddN X dX10_setComes_140 ?_
      refine g_iload_n X 6 dX10_setComes_141 rfl ?_
      refine g_callVr (st2 := [.int (yo (8 + (rmN mt (k % 8)))), .int (farI (rArea xo yo (k / 64) ((k / 8) % 8) i)), .int (((farI (rArea xo yo i ((k / 8) % 8) (k % 8))) * (yo (8 + (rmN mt (k / 64))))) + ((farI (rArea xo yo (k / 64) i (k % 8))) * (yo (8 + (rmN mt ((k / 8) % 8))))))]) (q0 := 0) X (c_X10_placeOf_0 E a s xo yo (8 + (rmN mt (k % 8))) (by first | assumption | omega | exact Nat.zero_le _)) cs_X10_197 rfl [0, 2, 3] [1, 4] 5 rfl (by decide) rfl rfl rfl rfl rfl (Nat.le_of_ble_eq_true rfl) dX10_setComes_142 rfl ?_
      refine g_imul X dX10_setComes_145 ?_
      refine g_iadd X dX10_setComes_146 ?_
      refine g_istore (lv' := [(7, .int ((((farI (rArea xo yo i ((k / 8) % 8) (k % 8))) * (yo (8 + (rmN mt (k / 64))))) + ((farI (rArea xo yo (k / 64) i (k % 8))) * (yo (8 + (rmN mt ((k / 8) % 8)))))) + ((farI (rArea xo yo (k / 64) ((k / 8) % 8) i)) * (yo (8 + (rmN mt (k % 8))))))), (6, .int (nI (k % 8))), (5, .int (nI ((k / 8) % 8))), (4, .int (nI (k / 64))), (3, .int (nI k)), (0, .ref (a 0)), (1, .int (nI i)), (2, .int (nI 0))]) X dX10_setComes_147 (by decide) rfl ?_
      refine g_aload_n X 5 dX10_setComes_149 rfl ?_
      refine g_iload X 0 dX10_setComes_150 rfl ?_
      refine g_aload_n X 5 dX10_setComes_152 rfl ?_
      refine g_iload X 3 dX10_setComes_153 rfl ?_
      refine g_iload X 2 dX10_setComes_155 rfl ?_
      refine g_iload X 1 dX10_setComes_157 rfl ?_
      refine g_callVr (st2 := [.int (rArea xo yo (k / 64) ((k / 8) % 8) (k % 8)), .int ((((farI (rArea xo yo i ((k / 8) % 8) (k % 8))) * (yo (8 + (rmN mt (k / 64))))) + ((farI (rArea xo yo (k / 64) i (k % 8))) * (yo (8 + (rmN mt ((k / 8) % 8)))))) + ((farI (rArea xo yo (k / 64) ((k / 8) % 8) i)) * (yo (8 + (rmN mt (k % 8)))))), .ref (a 0)]) (q0 := 0) X (c_X10_area E a s xo yo (k / 64) ((k / 8) % 8) (k % 8) (by first | assumption | omega | exact Nat.zero_le _) (by first | assumption | omega | exact Nat.zero_le _) (by first | assumption | omega | exact Nat.zero_le _)) cs_X10_177 rfl [0, 2, 3] [1, 4] 5 rfl (by decide) rfl rfl rfl rfl rfl (Nat.le_of_ble_eq_true rfl) dX10_setComes_159 rfl ?_
      refine g_callSP (st2 := [.int (farI (rArea xo yo (k / 64) ((k / 8) % 8) (k % 8))), .int ((((farI (rArea xo yo i ((k / 8) % 8) (k % 8))) * (yo (8 + (rmN mt (k / 64))))) + ((farI (rArea xo yo (k / 64) i (k % 8))) * (yo (8 + (rmN mt ((k / 8) % 8)))))) + ((farI (rArea xo yo (k / 64) ((k / 8) % 8) i)) * (yo (8 + (rmN mt (k % 8)))))), .ref (a 0)]) (ws' := [wMd E a s, wAn E (a 2) 2 mm, wAr E (a 5) 16 xo, wAr E (a 6) 16 yo, wAr E (a 17) 16 mt].flatten) (wr := [wMd E a s, wAn E (a 2) 2 mm, wAr E (a 5) 16 xo, wAr E (a 6) 16 yo, wAr E (a 17) 16 mt].flatten) X (c_X10_far E (rArea xo yo (k / 64) ((k / 8) % 8) (k % 8))) cs_X10_180 rfl (List.Perm.refl _) rfl (List.Perm.refl _) rfl rfl (Nat.le_of_ble_eq_true rfl) dX10_setComes_162 rfl ?_
      refine g_callV (st2 := []) (S' := [wMd E a (dR s, dN0 s, dU s, dK s, dP s, ((((farI (rArea xo yo i ((k / 8) % 8) (k % 8))) * (yo (8 + (rmN mt (k / 64))))) + ((farI (rArea xo yo (k / 64) i (k % 8))) * (yo (8 + (rmN mt ((k / 8) % 8)))))) + ((farI (rArea xo yo (k / 64) ((k / 8) % 8) i)) * (yo (8 + (rmN mt (k % 8)))))) / nI (rGc ((((farI (rArea xo yo i ((k / 8) % 8) (k % 8))) * (yo (8 + (rmN mt (k / 64))))) + ((farI (rArea xo yo (k / 64) i (k % 8))) * (yo (8 + (rmN mt ((k / 8) % 8)))))) + ((farI (rArea xo yo (k / 64) ((k / 8) % 8) i)) * (yo (8 + (rmN mt (k % 8)))))) (farI (rArea xo yo (k / 64) ((k / 8) % 8) (k % 8)))), (farI (rArea xo yo (k / 64) ((k / 8) % 8) (k % 8))) / nI (rGc ((((farI (rArea xo yo i ((k / 8) % 8) (k % 8))) * (yo (8 + (rmN mt (k / 64))))) + ((farI (rArea xo yo (k / 64) i (k % 8))) * (yo (8 + (rmN mt ((k / 8) % 8)))))) + ((farI (rArea xo yo (k / 64) ((k / 8) % 8) i)) * (yo (8 + (rmN mt (k % 8)))))) (farI (rArea xo yo (k / 64) ((k / 8) % 8) (k % 8)))), dS s, dA s, dQ s), wAn E (a 2) 2 mm, wAr E (a 5) 16 xo, wAr E (a 6) 16 yo, wAr E (a 17) 16 mt]) (q0 := 0) X (c_X10_comesTo E a s ((((farI (rArea xo yo i ((k / 8) % 8) (k % 8))) * (yo (8 + (rmN mt (k / 64))))) + ((farI (rArea xo yo (k / 64) i (k % 8))) * (yo (8 + (rmN mt ((k / 8) % 8)))))) + ((farI (rArea xo yo (k / 64) ((k / 8) % 8) i)) * (yo (8 + (rmN mt (k % 8)))))) (farI (rArea xo yo (k / 64) ((k / 8) % 8) (k % 8))) (far_nn (rSm_bd (mt := mt) hyy hxx hyy hi (by omega) (by omega) (by omega) (by omega) (by omega) (by omega)) (by decide)) hq0) cs_X10_201 rfl [0] [1, 2, 3, 4] 5 rfl rfl (by decide) [wAn E (a 2) 2 mm, wAr E (a 5) 16 xo, wAr E (a 6) 16 yo, wAr E (a 17) 16 mt] rfl rfl rfl rfl (by simp only [List.map_cons, List.map_nil, fsAn, fsAr, fsMd]) rfl rfl rfl rfl (Nat.le_of_ble_eq_true rfl) dX10_setComes_165 rfl ?_
      exact g_vret X hx rfl rfl (by rw [rCm_t km ek hk]; rfl) dX10_setComes_168
  · have km : ¬ mt i = -4 := of_decide_eq_true c_5
    have ki := okMt4_at hm4 hi km
    have ki2 := ki.2
    refine g_aload_n X 0 dX10_setComes_8 rfl ?_
    refine g_aload_n X 0 dX10_setComes_9 rfl ?_
    refine g_bipush (v := (nI 8)) X dX10_setComes_10 rfl ?_
    refine g_aload_n X 0 dX10_setComes_12 rfl ?_
    refine g_getf (v := .ref (a 17)) X fs_X10_56 0 rfl rfl dX10_setComes_13 ?_
    refine g_iload_n X 1 dX10_setComes_16 rfl ?_
    refine g_iald X 4 rfl i (ix_nI (by omega) (by decide)) dX10_setComes_17 ?_
    rw [ki.1]
    refine g_iaddN X dX10_setComes_18 ?_
    refine g_iload_n X 2 dX10_setComes_19 rfl ?_
    refine g_callVr (st2 := [.int (yo (8 + (rmN mt i))), .ref (a 0)]) (q0 := 0) X (c_X10_placeOf_0 E a s xo yo (8 + (rmN mt i)) (by first | assumption | omega | exact Nat.zero_le _)) cs_X10_197 rfl [0, 2, 3] [1, 4] 5 rfl (by decide) rfl rfl rfl rfl rfl (Nat.le_of_ble_eq_true rfl) dX10_setComes_20 rfl ?_
    refine g_iconst (v := (nI 1)) X dX10_setComes_23 rfl ?_
    refine g_callV (st2 := []) (S' := [wMd E a (dR s, dN0 s, dU s, dK s, dP s, (yo (8 + (rmN mt i))) / nI (rGc (yo (8 + (rmN mt i))) (nI 1)), (nI 1) / nI (rGc (yo (8 + (rmN mt i))) (nI 1)), dS s, dA s, dQ s), wAn E (a 2) 2 mm, wAr E (a 5) 16 xo, wAr E (a 6) 16 yo, wAr E (a 17) 16 mt]) (q0 := 0) X (c_X10_comesTo E a s (yo (8 + (rmN mt i))) (nI 1) (far_nn (okXY_bd hyy (by omega)) (by decide)) (by decide)) cs_X10_201 rfl [0] [1, 2, 3, 4] 5 rfl rfl (by decide) [wAn E (a 2) 2 mm, wAr E (a 5) 16 xo, wAr E (a 6) 16 yo, wAr E (a 17) 16 mt] rfl rfl rfl rfl (by simp only [List.map_cons, List.map_nil, fsAn, fsAr, fsMd]) rfl rfl rfl rfl (Nat.le_of_ble_eq_true rfl) dX10_setComes_24 rfl ?_
    exact g_vret X hx rfl rfl (by rw [rCm_m km]; rfl) dX10_setComes_27
set_option maxHeartbeats 4000000 in
set_option maxRecDepth 100000 in
theorem c_X10_comes (E : GE) (a : Nat → Nat) (s : MD0) (mm : Nat → Nat) (ss : Nat → Nat) (kd : Nat → Int32) (xo : Nat → Int32) (yo : Nat → Int32) (fr : Nat → Int32) (tt : Nat → Int32) (be : Nat → Int32) (nx : Nat → Int32) (mt : Nat → Int32) (i : Int32) (q : Int32) (hmm : ∀ g, g < 2 → mm g ≤ 8) (hss : ∀ g, g < 2 → ss g ≤ 8) (hE : okE ss fr tt) (hN : dN0 s ≤ 3) (hxx : okXY xo) (hyy : okXY yo) : CT E m_X10_comes [.ref (a 0), .int i, .int q] ([wMd E a s, wAn E (a 2) 2 mm, wAn E (a 3) 2 ss, wAr E (a 4) 16 kd, wAr E (a 5) 16 xo, wAr E (a 6) 16 yo, wAr E (a 7) 16 fr, wAr E (a 8) 16 tt, wAr E (a 15) 64 be, wAr E (a 16) 64 nx, wAr E (a 17) 16 mt].flatten) (some (.int (if (hasR mm (nI 0) i && inR q (nI 0) (nI 3)) then rCv q (rCm xo xo yo mm (rMts false (rBelAll (dR s) (dN0 s) mm ss kd xo yo fr tt (be, nx)).1 mt) i.toNatClampNeg) (rCm yo xo yo mm (rMts false (rBelAll (dR s) (dN0 s) mm ss kd xo yo fr tt (be, nx)).1 mt) i.toNatClampNeg) else -1))) ([wMd E a (dR s, dN0 s, dU s, dK s, dP s, if (hasR mm (nI 0) i && inR q (nI 0) (nI 3)) then rCx (rCq q (rCm xo xo yo mm (rMts false (rBelAll (dR s) (dN0 s) mm ss kd xo yo fr tt (be, nx)).1 mt) i.toNatClampNeg) (rCm yo xo yo mm (rMts false (rBelAll (dR s) (dN0 s) mm ss kd xo yo fr tt (be, nx)).1 mt) i.toNatClampNeg)) else dX s, if (hasR mm (nI 0) i && inR q (nI 0) (nI 3)) then rCy (rCq q (rCm xo xo yo mm (rMts false (rBelAll (dR s) (dN0 s) mm ss kd xo yo fr tt (be, nx)).1 mt) i.toNatClampNeg) (rCm yo xo yo mm (rMts false (rBelAll (dR s) (dN0 s) mm ss kd xo yo fr tt (be, nx)).1 mt) i.toNatClampNeg)) else dY s, dS s, dA s, dQ s), wAn E (a 2) 2 mm, wAn E (a 3) 2 ss, wAr E (a 4) 16 kd, wAr E (a 5) 16 xo, wAr E (a 6) 16 yo, wAr E (a 7) 16 fr, wAr E (a 8) 16 tt, wAr E (a 15) 64 (if (hasR mm (nI 0) i && inR q (nI 0) (nI 3)) then (rBelAll (dR s) (dN0 s) mm ss kd xo yo fr tt (be, nx)).1 else be), wAr E (a 16) 64 (if (hasR mm (nI 0) i && inR q (nI 0) (nI 3)) then (rBelAll (dR s) (dN0 s) mm ss kd xo yo fr tt (be, nx)).2 else nx), wAr E (a 17) 16 (if (hasR mm (nI 0) i && inR q (nI 0) (nI 3)) then rMts false (rBelAll (dR s) (dN0 s) mm ss kd xo yo fr tt (be, nx)).1 mt else mt)].flatten) := by
  refine CT.intro (by decide +kernel) (Nat.le_of_ble_eq_true rfl) (fun Γ X hx => ?_)
  refine GG.lv [0, 1, 2] (lv' := [(0, .ref (a 0)), (1, .int i), (2, .int q)]) rfl ?_
  have hm0 := hmm 0 (by decide)
  have hm1 := hmm 1 (by decide)
  have hs0 := hss 0 (by decide)
  have hs1 := hss 1 (by decide)
  refine g_aload_n X 0 dX10_comes_0 rfl ?_
  refine g_iconst (v := (nI 0)) X dX10_comes_1 rfl ?_
  refine g_iload_n X 1 dX10_comes_2 rfl ?_
  refine g_callVr (st2 := [.int (b2i (hasR mm (nI 0) i))]) (q0 := 0) X (c_X10_isMeeting E a s mm (nI 0) i) cs_X10_92 rfl [0, 1] [2, 3, 4, 5, 6, 7, 8, 9, 10] 11 rfl (by decide) rfl rfl rfl rfl rfl (Nat.le_of_ble_eq_true rfl) dX10_comes_3 rfl ?_
  refine g_bif_eq (tgt := 18) X dX10_comes_6 (by decide) (fun c_6 => ?_) (fun c_6 => ?_)
  · refine g_iconst (v := (-1)) X dX10_comes_18 rfl ?_
    exact g_iretv (r := (-1)) X hx rfl (by simp only [c_6, decide_true, decide_false, not_true_eq_false, not_false_eq_true, Bool.true_and, Bool.false_and, Bool.and_true, Bool.and_false, Bool.true_or, Bool.false_or, Bool.or_true, Bool.or_false, and_true, true_and, and_false, false_and, or_true, true_or, or_false, false_or, if_true, if_false, Bool.false_eq_true, decide_eq_true_eq]) (by simp only [c_6, decide_true, decide_false, not_true_eq_false, not_false_eq_true, Bool.true_and, Bool.false_and, Bool.and_true, Bool.and_false, Bool.true_or, Bool.false_or, Bool.or_true, Bool.or_false, and_true, true_and, and_false, false_and, or_true, true_or, or_false, false_or, if_true, if_false, Bool.false_eq_true, decide_eq_true_eq]) dX10_comes_19
  · refine g_iload_n X 2 dX10_comes_9 rfl ?_
    refine g_iconst (v := (nI 0)) X dX10_comes_10 rfl ?_
    refine g_iconst (v := (nI 3)) X dX10_comes_11 rfl ?_
    refine g_callSP (st2 := [.int (b2i (inR q (nI 0) (nI 3)))]) (ws' := [wMd E a s, wAn E (a 2) 2 mm, wAn E (a 3) 2 ss, wAr E (a 4) 16 kd, wAr E (a 5) 16 xo, wAr E (a 6) 16 yo, wAr E (a 7) 16 fr, wAr E (a 8) 16 tt, wAr E (a 15) 64 be, wAr E (a 16) 64 nx, wAr E (a 17) 16 mt].flatten) (wr := [wMd E a s, wAn E (a 2) 2 mm, wAn E (a 3) 2 ss, wAr E (a 4) 16 kd, wAr E (a 5) 16 xo, wAr E (a 6) 16 yo, wAr E (a 7) 16 fr, wAr E (a 8) 16 tt, wAr E (a 15) 64 be, wAr E (a 16) 64 nx, wAr E (a 17) 16 mt].flatten) X (c_X10_in E q (nI 0) (nI 3)) cs_X10_84 rfl (List.Perm.refl _) rfl (List.Perm.refl _) rfl rfl (Nat.le_of_ble_eq_true rfl) dX10_comes_12 rfl ?_
    refine g_bif_ne (tgt := 20) X dX10_comes_15 (by decide) (fun c_15 => ?_) (fun c_15 => ?_)
    · obtain ⟨j, hj, rfl⟩ := hasR_0 hmm c_6
      obtain ⟨q1, hq1, rfl⟩ := inR_nI c_15 (by decide)
      rcases (show q1 = 0 ∨ q1 = 1 ∨ q1 = 2 ∨ q1 = 3 by omega) with rfl | rfl | rfl | rfl
      · refine g_aload_n X 0 dX10_comes_20 rfl ?_
        refine g_callV (st2 := []) (S' := [wMd E a s, wAn E (a 2) 2 mm, wAn E (a 3) 2 ss, wAr E (a 4) 16 kd, wAr E (a 5) 16 xo, wAr E (a 6) 16 yo, wAr E (a 7) 16 fr, wAr E (a 8) 16 tt, wAr E (a 15) 64 ((rBelAll (dR s) (dN0 s) mm ss kd xo yo fr tt (be, nx)).1), wAr E (a 16) 64 ((rBelAll (dR s) (dN0 s) mm ss kd xo yo fr tt (be, nx)).2), wAr E (a 17) 16 (rMts false (rBelAll (dR s) (dN0 s) mm ss kd xo yo fr tt (be, nx)).1 mt)]) (q0 := 0) X (c_X10_setMatches E a s mm ss kd xo yo fr tt be nx mt (by first | assumption | omega | exact Nat.zero_le _) (by first | assumption | omega | exact Nat.zero_le _) (by first | assumption | omega | exact Nat.zero_le _) (by first | assumption | omega | exact Nat.zero_le _)) cs_X10_156 rfl [0, 1, 2, 3, 4, 5, 6, 7, 8, 9, 10] [] 11 rfl rfl (by decide) [] rfl rfl rfl rfl (by simp only [List.map_cons, List.map_nil, fsAn, fsAr, fsMd]) rfl rfl rfl rfl (Nat.le_of_ble_eq_true rfl) dX10_comes_21 rfl ?_
        refine g_aload_n X 0 dX10_comes_24 rfl ?_
        refine g_iload_n X 1 dX10_comes_25 rfl ?_
        refine g_iload_n X 2 dX10_comes_26 rfl ?_
        refine g_iconst (v := (nI 2)) X dX10_comes_27 rfl ?_
        refine g_icmp_ge (tgt := 35) X dX10_comes_28 (by decide) (fun c_28 => absurd c_28 (by decide)) (fun c_28 => ?_)
        refine g_iconst (v := (nI 1)) X dX10_comes_31 rfl ?_
        refine g_goto (tgt := 36) X dX10_comes_32 (by decide) ?_
        refine g_callV (st2 := []) (S' := [wMd E a (dR s, dN0 s, dU s, dK s, dP s, rCx (rCm xo xo yo mm (rMts false (rBelAll (dR s) (dN0 s) mm ss kd xo yo fr tt (be, nx)).1 mt) j), rCy (rCm xo xo yo mm (rMts false (rBelAll (dR s) (dN0 s) mm ss kd xo yo fr tt (be, nx)).1 mt) j), dS s, dA s, dQ s), wAn E (a 2) 2 mm, wAn E (a 3) 2 ss, wAr E (a 4) 16 kd, wAr E (a 5) 16 xo, wAr E (a 6) 16 yo, wAr E (a 7) 16 fr, wAr E (a 8) 16 tt, wAr E (a 15) 64 ((rBelAll (dR s) (dN0 s) mm ss kd xo yo fr tt (be, nx)).1), wAr E (a 16) 64 ((rBelAll (dR s) (dN0 s) mm ss kd xo yo fr tt (be, nx)).2), wAr E (a 17) 16 (rMts false (rBelAll (dR s) (dN0 s) mm ss kd xo yo fr tt (be, nx)).1 mt)]) (q0 := 0) X (c_X10_setComes_1 E a s mm xo yo (rMts false (rBelAll (dR s) (dN0 s) mm ss kd xo yo fr tt (be, nx)).1 mt) j (by first | assumption | omega | exact Nat.zero_le _) (by first | assumption | omega | exact Nat.zero_le _) (okMt4_rMts _ _ _) (by first | assumption | omega | exact Nat.zero_le _) (by first | assumption | omega | exact Nat.zero_le _)) cs_X10_211 rfl [0, 1, 4, 5, 10] [2, 3, 6, 7, 8, 9] 11 rfl rfl (by decide) [wAn E (a 3) 2 ss, wAr E (a 4) 16 kd, wAr E (a 7) 16 fr, wAr E (a 8) 16 tt, wAr E (a 15) 64 ((rBelAll (dR s) (dN0 s) mm ss kd xo yo fr tt (be, nx)).1), wAr E (a 16) 64 ((rBelAll (dR s) (dN0 s) mm ss kd xo yo fr tt (be, nx)).2)] rfl rfl rfl rfl (by simp only [List.map_cons, List.map_nil, fsAn, fsAr, fsMd]) rfl rfl rfl rfl (Nat.le_of_ble_eq_true rfl) dX10_comes_36 rfl ?_
        refine g_iload_n X 2 dX10_comes_39 rfl ?_
        refine g_iconst (v := (nI 2)) X dX10_comes_40 rfl ?_
        refine g_iremN X (by omega) (by omega) (by omega) dX10_comes_41 ?_
        refine g_if_ne (tgt := 55) X dX10_comes_42 (by decide) (fun c_42 => absurd c_42 (by decide)) (fun c_42 => ?_)
        refine g_aload_n X 0 dX10_comes_45 rfl ?_
        refine g_getf (v := .int (rCx (rCm xo xo yo mm (rMts false (rBelAll (dR s) (dN0 s) mm ss kd xo yo fr tt (be, nx)).1 mt) j))) X fs_X10_183 0 rfl rfl dX10_comes_46 ?_
        refine g_ldc (v := (nI 100000)) X dX10_comes_49 ks_X10_215 ?_
        refine g_iadd X dX10_comes_51 ?_
        refine g_goto (tgt := 59) X dX10_comes_52 (by decide) ?_
        exact g_iretv (r := ((rCx (rCm xo xo yo mm (rMts false (rBelAll (dR s) (dN0 s) mm ss kd xo yo fr tt (be, nx)).1 mt) j)) + (nI 100000))) X hx rfl (by simp only [rCv, c_6, c_15, nI_clamp (show j < 2 ^ 31 by omega), show (nI 1 = nI 0) = False from by decide, show (nI 2 = nI 0) = False from by decide, show (nI 2 = nI 1) = False from by decide, show (nI 3 = nI 0) = False from by decide, show (nI 3 = nI 1) = False from by decide, show (nI 3 = nI 2) = False from by decide, decide_true, decide_false, not_true_eq_false, not_false_eq_true, Bool.true_and, Bool.false_and, Bool.and_true, Bool.and_false, Bool.true_or, Bool.false_or, Bool.or_true, Bool.or_false, and_true, true_and, and_false, false_and, or_true, true_or, or_false, false_or, if_true, if_false, Bool.false_eq_true, decide_eq_true_eq]) (by simp only [rCq, c_6, c_15, nI_clamp (show j < 2 ^ 31 by omega), show (nI 1 = nI 0) = False from by decide, show (nI 2 = nI 0) = False from by decide, show (nI 2 = nI 1) = False from by decide, show (nI 3 = nI 0) = False from by decide, show (nI 3 = nI 1) = False from by decide, show (nI 3 = nI 2) = False from by decide, decide_true, decide_false, not_true_eq_false, not_false_eq_true, Bool.true_and, Bool.false_and, Bool.and_true, Bool.and_false, Bool.true_or, Bool.false_or, Bool.or_true, Bool.or_false, and_true, true_and, and_false, false_and, or_true, true_or, or_false, false_or, if_true, if_false, Bool.false_eq_true, decide_eq_true_eq]) dX10_comes_59
      · refine g_aload_n X 0 dX10_comes_20 rfl ?_
        refine g_callV (st2 := []) (S' := [wMd E a s, wAn E (a 2) 2 mm, wAn E (a 3) 2 ss, wAr E (a 4) 16 kd, wAr E (a 5) 16 xo, wAr E (a 6) 16 yo, wAr E (a 7) 16 fr, wAr E (a 8) 16 tt, wAr E (a 15) 64 ((rBelAll (dR s) (dN0 s) mm ss kd xo yo fr tt (be, nx)).1), wAr E (a 16) 64 ((rBelAll (dR s) (dN0 s) mm ss kd xo yo fr tt (be, nx)).2), wAr E (a 17) 16 (rMts false (rBelAll (dR s) (dN0 s) mm ss kd xo yo fr tt (be, nx)).1 mt)]) (q0 := 0) X (c_X10_setMatches E a s mm ss kd xo yo fr tt be nx mt (by first | assumption | omega | exact Nat.zero_le _) (by first | assumption | omega | exact Nat.zero_le _) (by first | assumption | omega | exact Nat.zero_le _) (by first | assumption | omega | exact Nat.zero_le _)) cs_X10_156 rfl [0, 1, 2, 3, 4, 5, 6, 7, 8, 9, 10] [] 11 rfl rfl (by decide) [] rfl rfl rfl rfl (by simp only [List.map_cons, List.map_nil, fsAn, fsAr, fsMd]) rfl rfl rfl rfl (Nat.le_of_ble_eq_true rfl) dX10_comes_21 rfl ?_
        refine g_aload_n X 0 dX10_comes_24 rfl ?_
        refine g_iload_n X 1 dX10_comes_25 rfl ?_
        refine g_iload_n X 2 dX10_comes_26 rfl ?_
        refine g_iconst (v := (nI 2)) X dX10_comes_27 rfl ?_
        refine g_icmp_ge (tgt := 35) X dX10_comes_28 (by decide) (fun c_28 => absurd c_28 (by decide)) (fun c_28 => ?_)
        refine g_iconst (v := (nI 1)) X dX10_comes_31 rfl ?_
        refine g_goto (tgt := 36) X dX10_comes_32 (by decide) ?_
        refine g_callV (st2 := []) (S' := [wMd E a (dR s, dN0 s, dU s, dK s, dP s, rCx (rCm xo xo yo mm (rMts false (rBelAll (dR s) (dN0 s) mm ss kd xo yo fr tt (be, nx)).1 mt) j), rCy (rCm xo xo yo mm (rMts false (rBelAll (dR s) (dN0 s) mm ss kd xo yo fr tt (be, nx)).1 mt) j), dS s, dA s, dQ s), wAn E (a 2) 2 mm, wAn E (a 3) 2 ss, wAr E (a 4) 16 kd, wAr E (a 5) 16 xo, wAr E (a 6) 16 yo, wAr E (a 7) 16 fr, wAr E (a 8) 16 tt, wAr E (a 15) 64 ((rBelAll (dR s) (dN0 s) mm ss kd xo yo fr tt (be, nx)).1), wAr E (a 16) 64 ((rBelAll (dR s) (dN0 s) mm ss kd xo yo fr tt (be, nx)).2), wAr E (a 17) 16 (rMts false (rBelAll (dR s) (dN0 s) mm ss kd xo yo fr tt (be, nx)).1 mt)]) (q0 := 0) X (c_X10_setComes_1 E a s mm xo yo (rMts false (rBelAll (dR s) (dN0 s) mm ss kd xo yo fr tt (be, nx)).1 mt) j (by first | assumption | omega | exact Nat.zero_le _) (by first | assumption | omega | exact Nat.zero_le _) (okMt4_rMts _ _ _) (by first | assumption | omega | exact Nat.zero_le _) (by first | assumption | omega | exact Nat.zero_le _)) cs_X10_211 rfl [0, 1, 4, 5, 10] [2, 3, 6, 7, 8, 9] 11 rfl rfl (by decide) [wAn E (a 3) 2 ss, wAr E (a 4) 16 kd, wAr E (a 7) 16 fr, wAr E (a 8) 16 tt, wAr E (a 15) 64 ((rBelAll (dR s) (dN0 s) mm ss kd xo yo fr tt (be, nx)).1), wAr E (a 16) 64 ((rBelAll (dR s) (dN0 s) mm ss kd xo yo fr tt (be, nx)).2)] rfl rfl rfl rfl (by simp only [List.map_cons, List.map_nil, fsAn, fsAr, fsMd]) rfl rfl rfl rfl (Nat.le_of_ble_eq_true rfl) dX10_comes_36 rfl ?_
        refine g_iload_n X 2 dX10_comes_39 rfl ?_
        refine g_iconst (v := (nI 2)) X dX10_comes_40 rfl ?_
        refine g_iremN X (by omega) (by omega) (by omega) dX10_comes_41 ?_
        refine g_if_ne (tgt := 55) X dX10_comes_42 (by decide) (fun c_42 => ?_) (fun c_42 => absurd c_42 (by decide))
        refine g_aload_n X 0 dX10_comes_55 rfl ?_
        refine g_getf (v := .int (rCy (rCm xo xo yo mm (rMts false (rBelAll (dR s) (dN0 s) mm ss kd xo yo fr tt (be, nx)).1 mt) j))) X fs_X10_186 0 rfl rfl dX10_comes_56 ?_
        exact g_iretv (r := (rCy (rCm xo xo yo mm (rMts false (rBelAll (dR s) (dN0 s) mm ss kd xo yo fr tt (be, nx)).1 mt) j))) X hx rfl (by simp only [rCv, c_6, c_15, nI_clamp (show j < 2 ^ 31 by omega), show (nI 1 = nI 0) = False from by decide, show (nI 2 = nI 0) = False from by decide, show (nI 2 = nI 1) = False from by decide, show (nI 3 = nI 0) = False from by decide, show (nI 3 = nI 1) = False from by decide, show (nI 3 = nI 2) = False from by decide, decide_true, decide_false, not_true_eq_false, not_false_eq_true, Bool.true_and, Bool.false_and, Bool.and_true, Bool.and_false, Bool.true_or, Bool.false_or, Bool.or_true, Bool.or_false, and_true, true_and, and_false, false_and, or_true, true_or, or_false, false_or, if_true, if_false, Bool.false_eq_true, decide_eq_true_eq]) (by simp only [rCq, c_6, c_15, nI_clamp (show j < 2 ^ 31 by omega), show (nI 1 = nI 0) = False from by decide, show (nI 2 = nI 0) = False from by decide, show (nI 2 = nI 1) = False from by decide, show (nI 3 = nI 0) = False from by decide, show (nI 3 = nI 1) = False from by decide, show (nI 3 = nI 2) = False from by decide, decide_true, decide_false, not_true_eq_false, not_false_eq_true, Bool.true_and, Bool.false_and, Bool.and_true, Bool.and_false, Bool.true_or, Bool.false_or, Bool.or_true, Bool.or_false, and_true, true_and, and_false, false_and, or_true, true_or, or_false, false_or, if_true, if_false, Bool.false_eq_true, decide_eq_true_eq]) dX10_comes_59
      · refine g_aload_n X 0 dX10_comes_20 rfl ?_
        refine g_callV (st2 := []) (S' := [wMd E a s, wAn E (a 2) 2 mm, wAn E (a 3) 2 ss, wAr E (a 4) 16 kd, wAr E (a 5) 16 xo, wAr E (a 6) 16 yo, wAr E (a 7) 16 fr, wAr E (a 8) 16 tt, wAr E (a 15) 64 ((rBelAll (dR s) (dN0 s) mm ss kd xo yo fr tt (be, nx)).1), wAr E (a 16) 64 ((rBelAll (dR s) (dN0 s) mm ss kd xo yo fr tt (be, nx)).2), wAr E (a 17) 16 (rMts false (rBelAll (dR s) (dN0 s) mm ss kd xo yo fr tt (be, nx)).1 mt)]) (q0 := 0) X (c_X10_setMatches E a s mm ss kd xo yo fr tt be nx mt (by first | assumption | omega | exact Nat.zero_le _) (by first | assumption | omega | exact Nat.zero_le _) (by first | assumption | omega | exact Nat.zero_le _) (by first | assumption | omega | exact Nat.zero_le _)) cs_X10_156 rfl [0, 1, 2, 3, 4, 5, 6, 7, 8, 9, 10] [] 11 rfl rfl (by decide) [] rfl rfl rfl rfl (by simp only [List.map_cons, List.map_nil, fsAn, fsAr, fsMd]) rfl rfl rfl rfl (Nat.le_of_ble_eq_true rfl) dX10_comes_21 rfl ?_
        refine g_aload_n X 0 dX10_comes_24 rfl ?_
        refine g_iload_n X 1 dX10_comes_25 rfl ?_
        refine g_iload_n X 2 dX10_comes_26 rfl ?_
        refine g_iconst (v := (nI 2)) X dX10_comes_27 rfl ?_
        refine g_icmp_ge (tgt := 35) X dX10_comes_28 (by decide) (fun c_28 => ?_) (fun c_28 => absurd c_28 (by decide))
        refine g_iconst (v := (nI 0)) X dX10_comes_35 rfl ?_
        refine g_callV (st2 := []) (S' := [wMd E a (dR s, dN0 s, dU s, dK s, dP s, rCx (rCm yo xo yo mm (rMts false (rBelAll (dR s) (dN0 s) mm ss kd xo yo fr tt (be, nx)).1 mt) j), rCy (rCm yo xo yo mm (rMts false (rBelAll (dR s) (dN0 s) mm ss kd xo yo fr tt (be, nx)).1 mt) j), dS s, dA s, dQ s), wAn E (a 2) 2 mm, wAn E (a 3) 2 ss, wAr E (a 4) 16 kd, wAr E (a 5) 16 xo, wAr E (a 6) 16 yo, wAr E (a 7) 16 fr, wAr E (a 8) 16 tt, wAr E (a 15) 64 ((rBelAll (dR s) (dN0 s) mm ss kd xo yo fr tt (be, nx)).1), wAr E (a 16) 64 ((rBelAll (dR s) (dN0 s) mm ss kd xo yo fr tt (be, nx)).2), wAr E (a 17) 16 (rMts false (rBelAll (dR s) (dN0 s) mm ss kd xo yo fr tt (be, nx)).1 mt)]) (q0 := 0) X (c_X10_setComes_0 E a s mm xo yo (rMts false (rBelAll (dR s) (dN0 s) mm ss kd xo yo fr tt (be, nx)).1 mt) j (by first | assumption | omega | exact Nat.zero_le _) (by first | assumption | omega | exact Nat.zero_le _) (okMt4_rMts _ _ _) (by first | assumption | omega | exact Nat.zero_le _) (by first | assumption | omega | exact Nat.zero_le _)) cs_X10_211 rfl [0, 1, 4, 5, 10] [2, 3, 6, 7, 8, 9] 11 rfl rfl (by decide) [wAn E (a 3) 2 ss, wAr E (a 4) 16 kd, wAr E (a 7) 16 fr, wAr E (a 8) 16 tt, wAr E (a 15) 64 ((rBelAll (dR s) (dN0 s) mm ss kd xo yo fr tt (be, nx)).1), wAr E (a 16) 64 ((rBelAll (dR s) (dN0 s) mm ss kd xo yo fr tt (be, nx)).2)] rfl rfl rfl rfl (by simp only [List.map_cons, List.map_nil, fsAn, fsAr, fsMd]) rfl rfl rfl rfl (Nat.le_of_ble_eq_true rfl) dX10_comes_36 rfl ?_
        refine g_iload_n X 2 dX10_comes_39 rfl ?_
        refine g_iconst (v := (nI 2)) X dX10_comes_40 rfl ?_
        refine g_iremN X (by omega) (by omega) (by omega) dX10_comes_41 ?_
        refine g_if_ne (tgt := 55) X dX10_comes_42 (by decide) (fun c_42 => absurd c_42 (by decide)) (fun c_42 => ?_)
        refine g_aload_n X 0 dX10_comes_45 rfl ?_
        refine g_getf (v := .int (rCx (rCm yo xo yo mm (rMts false (rBelAll (dR s) (dN0 s) mm ss kd xo yo fr tt (be, nx)).1 mt) j))) X fs_X10_183 0 rfl rfl dX10_comes_46 ?_
        refine g_ldc (v := (nI 100000)) X dX10_comes_49 ks_X10_215 ?_
        refine g_iadd X dX10_comes_51 ?_
        refine g_goto (tgt := 59) X dX10_comes_52 (by decide) ?_
        exact g_iretv (r := ((rCx (rCm yo xo yo mm (rMts false (rBelAll (dR s) (dN0 s) mm ss kd xo yo fr tt (be, nx)).1 mt) j)) + (nI 100000))) X hx rfl (by simp only [rCv, c_6, c_15, nI_clamp (show j < 2 ^ 31 by omega), show (nI 1 = nI 0) = False from by decide, show (nI 2 = nI 0) = False from by decide, show (nI 2 = nI 1) = False from by decide, show (nI 3 = nI 0) = False from by decide, show (nI 3 = nI 1) = False from by decide, show (nI 3 = nI 2) = False from by decide, decide_true, decide_false, not_true_eq_false, not_false_eq_true, Bool.true_and, Bool.false_and, Bool.and_true, Bool.and_false, Bool.true_or, Bool.false_or, Bool.or_true, Bool.or_false, and_true, true_and, and_false, false_and, or_true, true_or, or_false, false_or, if_true, if_false, Bool.false_eq_true, decide_eq_true_eq]) (by simp only [rCq, c_6, c_15, nI_clamp (show j < 2 ^ 31 by omega), show (nI 1 = nI 0) = False from by decide, show (nI 2 = nI 0) = False from by decide, show (nI 2 = nI 1) = False from by decide, show (nI 3 = nI 0) = False from by decide, show (nI 3 = nI 1) = False from by decide, show (nI 3 = nI 2) = False from by decide, decide_true, decide_false, not_true_eq_false, not_false_eq_true, Bool.true_and, Bool.false_and, Bool.and_true, Bool.and_false, Bool.true_or, Bool.false_or, Bool.or_true, Bool.or_false, and_true, true_and, and_false, false_and, or_true, true_or, or_false, false_or, if_true, if_false, Bool.false_eq_true, decide_eq_true_eq]) dX10_comes_59
      · refine g_aload_n X 0 dX10_comes_20 rfl ?_
        refine g_callV (st2 := []) (S' := [wMd E a s, wAn E (a 2) 2 mm, wAn E (a 3) 2 ss, wAr E (a 4) 16 kd, wAr E (a 5) 16 xo, wAr E (a 6) 16 yo, wAr E (a 7) 16 fr, wAr E (a 8) 16 tt, wAr E (a 15) 64 ((rBelAll (dR s) (dN0 s) mm ss kd xo yo fr tt (be, nx)).1), wAr E (a 16) 64 ((rBelAll (dR s) (dN0 s) mm ss kd xo yo fr tt (be, nx)).2), wAr E (a 17) 16 (rMts false (rBelAll (dR s) (dN0 s) mm ss kd xo yo fr tt (be, nx)).1 mt)]) (q0 := 0) X (c_X10_setMatches E a s mm ss kd xo yo fr tt be nx mt (by first | assumption | omega | exact Nat.zero_le _) (by first | assumption | omega | exact Nat.zero_le _) (by first | assumption | omega | exact Nat.zero_le _) (by first | assumption | omega | exact Nat.zero_le _)) cs_X10_156 rfl [0, 1, 2, 3, 4, 5, 6, 7, 8, 9, 10] [] 11 rfl rfl (by decide) [] rfl rfl rfl rfl (by simp only [List.map_cons, List.map_nil, fsAn, fsAr, fsMd]) rfl rfl rfl rfl (Nat.le_of_ble_eq_true rfl) dX10_comes_21 rfl ?_
        refine g_aload_n X 0 dX10_comes_24 rfl ?_
        refine g_iload_n X 1 dX10_comes_25 rfl ?_
        refine g_iload_n X 2 dX10_comes_26 rfl ?_
        refine g_iconst (v := (nI 2)) X dX10_comes_27 rfl ?_
        refine g_icmp_ge (tgt := 35) X dX10_comes_28 (by decide) (fun c_28 => ?_) (fun c_28 => absurd c_28 (by decide))
        refine g_iconst (v := (nI 0)) X dX10_comes_35 rfl ?_
        refine g_callV (st2 := []) (S' := [wMd E a (dR s, dN0 s, dU s, dK s, dP s, rCx (rCm yo xo yo mm (rMts false (rBelAll (dR s) (dN0 s) mm ss kd xo yo fr tt (be, nx)).1 mt) j), rCy (rCm yo xo yo mm (rMts false (rBelAll (dR s) (dN0 s) mm ss kd xo yo fr tt (be, nx)).1 mt) j), dS s, dA s, dQ s), wAn E (a 2) 2 mm, wAn E (a 3) 2 ss, wAr E (a 4) 16 kd, wAr E (a 5) 16 xo, wAr E (a 6) 16 yo, wAr E (a 7) 16 fr, wAr E (a 8) 16 tt, wAr E (a 15) 64 ((rBelAll (dR s) (dN0 s) mm ss kd xo yo fr tt (be, nx)).1), wAr E (a 16) 64 ((rBelAll (dR s) (dN0 s) mm ss kd xo yo fr tt (be, nx)).2), wAr E (a 17) 16 (rMts false (rBelAll (dR s) (dN0 s) mm ss kd xo yo fr tt (be, nx)).1 mt)]) (q0 := 0) X (c_X10_setComes_0 E a s mm xo yo (rMts false (rBelAll (dR s) (dN0 s) mm ss kd xo yo fr tt (be, nx)).1 mt) j (by first | assumption | omega | exact Nat.zero_le _) (by first | assumption | omega | exact Nat.zero_le _) (okMt4_rMts _ _ _) (by first | assumption | omega | exact Nat.zero_le _) (by first | assumption | omega | exact Nat.zero_le _)) cs_X10_211 rfl [0, 1, 4, 5, 10] [2, 3, 6, 7, 8, 9] 11 rfl rfl (by decide) [wAn E (a 3) 2 ss, wAr E (a 4) 16 kd, wAr E (a 7) 16 fr, wAr E (a 8) 16 tt, wAr E (a 15) 64 ((rBelAll (dR s) (dN0 s) mm ss kd xo yo fr tt (be, nx)).1), wAr E (a 16) 64 ((rBelAll (dR s) (dN0 s) mm ss kd xo yo fr tt (be, nx)).2)] rfl rfl rfl rfl (by simp only [List.map_cons, List.map_nil, fsAn, fsAr, fsMd]) rfl rfl rfl rfl (Nat.le_of_ble_eq_true rfl) dX10_comes_36 rfl ?_
        refine g_iload_n X 2 dX10_comes_39 rfl ?_
        refine g_iconst (v := (nI 2)) X dX10_comes_40 rfl ?_
        refine g_iremN X (by omega) (by omega) (by omega) dX10_comes_41 ?_
        refine g_if_ne (tgt := 55) X dX10_comes_42 (by decide) (fun c_42 => ?_) (fun c_42 => absurd c_42 (by decide))
        refine g_aload_n X 0 dX10_comes_55 rfl ?_
        refine g_getf (v := .int (rCy (rCm yo xo yo mm (rMts false (rBelAll (dR s) (dN0 s) mm ss kd xo yo fr tt (be, nx)).1 mt) j))) X fs_X10_186 0 rfl rfl dX10_comes_56 ?_
        exact g_iretv (r := (rCy (rCm yo xo yo mm (rMts false (rBelAll (dR s) (dN0 s) mm ss kd xo yo fr tt (be, nx)).1 mt) j))) X hx rfl (by simp only [rCv, c_6, c_15, nI_clamp (show j < 2 ^ 31 by omega), show (nI 1 = nI 0) = False from by decide, show (nI 2 = nI 0) = False from by decide, show (nI 2 = nI 1) = False from by decide, show (nI 3 = nI 0) = False from by decide, show (nI 3 = nI 1) = False from by decide, show (nI 3 = nI 2) = False from by decide, decide_true, decide_false, not_true_eq_false, not_false_eq_true, Bool.true_and, Bool.false_and, Bool.and_true, Bool.and_false, Bool.true_or, Bool.false_or, Bool.or_true, Bool.or_false, and_true, true_and, and_false, false_and, or_true, true_or, or_false, false_or, if_true, if_false, Bool.false_eq_true, decide_eq_true_eq]) (by simp only [rCq, c_6, c_15, nI_clamp (show j < 2 ^ 31 by omega), show (nI 1 = nI 0) = False from by decide, show (nI 2 = nI 0) = False from by decide, show (nI 2 = nI 1) = False from by decide, show (nI 3 = nI 0) = False from by decide, show (nI 3 = nI 1) = False from by decide, show (nI 3 = nI 2) = False from by decide, decide_true, decide_false, not_true_eq_false, not_false_eq_true, Bool.true_and, Bool.false_and, Bool.and_true, Bool.and_false, Bool.true_or, Bool.false_or, Bool.or_true, Bool.or_false, and_true, true_and, and_false, false_and, or_true, true_or, or_false, false_or, if_true, if_false, Bool.false_eq_true, decide_eq_true_eq]) dX10_comes_59
    · refine g_iconst (v := (-1)) X dX10_comes_18 rfl ?_
      exact g_iretv (r := (-1)) X hx rfl (by simp only [c_6, c_15, decide_true, decide_false, not_true_eq_false, not_false_eq_true, Bool.true_and, Bool.false_and, Bool.and_true, Bool.and_false, Bool.true_or, Bool.false_or, Bool.or_true, Bool.or_false, and_true, true_and, and_false, false_and, or_true, true_or, or_false, false_or, if_true, if_false, Bool.false_eq_true, decide_eq_true_eq]) (by simp only [c_6, c_15, decide_true, decide_false, not_true_eq_false, not_false_eq_true, Bool.true_and, Bool.false_and, Bool.and_true, Bool.and_false, Bool.true_or, Bool.false_or, Bool.or_true, Bool.or_false, and_true, true_and, and_false, false_and, or_true, true_or, or_false, false_or, if_true, if_false, Bool.false_eq_true, decide_eq_true_eq]) dX10_comes_19
set_option maxHeartbeats 4000000 in
set_option maxRecDepth 100000 in
theorem c_X10_matchedMany (E : GE) (a : Nat → Nat) (s : MD0) (mm : Nat → Nat) (mt : Nat → Int32) (hmm : ∀ g, g < 2 → mm g ≤ 8) : CT E m_X10_matchedMany [.ref (a 0)] ([wMd E a s, wAn E (a 2) 2 mm, wAr E (a 17) 16 mt].flatten) (some (.int (nI (rCnt mt (mm 0))))) ([wMd E a s, wAn E (a 2) 2 mm, wAr E (a 17) 16 mt].flatten) := by
  refine CT.intro (by decide +kernel) (Nat.le_of_ble_eq_true rfl) (fun Γ X hx => ?_)
  refine GG.lv [0] (lv' := [(0, .ref (a 0))]) rfl ?_
  have hm0 := hmm 0 (by decide)
  have hm1 := hmm 1 (by decide)
  refine g_iconst (v := (nI 0)) X dX10_matchedMany_0 rfl ?_
  refine g_istore_n (lv' := [(1, .int (nI 0)), (0, .ref (a 0))]) X dX10_matchedMany_1 (by decide) rfl ?_
  refine g_iconst (v := (nI 0)) X dX10_matchedMany_2 rfl ?_
  refine g_istore_n (lv' := [(2, .int (nI 0)), (1, .int (nI 0)), (0, .ref (a 0))]) X dX10_matchedMany_3 (by decide) rfl ?_
  have L_4 : ∀ (n_4 : Nat) (k : Nat) (hk : k ≤ mm 0) (hm_4 : mm 0 - k < n_4) (x_1 : Int32) (ex_1 : x_1 = (nI (rCnt mt k))) (x_2 : Int32) (ex_2 : x_2 = (nI k)), GG E m_X10_matchedMany Γ 0 0 ([wMd E a s, wAn E (a 2) 2 mm, wAr E (a 17) 16 mt].flatten) [(0, .ref (a 0)), (1, .int x_1), (2, .int x_2)] 4 [] := by
    intro n_4
    induction n_4 with
    | zero => intro k hk hm_4; exact absurd hm_4 (Nat.not_lt_zero _)
    | succ n_4 ih_4 =>
      intro k hk hm_4 x_1 ex_1 x_2 ex_2
      subst ex_1
      subst ex_2
      refine g_iload_n X 2 dX10_matchedMany_4 rfl ?_
      refine g_aload_n X 0 dX10_matchedMany_5 rfl ?_
      refine g_getf (v := .ref (a 2)) X fs_X10_16 0 rfl rfl dX10_matchedMany_6 ?_
      refine g_iconst (v := (nI 0)) X dX10_matchedMany_9 rfl ?_
      refine g_anld (f := mm) X 1 rfl 0 (ix_nI (by omega) (by decide)) dX10_matchedMany_10 ?_
      refine g_icmp_ge (tgt := 36) X dX10_matchedMany_11 (by decide) (fun c_11 => ?_) (fun c_11 => ?_)
      · have f_c_11 : mm 0 ≤ k := n_le (by omega) (by omega) c_11
        have fn_c_11 := Nat.not_lt.mpr f_c_11
        refine g_iload_n X 1 dX10_matchedMany_36 rfl ?_
        exact g_iretv (r := (nI (rCnt mt k))) X hx rfl (by rw [show mm 0 = k by omega]) (by rfl) dX10_matchedMany_37
      · have f_c_11 : k < mm 0 := n_nle (by omega) (by omega) c_11
        have fn_c_11 := Nat.not_le.mpr f_c_11
        refine g_iload_n X 1 dX10_matchedMany_14 rfl ?_
        refine g_aload_n X 0 dX10_matchedMany_15 rfl ?_
        refine g_iload_n X 2 dX10_matchedMany_16 rfl ?_
        refine g_callVr (st2 := [.int (b2i (decide (¬ mt k = -4))), .int (nI (rCnt mt k))]) (q0 := 0) X (c_X10_isMatched E a s mt k (by first | assumption | omega | exact Nat.zero_le _)) cs_X10_190 rfl [0, 2] [1] 3 rfl (by decide) rfl rfl rfl rfl rfl (Nat.le_of_ble_eq_true rfl) dX10_matchedMany_17 rfl ?_
        refine g_bif_eq (tgt := 27) X dX10_matchedMany_20 (by decide) (fun c_20 => ?_) (fun c_20 => ?_)
        · refine g_iconst (v := (nI 0)) X dX10_matchedMany_27 rfl ?_
          refine g_iaddN X dX10_matchedMany_28 ?_
          refine g_istore_n (lv' := [(1, .int (nI ((rCnt mt k) + 0))), (0, .ref (a 0)), (2, .int (nI k))]) X dX10_matchedMany_29 (by decide) rfl ?_
          refine g_iincN (lv' := [(2, .int (nI (k + 1))), (1, .int (nI ((rCnt mt k) + 0))), (0, .ref (a 0))]) X 2 dX10_matchedMany_30 rfl (by decide) rfl ?_
          refine g_goto (tgt := 4) X dX10_matchedMany_33 (by decide) ?_
          refine GG.lv [2, 1, 0] rfl ?_
          exact ih_4 (k + 1) (by omega) (by omega) (nI ((rCnt mt k) + 0)) (by unfold rCnt; rw [← cntB_f (by simpa using c_20), Nat.add_zero]) (nI (k + 1)) (by rfl)
        · refine g_iconst (v := (nI 1)) X dX10_matchedMany_23 rfl ?_
          refine g_goto (tgt := 28) X dX10_matchedMany_24 (by decide) ?_
          refine g_iaddN X dX10_matchedMany_28 ?_
          refine g_istore_n (lv' := [(1, .int (nI ((rCnt mt k) + 1))), (0, .ref (a 0)), (2, .int (nI k))]) X dX10_matchedMany_29 (by decide) rfl ?_
          refine g_iincN (lv' := [(2, .int (nI (k + 1))), (1, .int (nI ((rCnt mt k) + 1))), (0, .ref (a 0))]) X 2 dX10_matchedMany_30 rfl (by decide) rfl ?_
          refine g_goto (tgt := 4) X dX10_matchedMany_33 (by decide) ?_
          refine GG.lv [2, 1, 0] rfl ?_
          exact ih_4 (k + 1) (by omega) (by omega) (nI ((rCnt mt k) + 1)) (by unfold rCnt; rw [cntB_t (by simpa using c_20)]) (nI (k + 1)) (by rfl)
  refine GG.lv [2, 1, 0] rfl ?_
  exact L_4 (mm 0 + 1) 0 (by omega) (by omega) (nI 0) (by rfl) (nI 0) (by rfl)
set_option maxHeartbeats 4000000 in
set_option maxRecDepth 100000 in
theorem c_X10_turnedMany (E : GE) (a : Nat → Nat) (s : MD0) (mm : Nat → Nat) (xo : Nat → Int32) (yo : Nat → Int32) (mt : Nat → Int32) (hmm : ∀ g, g < 2 → mm g ≤ 8) (hm4 : okMt4 mt) : CT E m_X10_turnedMany [.ref (a 0)] ([wMd E a s, wAn E (a 2) 2 mm, wAr E (a 5) 16 xo, wAr E (a 6) 16 yo, wAr E (a 17) 16 mt].flatten) (some (.int (nI (rTuS mm xo yo mt 512)))) ([wMd E a s, wAn E (a 2) 2 mm, wAr E (a 5) 16 xo, wAr E (a 6) 16 yo, wAr E (a 17) 16 mt].flatten) := by
  refine CT.intro (by decide +kernel) (Nat.le_of_ble_eq_true rfl) (fun Γ X hx => ?_)
  refine GG.lv [0] (lv' := [(0, .ref (a 0))]) rfl ?_
  have hm0 := hmm 0 (by decide)
  have hm1 := hmm 1 (by decide)
  refine g_iconst (v := (nI 0)) X dX10_turnedMany_0 rfl ?_
  refine g_istore_n (lv' := [(1, .int (nI 0)), (0, .ref (a 0))]) X dX10_turnedMany_1 (by decide) rfl ?_
  refine g_iconst (v := (nI 0)) X dX10_turnedMany_2 rfl ?_
  refine g_istore_n (lv' := [(2, .int (nI 0)), (1, .int (nI 0)), (0, .ref (a 0))]) X dX10_turnedMany_3 (by decide) rfl ?_
  have L_4 : ∀ (n_4 : Nat) (k : Nat) (hk : k ≤ 512) (hm_4 : 512 - k < n_4) (x_1 : Int32) (ex_1 : x_1 = (nI (rTuS mm xo yo mt k))) (x_2 : Int32) (ex_2 : x_2 = (nI k)), GG E m_X10_turnedMany Γ 0 0 ([wMd E a s, wAn E (a 2) 2 mm, wAr E (a 5) 16 xo, wAr E (a 6) 16 yo, wAr E (a 17) 16 mt].flatten) [(0, .ref (a 0)), (1, .int x_1), (2, .int x_2)] 4 [] := by
    intro n_4
    induction n_4 with
    | zero => intro k hk hm_4; exact absurd hm_4 (Nat.not_lt_zero _)
    | succ n_4 ih_4 =>
      intro k hk hm_4 x_1 ex_1 x_2 ex_2
      subst ex_1
      subst ex_2
      refine g_iload_n X 2 dX10_turnedMany_4 rfl ?_
      refine g_sipush (v := (nI 512)) X dX10_turnedMany_5 rfl ?_
      refine g_icmp_ge (tgt := 161) X dX10_turnedMany_8 (by decide) (fun c_8 => ?_) (fun c_8 => ?_)
      · have f_c_8 : 512 ≤ k := n_le (by omega) (by omega) c_8
        have fn_c_8 := Nat.not_lt.mpr f_c_8
        refine g_iload_n X 1 dX10_turnedMany_161 rfl ?_
        exact g_iretv (r := (nI (rTuS mm xo yo mt k))) X hx rfl (by rw [show 512 = k by omega]) (by rfl) dX10_turnedMany_162
      · have f_c_8 : k < 512 := n_nle (by omega) (by omega) c_8
        have fn_c_8 := Nat.not_le.mpr f_c_8
        refine g_iload_n X 2 dX10_turnedMany_11 rfl ?_
        refine g_bipush (v := (nI 64)) X dX10_turnedMany_12 rfl ?_
        refine g_idivN X (by omega) (by omega) (by omega) dX10_turnedMany_14 ?_
        refine g_istore_n (lv' := [(3, .int (nI (k / 64))), (0, .ref (a 0)), (1, .int (nI (rTuS mm xo yo mt k))), (2, .int (nI k))]) X dX10_turnedMany_15 (by decide) rfl ?_
        refine g_iload_n X 3 dX10_turnedMany_16 rfl ?_
        refine g_bipush (v := (nI 8)) X dX10_turnedMany_17 rfl ?_
        refine g_idivN X (by omega) (by omega) (by omega) dX10_turnedMany_19 ?_
        refine g_bipush (v := (nI 8)) X dX10_turnedMany_20 rfl ?_
        refine g_iremN X (by omega) (by omega) (by omega) dX10_turnedMany_22 ?_
        refine g_istore (lv' := [(4, .int (nI ((k / 8) % 8))), (3, .int (nI (k / 64))), (0, .ref (a 0)), (1, .int (nI (rTuS mm xo yo mt k))), (2, .int (nI k))]) X dX10_turnedMany_23 (by decide) rfl ?_
        refine g_iload_n X 4 dX10_turnedMany_25 rfl ?_
        refine g_bipush (v := (nI 8)) X dX10_turnedMany_26 rfl ?_
        refine g_iremN X (by omega) (by omega) (by omega) dX10_turnedMany_28 ?_
        refine g_istore (lv' := [(5, .int (nI (k % 8))), (4, .int (nI ((k / 8) % 8))), (3, .int (nI (k / 64))), (0, .ref (a 0)), (1, .int (nI (rTuS mm xo yo mt k))), (2, .int (nI k))]) X dX10_turnedMany_29 (by decide) rfl ?_
        refine g_iload_n X 2 dX10_turnedMany_31 rfl ?_
        refine g_iload X 1 dX10_turnedMany_32 rfl ?_
        refine g_icmp_ge (tgt := 155) X dX10_turnedMany_34 (by decide) (fun c_34 => ?_) (fun c_34 => ?_)
        · have f_c_34 : (k / 8) % 8 ≤ k / 64 := n_le (by omega) (by omega) c_34
          have fn_c_34 := Nat.not_lt.mpr f_c_34
          refine g_iincN (lv' := [(2, .int (nI (k + 1))), (5, .int (nI (k % 8))), (4, .int (nI ((k / 8) % 8))), (3, .int (nI (k / 64))), (0, .ref (a 0)), (1, .int (nI (rTuS mm xo yo mt k)))]) X 5 dX10_turnedMany_155 rfl (by decide) rfl ?_
          refine g_goto (tgt := 4) X dX10_turnedMany_158 (by decide) ?_
          refine GG.lv [4, 5, 0] rfl ?_
          exact ih_4 (k + 1) (by omega) (by omega) (nI (rTuS mm xo yo mt k)) (by exact rTuS_f (by simp only [rTn1, rMm, c_8, f_c_8, fn_c_8, c_34, f_c_34, fn_c_34, decide_true, decide_false, not_true_eq_false, not_false_eq_true, Bool.true_and, Bool.false_and, Bool.and_true, Bool.and_false, Bool.true_or, Bool.false_or, Bool.or_true, Bool.or_false, and_true, true_and, and_false, false_and, or_true, true_or, or_false, false_or, if_true, if_false, Bool.false_eq_true, decide_eq_true_eq])) (nI (k + 1)) (by rfl)
        · have f_c_34 : k / 64 < (k / 8) % 8 := n_nle (by omega) (by omega) c_34
          have fn_c_34 := Nat.not_le.mpr f_c_34
          refine g_iload X 1 dX10_turnedMany_37 rfl ?_
          refine g_iload X 0 dX10_turnedMany_39 rfl ?_
          refine g_icmp_ge (tgt := 155) X dX10_turnedMany_41 (by decide) (fun c_41 => ?_) (fun c_41 => ?_)
          · have f_c_41 : k % 8 ≤ (k / 8) % 8 := n_le (by omega) (by omega) c_41
            have fn_c_41 := Nat.not_lt.mpr f_c_41
            refine g_iincN (lv' := [(2, .int (nI (k + 1))), (5, .int (nI (k % 8))), (4, .int (nI ((k / 8) % 8))), (3, .int (nI (k / 64))), (0, .ref (a 0)), (1, .int (nI (rTuS mm xo yo mt k)))]) X 5 dX10_turnedMany_155 rfl (by decide) rfl ?_
            refine g_goto (tgt := 4) X dX10_turnedMany_158 (by decide) ?_
            refine GG.lv [4, 5, 0] rfl ?_
            exact ih_4 (k + 1) (by omega) (by omega) (nI (rTuS mm xo yo mt k)) (by exact rTuS_f (by simp only [rTn1, rMm, c_8, f_c_8, fn_c_8, c_34, f_c_34, fn_c_34, c_41, f_c_41, fn_c_41, decide_true, decide_false, not_true_eq_false, not_false_eq_true, Bool.true_and, Bool.false_and, Bool.and_true, Bool.and_false, Bool.true_or, Bool.false_or, Bool.or_true, Bool.or_false, and_true, true_and, and_false, false_and, or_true, true_or, or_false, false_or, if_true, if_false, Bool.false_eq_true, decide_eq_true_eq])) (nI (k + 1)) (by rfl)
          · have f_c_41 : (k / 8) % 8 < k % 8 := n_nle (by omega) (by omega) c_41
            have fn_c_41 := Nat.not_le.mpr f_c_41
            refine g_iload X 0 dX10_turnedMany_44 rfl ?_
            refine g_aload_n X 3 dX10_turnedMany_46 rfl ?_
            refine g_getf (v := .ref (a 2)) X fs_X10_16 0 rfl rfl dX10_turnedMany_47 ?_
            refine g_iconst (v := (nI 0)) X dX10_turnedMany_50 rfl ?_
            refine g_anld (f := mm) X 1 rfl 0 (ix_nI (by omega) (by decide)) dX10_turnedMany_51 ?_
            refine g_icmp_ge (tgt := 155) X dX10_turnedMany_52 (by decide) (fun c_52 => ?_) (fun c_52 => ?_)
            · have f_c_52 : mm 0 ≤ k % 8 := n_le (by omega) (by omega) c_52
              have fn_c_52 := Nat.not_lt.mpr f_c_52
              refine g_iincN (lv' := [(2, .int (nI (k + 1))), (5, .int (nI (k % 8))), (4, .int (nI ((k / 8) % 8))), (3, .int (nI (k / 64))), (0, .ref (a 0)), (1, .int (nI (rTuS mm xo yo mt k)))]) X 5 dX10_turnedMany_155 rfl (by decide) rfl ?_
              refine g_goto (tgt := 4) X dX10_turnedMany_158 (by decide) ?_
              refine GG.lv [4, 5, 0] rfl ?_
              exact ih_4 (k + 1) (by omega) (by omega) (nI (rTuS mm xo yo mt k)) (by exact rTuS_f (by simp only [rTn1, rMm, c_8, f_c_8, fn_c_8, c_34, f_c_34, fn_c_34, c_41, f_c_41, fn_c_41, c_52, f_c_52, fn_c_52, decide_true, decide_false, not_true_eq_false, not_false_eq_true, Bool.true_and, Bool.false_and, Bool.and_true, Bool.and_false, Bool.true_or, Bool.false_or, Bool.or_true, Bool.or_false, and_true, true_and, and_false, false_and, or_true, true_or, or_false, false_or, if_true, if_false, Bool.false_eq_true, decide_eq_true_eq])) (nI (k + 1)) (by rfl)
            · have f_c_52 : k % 8 < mm 0 := n_nle (by omega) (by omega) c_52
              have fn_c_52 := Nat.not_le.mpr f_c_52
              refine g_aload_n X 3 dX10_turnedMany_55 rfl ?_
              refine g_iload_n X 2 dX10_turnedMany_56 rfl ?_
              refine g_callVr (st2 := [.int (b2i (decide (¬ mt (k / 64) = -4)))]) (q0 := 0) X (c_X10_isMatched E a s mt (k / 64) (by first | assumption | omega | exact Nat.zero_le _)) cs_X10_190 rfl [0, 4] [1, 2, 3] 5 rfl (by decide) rfl rfl rfl rfl rfl (Nat.le_of_ble_eq_true rfl) dX10_turnedMany_57 rfl ?_
              refine g_bif_eq (tgt := 155) X dX10_turnedMany_60 (by decide) (fun c_60 => ?_) (fun c_60 => ?_)
              · refine g_iincN (lv' := [(2, .int (nI (k + 1))), (5, .int (nI (k % 8))), (4, .int (nI ((k / 8) % 8))), (3, .int (nI (k / 64))), (0, .ref (a 0)), (1, .int (nI (rTuS mm xo yo mt k)))]) X 5 dX10_turnedMany_155 rfl (by decide) rfl ?_
                refine g_goto (tgt := 4) X dX10_turnedMany_158 (by decide) ?_
                refine GG.lv [4, 5, 0] rfl ?_
                exact ih_4 (k + 1) (by omega) (by omega) (nI (rTuS mm xo yo mt k)) (by exact rTuS_f (by simp only [rTn1, rMm, c_8, f_c_8, fn_c_8, c_34, f_c_34, fn_c_34, c_41, f_c_41, fn_c_41, c_52, f_c_52, fn_c_52, c_60, decide_true, decide_false, not_true_eq_false, not_false_eq_true, Bool.true_and, Bool.false_and, Bool.and_true, Bool.and_false, Bool.true_or, Bool.false_or, Bool.or_true, Bool.or_false, and_true, true_and, and_false, false_and, or_true, true_or, or_false, false_or, if_true, if_false, Bool.false_eq_true, decide_eq_true_eq])) (nI (k + 1)) (by rfl)
              · refine g_aload_n X 3 dX10_turnedMany_63 rfl ?_
                refine g_iload X 1 dX10_turnedMany_64 rfl ?_
                refine g_callVr (st2 := [.int (b2i (decide (¬ mt ((k / 8) % 8) = -4)))]) (q0 := 0) X (c_X10_isMatched E a s mt ((k / 8) % 8) (by first | assumption | omega | exact Nat.zero_le _)) cs_X10_190 rfl [0, 4] [1, 2, 3] 5 rfl (by decide) rfl rfl rfl rfl rfl (Nat.le_of_ble_eq_true rfl) dX10_turnedMany_66 rfl ?_
                refine g_bif_eq (tgt := 155) X dX10_turnedMany_69 (by decide) (fun c_69 => ?_) (fun c_69 => ?_)
                · refine g_iincN (lv' := [(2, .int (nI (k + 1))), (5, .int (nI (k % 8))), (4, .int (nI ((k / 8) % 8))), (3, .int (nI (k / 64))), (0, .ref (a 0)), (1, .int (nI (rTuS mm xo yo mt k)))]) X 5 dX10_turnedMany_155 rfl (by decide) rfl ?_
                  refine g_goto (tgt := 4) X dX10_turnedMany_158 (by decide) ?_
                  refine GG.lv [4, 5, 0] rfl ?_
                  exact ih_4 (k + 1) (by omega) (by omega) (nI (rTuS mm xo yo mt k)) (by exact rTuS_f (by simp only [rTn1, rMm, c_8, f_c_8, fn_c_8, c_34, f_c_34, fn_c_34, c_41, f_c_41, fn_c_41, c_52, f_c_52, fn_c_52, c_60, c_69, decide_true, decide_false, not_true_eq_false, not_false_eq_true, Bool.true_and, Bool.false_and, Bool.and_true, Bool.and_false, Bool.true_or, Bool.false_or, Bool.or_true, Bool.or_false, and_true, true_and, and_false, false_and, or_true, true_or, or_false, false_or, if_true, if_false, Bool.false_eq_true, decide_eq_true_eq])) (nI (k + 1)) (by rfl)
                · refine g_aload_n X 3 dX10_turnedMany_72 rfl ?_
                  refine g_iload X 0 dX10_turnedMany_73 rfl ?_
                  refine g_callVr (st2 := [.int (b2i (decide (¬ mt (k % 8) = -4)))]) (q0 := 0) X (c_X10_isMatched E a s mt (k % 8) (by first | assumption | omega | exact Nat.zero_le _)) cs_X10_190 rfl [0, 4] [1, 2, 3] 5 rfl (by decide) rfl rfl rfl rfl rfl (Nat.le_of_ble_eq_true rfl) dX10_turnedMany_75 rfl ?_
                  refine g_bif_eq (tgt := 155) X dX10_turnedMany_78 (by decide) (fun c_78 => ?_) (fun c_78 => ?_)
                  · refine g_iincN (lv' := [(2, .int (nI (k + 1))), (5, .int (nI (k % 8))), (4, .int (nI ((k / 8) % 8))), (3, .int (nI (k / 64))), (0, .ref (a 0)), (1, .int (nI (rTuS mm xo yo mt k)))]) X 5 dX10_turnedMany_155 rfl (by decide) rfl ?_
                    refine g_goto (tgt := 4) X dX10_turnedMany_158 (by decide) ?_
                    refine GG.lv [4, 5, 0] rfl ?_
                    exact ih_4 (k + 1) (by omega) (by omega) (nI (rTuS mm xo yo mt k)) (by exact rTuS_f (by simp only [rTn1, rMm, c_8, f_c_8, fn_c_8, c_34, f_c_34, fn_c_34, c_41, f_c_41, fn_c_41, c_52, f_c_52, fn_c_52, c_60, c_69, c_78, decide_true, decide_false, not_true_eq_false, not_false_eq_true, Bool.true_and, Bool.false_and, Bool.and_true, Bool.and_false, Bool.true_or, Bool.false_or, Bool.or_true, Bool.or_false, and_true, true_and, and_false, false_and, or_true, true_or, or_false, false_or, if_true, if_false, Bool.false_eq_true, decide_eq_true_eq])) (nI (k + 1)) (by rfl)
                  · have ka := okMt4_at hm4 (show k / 64 < 16 by omega) (of_decide_eq_true c_60)
                    have kb := okMt4_at hm4 (show k / 8 % 8 < 16 by omega) (of_decide_eq_true c_69)
                    have kc := okMt4_at hm4 (show k % 8 < 16 by omega) (of_decide_eq_true c_78)
                    have ka2 := ka.2
                    have kb2 := kb.2
                    have kc2 := kc.2
                    refine g_aload_n X 3 dX10_turnedMany_81 rfl ?_
                    refine g_iload_n X 2 dX10_turnedMany_82 rfl ?_
                    refine g_iload X 1 dX10_turnedMany_83 rfl ?_
                    refine g_iload X 0 dX10_turnedMany_85 rfl ?_
                    refine g_callVr (st2 := [.int (rArea xo yo (k / 64) ((k / 8) % 8) (k % 8))]) (q0 := 0) X (c_X10_area E a s xo yo (k / 64) ((k / 8) % 8) (k % 8) (by first | assumption | omega | exact Nat.zero_le _) (by first | assumption | omega | exact Nat.zero_le _) (by first | assumption | omega | exact Nat.zero_le _)) cs_X10_177 rfl [0, 2, 3] [1, 4] 5 rfl (by decide) rfl rfl rfl rfl rfl (Nat.le_of_ble_eq_true rfl) dX10_turnedMany_87 rfl ?_
                    refine g_istore (lv' := [(6, .int (rArea xo yo (k / 64) ((k / 8) % 8) (k % 8))), (5, .int (nI (k % 8))), (4, .int (nI ((k / 8) % 8))), (3, .int (nI (k / 64))), (0, .ref (a 0)), (1, .int (nI (rTuS mm xo yo mt k))), (2, .int (nI k))]) X dX10_turnedMany_90 (by decide) rfl ?_
                    refine g_aload_n X 4 dX10_turnedMany_92 rfl ?_
                    refine g_bipush (v := (nI 8)) X dX10_turnedMany_93 rfl ?_
                    refine g_aload_n X 4 dX10_turnedMany_95 rfl ?_
                    refine g_getf (v := .ref (a 17)) X fs_X10_56 0 rfl rfl dX10_turnedMany_96 ?_
                    refine g_iload_n X 3 dX10_turnedMany_99 rfl ?_
                    refine g_iald X 4 rfl (k / 64) (ix_nI (by omega) (by decide)) dX10_turnedMany_100 ?_
                    rw [ka.1]
                    refine g_iaddN X dX10_turnedMany_101 ?_
                    refine g_bipush (v := (nI 8)) X dX10_turnedMany_102 rfl ?_
                    refine g_aload_n X 4 dX10_turnedMany_104 rfl ?_
                    refine g_getf (v := .ref (a 17)) X fs_X10_56 0 rfl rfl dX10_turnedMany_105 ?_
                    refine g_iload X 2 dX10_turnedMany_108 rfl ?_
                    refine g_iald X 4 rfl ((k / 8) % 8) (ix_nI (by omega) (by decide)) dX10_turnedMany_110 ?_
                    rw [kb.1]
                    refine g_iaddN X dX10_turnedMany_111 ?_
                    refine g_bipush (v := (nI 8)) X dX10_turnedMany_112 rfl ?_
                    refine g_aload_n X 4 dX10_turnedMany_114 rfl ?_
                    refine g_getf (v := .ref (a 17)) X fs_X10_56 0 rfl rfl dX10_turnedMany_115 ?_
                    refine g_iload X 1 dX10_turnedMany_118 rfl ?_
                    refine g_iald X 4 rfl (k % 8) (ix_nI (by omega) (by decide)) dX10_turnedMany_120 ?_
                    rw [kc.1]
                    refine g_iaddN X dX10_turnedMany_121 ?_
                    refine g_callVr (st2 := [.int (rArea xo yo (8 + (rmN mt (k / 64))) (8 + (rmN mt ((k / 8) % 8))) (8 + (rmN mt (k % 8))))]) (q0 := 0) X (c_X10_area E a s xo yo (8 + (rmN mt (k / 64))) (8 + (rmN mt ((k / 8) % 8))) (8 + (rmN mt (k % 8))) (by first | assumption | omega | exact Nat.zero_le _) (by first | assumption | omega | exact Nat.zero_le _) (by first | assumption | omega | exact Nat.zero_le _)) cs_X10_177 rfl [0, 2, 3] [1, 4] 5 rfl (by decide) rfl rfl rfl rfl rfl (Nat.le_of_ble_eq_true rfl) dX10_turnedMany_122 rfl ?_
                    refine g_istore (lv' := [(7, .int (rArea xo yo (8 + (rmN mt (k / 64))) (8 + (rmN mt ((k / 8) % 8))) (8 + (rmN mt (k % 8))))), (6, .int (rArea xo yo (k / 64) ((k / 8) % 8) (k % 8))), (5, .int (nI (k % 8))), (4, .int (nI ((k / 8) % 8))), (3, .int (nI (k / 64))), (0, .ref (a 0)), (1, .int (nI (rTuS mm xo yo mt k))), (2, .int (nI k))]) X dX10_turnedMany_125 (by decide) rfl ?_
                    refine g_iload_n X 6 dX10_turnedMany_127 rfl ?_
                    refine g_iload X 1 dX10_turnedMany_128 rfl ?_
                    refine g_if_le (tgt := 138) X dX10_turnedMany_130 (by decide) (fun c_130 => ?_) (fun c_130 => ?_)
                    · refine g_iload X 1 dX10_turnedMany_138 rfl ?_
                      refine g_if_ge (tgt := 152) X dX10_turnedMany_140 (by decide) (fun c_140 => ?_) (fun c_140 => ?_)
                      · refine g_iconst (v := (nI 0)) X dX10_turnedMany_152 rfl ?_
                        refine g_iaddN X dX10_turnedMany_153 ?_
                        refine g_istore_n (lv' := [(1, .int (nI ((rTuS mm xo yo mt k) + 0))), (7, .int (rArea xo yo (8 + (rmN mt (k / 64))) (8 + (rmN mt ((k / 8) % 8))) (8 + (rmN mt (k % 8))))), (6, .int (rArea xo yo (k / 64) ((k / 8) % 8) (k % 8))), (5, .int (nI (k % 8))), (4, .int (nI ((k / 8) % 8))), (3, .int (nI (k / 64))), (0, .ref (a 0)), (2, .int (nI k))]) X dX10_turnedMany_154 (by decide) rfl ?_
                        refine g_iincN (lv' := [(2, .int (nI (k + 1))), (1, .int (nI ((rTuS mm xo yo mt k) + 0))), (7, .int (rArea xo yo (8 + (rmN mt (k / 64))) (8 + (rmN mt ((k / 8) % 8))) (8 + (rmN mt (k % 8))))), (6, .int (rArea xo yo (k / 64) ((k / 8) % 8) (k % 8))), (5, .int (nI (k % 8))), (4, .int (nI ((k / 8) % 8))), (3, .int (nI (k / 64))), (0, .ref (a 0))]) X 7 dX10_turnedMany_155 rfl (by decide) rfl ?_
                        refine g_goto (tgt := 4) X dX10_turnedMany_158 (by decide) ?_
                        refine GG.lv [7, 1, 0] rfl ?_
                        exact ih_4 (k + 1) (by omega) (by omega) (nI ((rTuS mm xo yo mt k) + 0)) (by rw [Nat.add_zero]; exact rTuS_f (by simp only [rTn1, rMm, c_8, f_c_8, fn_c_8, c_34, f_c_34, fn_c_34, c_41, f_c_41, fn_c_41, c_52, f_c_52, fn_c_52, c_60, c_69, c_78, c_130, c_140, decide_true, decide_false, not_true_eq_false, not_false_eq_true, Bool.true_and, Bool.false_and, Bool.and_true, Bool.and_false, Bool.true_or, Bool.false_or, Bool.or_true, Bool.or_false, and_true, true_and, and_false, false_and, or_true, true_or, or_false, false_or, if_true, if_false, Bool.false_eq_true, decide_eq_true_eq])) (nI (k + 1)) (by rfl)
                      · refine g_iload X 0 dX10_turnedMany_143 rfl ?_
                        refine g_if_le (tgt := 152) X dX10_turnedMany_145 (by decide) (fun c_145 => ?_) (fun c_145 => ?_)
                        · refine g_iconst (v := (nI 0)) X dX10_turnedMany_152 rfl ?_
                          refine g_iaddN X dX10_turnedMany_153 ?_
                          refine g_istore_n (lv' := [(1, .int (nI ((rTuS mm xo yo mt k) + 0))), (7, .int (rArea xo yo (8 + (rmN mt (k / 64))) (8 + (rmN mt ((k / 8) % 8))) (8 + (rmN mt (k % 8))))), (6, .int (rArea xo yo (k / 64) ((k / 8) % 8) (k % 8))), (5, .int (nI (k % 8))), (4, .int (nI ((k / 8) % 8))), (3, .int (nI (k / 64))), (0, .ref (a 0)), (2, .int (nI k))]) X dX10_turnedMany_154 (by decide) rfl ?_
                          refine g_iincN (lv' := [(2, .int (nI (k + 1))), (1, .int (nI ((rTuS mm xo yo mt k) + 0))), (7, .int (rArea xo yo (8 + (rmN mt (k / 64))) (8 + (rmN mt ((k / 8) % 8))) (8 + (rmN mt (k % 8))))), (6, .int (rArea xo yo (k / 64) ((k / 8) % 8) (k % 8))), (5, .int (nI (k % 8))), (4, .int (nI ((k / 8) % 8))), (3, .int (nI (k / 64))), (0, .ref (a 0))]) X 7 dX10_turnedMany_155 rfl (by decide) rfl ?_
                          refine g_goto (tgt := 4) X dX10_turnedMany_158 (by decide) ?_
                          refine GG.lv [7, 1, 0] rfl ?_
                          exact ih_4 (k + 1) (by omega) (by omega) (nI ((rTuS mm xo yo mt k) + 0)) (by rw [Nat.add_zero]; exact rTuS_f (by simp only [rTn1, rMm, c_8, f_c_8, fn_c_8, c_34, f_c_34, fn_c_34, c_41, f_c_41, fn_c_41, c_52, f_c_52, fn_c_52, c_60, c_69, c_78, c_130, c_140, c_145, decide_true, decide_false, not_true_eq_false, not_false_eq_true, Bool.true_and, Bool.false_and, Bool.and_true, Bool.and_false, Bool.true_or, Bool.false_or, Bool.or_true, Bool.or_false, and_true, true_and, and_false, false_and, or_true, true_or, or_false, false_or, if_true, if_false, Bool.false_eq_true, decide_eq_true_eq])) (nI (k + 1)) (by rfl)
                        · refine g_iconst (v := (nI 1)) X dX10_turnedMany_148 rfl ?_
                          refine g_goto (tgt := 153) X dX10_turnedMany_149 (by decide) ?_
                          refine g_iaddN X dX10_turnedMany_153 ?_
                          refine g_istore_n (lv' := [(1, .int (nI ((rTuS mm xo yo mt k) + 1))), (7, .int (rArea xo yo (8 + (rmN mt (k / 64))) (8 + (rmN mt ((k / 8) % 8))) (8 + (rmN mt (k % 8))))), (6, .int (rArea xo yo (k / 64) ((k / 8) % 8) (k % 8))), (5, .int (nI (k % 8))), (4, .int (nI ((k / 8) % 8))), (3, .int (nI (k / 64))), (0, .ref (a 0)), (2, .int (nI k))]) X dX10_turnedMany_154 (by decide) rfl ?_
                          refine g_iincN (lv' := [(2, .int (nI (k + 1))), (1, .int (nI ((rTuS mm xo yo mt k) + 1))), (7, .int (rArea xo yo (8 + (rmN mt (k / 64))) (8 + (rmN mt ((k / 8) % 8))) (8 + (rmN mt (k % 8))))), (6, .int (rArea xo yo (k / 64) ((k / 8) % 8) (k % 8))), (5, .int (nI (k % 8))), (4, .int (nI ((k / 8) % 8))), (3, .int (nI (k / 64))), (0, .ref (a 0))]) X 7 dX10_turnedMany_155 rfl (by decide) rfl ?_
                          refine g_goto (tgt := 4) X dX10_turnedMany_158 (by decide) ?_
                          refine GG.lv [7, 1, 0] rfl ?_
                          exact ih_4 (k + 1) (by omega) (by omega) (nI ((rTuS mm xo yo mt k) + 1)) (by exact rTuS_t (by simp only [rTn1, rMm, c_8, f_c_8, fn_c_8, c_34, f_c_34, fn_c_34, c_41, f_c_41, fn_c_41, c_52, f_c_52, fn_c_52, c_60, c_69, c_78, c_130, c_140, c_145, decide_true, decide_false, not_true_eq_false, not_false_eq_true, Bool.true_and, Bool.false_and, Bool.and_true, Bool.and_false, Bool.true_or, Bool.false_or, Bool.or_true, Bool.or_false, and_true, true_and, and_false, false_and, or_true, true_or, or_false, false_or, if_true, if_false, Bool.false_eq_true, decide_eq_true_eq])) (nI (k + 1)) (by rfl)
                    · refine g_iload X 0 dX10_turnedMany_133 rfl ?_
                      refine g_if_lt (tgt := 148) X dX10_turnedMany_135 (by decide) (fun c_135 => ?_) (fun c_135 => ?_)
                      · refine g_iconst (v := (nI 1)) X dX10_turnedMany_148 rfl ?_
                        refine g_goto (tgt := 153) X dX10_turnedMany_149 (by decide) ?_
                        refine g_iaddN X dX10_turnedMany_153 ?_
                        refine g_istore_n (lv' := [(1, .int (nI ((rTuS mm xo yo mt k) + 1))), (7, .int (rArea xo yo (8 + (rmN mt (k / 64))) (8 + (rmN mt ((k / 8) % 8))) (8 + (rmN mt (k % 8))))), (6, .int (rArea xo yo (k / 64) ((k / 8) % 8) (k % 8))), (5, .int (nI (k % 8))), (4, .int (nI ((k / 8) % 8))), (3, .int (nI (k / 64))), (0, .ref (a 0)), (2, .int (nI k))]) X dX10_turnedMany_154 (by decide) rfl ?_
                        refine g_iincN (lv' := [(2, .int (nI (k + 1))), (1, .int (nI ((rTuS mm xo yo mt k) + 1))), (7, .int (rArea xo yo (8 + (rmN mt (k / 64))) (8 + (rmN mt ((k / 8) % 8))) (8 + (rmN mt (k % 8))))), (6, .int (rArea xo yo (k / 64) ((k / 8) % 8) (k % 8))), (5, .int (nI (k % 8))), (4, .int (nI ((k / 8) % 8))), (3, .int (nI (k / 64))), (0, .ref (a 0))]) X 7 dX10_turnedMany_155 rfl (by decide) rfl ?_
                        refine g_goto (tgt := 4) X dX10_turnedMany_158 (by decide) ?_
                        refine GG.lv [7, 1, 0] rfl ?_
                        exact ih_4 (k + 1) (by omega) (by omega) (nI ((rTuS mm xo yo mt k) + 1)) (by exact rTuS_t (by simp only [rTn1, rMm, c_8, f_c_8, fn_c_8, c_34, f_c_34, fn_c_34, c_41, f_c_41, fn_c_41, c_52, f_c_52, fn_c_52, c_60, c_69, c_78, c_130, c_135, decide_true, decide_false, not_true_eq_false, not_false_eq_true, Bool.true_and, Bool.false_and, Bool.and_true, Bool.and_false, Bool.true_or, Bool.false_or, Bool.or_true, Bool.or_false, and_true, true_and, and_false, false_and, or_true, true_or, or_false, false_or, if_true, if_false, Bool.false_eq_true, decide_eq_true_eq])) (nI (k + 1)) (by rfl)
                      · refine g_iload X 1 dX10_turnedMany_138 rfl ?_
                        refine g_if_ge (tgt := 152) X dX10_turnedMany_140 (by decide) (fun c_140 => ?_) (fun c_140 => ?_)
                        · refine g_iconst (v := (nI 0)) X dX10_turnedMany_152 rfl ?_
                          refine g_iaddN X dX10_turnedMany_153 ?_
                          refine g_istore_n (lv' := [(1, .int (nI ((rTuS mm xo yo mt k) + 0))), (7, .int (rArea xo yo (8 + (rmN mt (k / 64))) (8 + (rmN mt ((k / 8) % 8))) (8 + (rmN mt (k % 8))))), (6, .int (rArea xo yo (k / 64) ((k / 8) % 8) (k % 8))), (5, .int (nI (k % 8))), (4, .int (nI ((k / 8) % 8))), (3, .int (nI (k / 64))), (0, .ref (a 0)), (2, .int (nI k))]) X dX10_turnedMany_154 (by decide) rfl ?_
                          refine g_iincN (lv' := [(2, .int (nI (k + 1))), (1, .int (nI ((rTuS mm xo yo mt k) + 0))), (7, .int (rArea xo yo (8 + (rmN mt (k / 64))) (8 + (rmN mt ((k / 8) % 8))) (8 + (rmN mt (k % 8))))), (6, .int (rArea xo yo (k / 64) ((k / 8) % 8) (k % 8))), (5, .int (nI (k % 8))), (4, .int (nI ((k / 8) % 8))), (3, .int (nI (k / 64))), (0, .ref (a 0))]) X 7 dX10_turnedMany_155 rfl (by decide) rfl ?_
                          refine g_goto (tgt := 4) X dX10_turnedMany_158 (by decide) ?_
                          refine GG.lv [7, 1, 0] rfl ?_
                          exact ih_4 (k + 1) (by omega) (by omega) (nI ((rTuS mm xo yo mt k) + 0)) (by rw [Nat.add_zero]; exact rTuS_f (by simp only [rTn1, rMm, c_8, f_c_8, fn_c_8, c_34, f_c_34, fn_c_34, c_41, f_c_41, fn_c_41, c_52, f_c_52, fn_c_52, c_60, c_69, c_78, c_130, c_135, c_140, decide_true, decide_false, not_true_eq_false, not_false_eq_true, Bool.true_and, Bool.false_and, Bool.and_true, Bool.and_false, Bool.true_or, Bool.false_or, Bool.or_true, Bool.or_false, and_true, true_and, and_false, false_and, or_true, true_or, or_false, false_or, if_true, if_false, Bool.false_eq_true, decide_eq_true_eq])) (nI (k + 1)) (by rfl)
                        · refine g_iload X 0 dX10_turnedMany_143 rfl ?_
                          refine g_if_le (tgt := 152) X dX10_turnedMany_145 (by decide) (fun c_145 => ?_) (fun c_145 => ?_)
                          · refine g_iconst (v := (nI 0)) X dX10_turnedMany_152 rfl ?_
                            refine g_iaddN X dX10_turnedMany_153 ?_
                            refine g_istore_n (lv' := [(1, .int (nI ((rTuS mm xo yo mt k) + 0))), (7, .int (rArea xo yo (8 + (rmN mt (k / 64))) (8 + (rmN mt ((k / 8) % 8))) (8 + (rmN mt (k % 8))))), (6, .int (rArea xo yo (k / 64) ((k / 8) % 8) (k % 8))), (5, .int (nI (k % 8))), (4, .int (nI ((k / 8) % 8))), (3, .int (nI (k / 64))), (0, .ref (a 0)), (2, .int (nI k))]) X dX10_turnedMany_154 (by decide) rfl ?_
                            refine g_iincN (lv' := [(2, .int (nI (k + 1))), (1, .int (nI ((rTuS mm xo yo mt k) + 0))), (7, .int (rArea xo yo (8 + (rmN mt (k / 64))) (8 + (rmN mt ((k / 8) % 8))) (8 + (rmN mt (k % 8))))), (6, .int (rArea xo yo (k / 64) ((k / 8) % 8) (k % 8))), (5, .int (nI (k % 8))), (4, .int (nI ((k / 8) % 8))), (3, .int (nI (k / 64))), (0, .ref (a 0))]) X 7 dX10_turnedMany_155 rfl (by decide) rfl ?_
                            refine g_goto (tgt := 4) X dX10_turnedMany_158 (by decide) ?_
                            refine GG.lv [7, 1, 0] rfl ?_
                            exact ih_4 (k + 1) (by omega) (by omega) (nI ((rTuS mm xo yo mt k) + 0)) (by rw [Nat.add_zero]; exact rTuS_f (by simp only [rTn1, rMm, c_8, f_c_8, fn_c_8, c_34, f_c_34, fn_c_34, c_41, f_c_41, fn_c_41, c_52, f_c_52, fn_c_52, c_60, c_69, c_78, c_130, c_135, c_140, c_145, decide_true, decide_false, not_true_eq_false, not_false_eq_true, Bool.true_and, Bool.false_and, Bool.and_true, Bool.and_false, Bool.true_or, Bool.false_or, Bool.or_true, Bool.or_false, and_true, true_and, and_false, false_and, or_true, true_or, or_false, false_or, if_true, if_false, Bool.false_eq_true, decide_eq_true_eq])) (nI (k + 1)) (by rfl)
                          · refine g_iconst (v := (nI 1)) X dX10_turnedMany_148 rfl ?_
                            refine g_goto (tgt := 153) X dX10_turnedMany_149 (by decide) ?_
                            refine g_iaddN X dX10_turnedMany_153 ?_
                            refine g_istore_n (lv' := [(1, .int (nI ((rTuS mm xo yo mt k) + 1))), (7, .int (rArea xo yo (8 + (rmN mt (k / 64))) (8 + (rmN mt ((k / 8) % 8))) (8 + (rmN mt (k % 8))))), (6, .int (rArea xo yo (k / 64) ((k / 8) % 8) (k % 8))), (5, .int (nI (k % 8))), (4, .int (nI ((k / 8) % 8))), (3, .int (nI (k / 64))), (0, .ref (a 0)), (2, .int (nI k))]) X dX10_turnedMany_154 (by decide) rfl ?_
                            refine g_iincN (lv' := [(2, .int (nI (k + 1))), (1, .int (nI ((rTuS mm xo yo mt k) + 1))), (7, .int (rArea xo yo (8 + (rmN mt (k / 64))) (8 + (rmN mt ((k / 8) % 8))) (8 + (rmN mt (k % 8))))), (6, .int (rArea xo yo (k / 64) ((k / 8) % 8) (k % 8))), (5, .int (nI (k % 8))), (4, .int (nI ((k / 8) % 8))), (3, .int (nI (k / 64))), (0, .ref (a 0))]) X 7 dX10_turnedMany_155 rfl (by decide) rfl ?_
                            refine g_goto (tgt := 4) X dX10_turnedMany_158 (by decide) ?_
                            refine GG.lv [7, 1, 0] rfl ?_
                            exact ih_4 (k + 1) (by omega) (by omega) (nI ((rTuS mm xo yo mt k) + 1)) (by exact rTuS_t (by simp only [rTn1, rMm, c_8, f_c_8, fn_c_8, c_34, f_c_34, fn_c_34, c_41, f_c_41, fn_c_41, c_52, f_c_52, fn_c_52, c_60, c_69, c_78, c_130, c_135, c_140, c_145, decide_true, decide_false, not_true_eq_false, not_false_eq_true, Bool.true_and, Bool.false_and, Bool.and_true, Bool.and_false, Bool.true_or, Bool.false_or, Bool.or_true, Bool.or_false, and_true, true_and, and_false, false_and, or_true, true_or, or_false, false_or, if_true, if_false, Bool.false_eq_true, decide_eq_true_eq])) (nI (k + 1)) (by rfl)
  refine GG.lv [2, 1, 0] rfl ?_
  exact L_4 (513) 0 (by omega) (by omega) (nI 0) (by rfl) (nI 0) (by rfl)
set_option maxHeartbeats 4000000 in
set_option maxRecDepth 100000 in
theorem c_X10_isAgreed (E : GE) (a : Nat → Nat) (s : MD0) (be : Nat → Int32) (mt : Nat → Int32) (ot : Nat → Int32) : CT E m_X10_isAgreed [.ref (a 0)] ([wMd E a s, wAr E (a 15) 64 be, wAr E (a 17) 16 mt, wAr E (a 18) 16 ot].flatten) (some (.int (b2i (allB (agP mt (rMts true be ot)) 16)))) ([wMd E a s, wAr E (a 15) 64 be, wAr E (a 17) 16 mt, wAr E (a 18) 16 (rMts true be ot)].flatten) := by
  refine CT.intro (by decide +kernel) (Nat.le_of_ble_eq_true rfl) (fun Γ X hx => ?_)
  refine GG.lv [0] (lv' := [(0, .ref (a 0))]) rfl ?_
  refine g_aload_n X 0 dX10_isAgreed_0 rfl ?_
  refine g_aload_n X 0 dX10_isAgreed_1 rfl ?_
  refine g_getf (v := .ref (a 18)) X fs_X10_59 0 rfl rfl dX10_isAgreed_2 ?_
  refine g_iconst (v := (nI 1)) X dX10_isAgreed_5 rfl ?_
  refine g_callV (st2 := []) (S' := [wMd E a s, wAr E (a 15) 64 be, wAr E (a 17) 16 mt, wAr E (a 18) 16 (rMts true be ot)]) (q0 := 0) X (c_X10_matches_1 E a s be ot) cs_X10_152 rfl [0, 1, 3] [2] 4 rfl rfl (by decide) [wAr E (a 17) 16 mt] rfl rfl rfl rfl (by simp only [List.map_cons, List.map_nil, fsAr, fsMd]) rfl rfl rfl rfl (Nat.le_of_ble_eq_true rfl) dX10_isAgreed_6 rfl ?_
  refine g_iconst (v := (nI 1)) X dX10_isAgreed_9 rfl ?_
  refine g_istore_n (lv' := [(1, .int (nI 1)), (0, .ref (a 0))]) X dX10_isAgreed_10 (by decide) rfl ?_
  refine g_iconst (v := (nI 0)) X dX10_isAgreed_11 rfl ?_
  refine g_istore_n (lv' := [(2, .int (nI 0)), (1, .int (nI 1)), (0, .ref (a 0))]) X dX10_isAgreed_12 (by decide) rfl ?_
  have L_13 : ∀ (n_13 : Nat) (k : Nat) (hk : k ≤ 16) (hm_13 : 16 - k < n_13) (x_1 : Int32) (ex_1 : x_1 = (b2i (allB (agP mt (rMts true be ot)) k))) (x_2 : Int32) (ex_2 : x_2 = (nI k)), GG E m_X10_isAgreed Γ 0 0 ([wMd E a s, wAr E (a 15) 64 be, wAr E (a 17) 16 mt, wAr E (a 18) 16 (rMts true be ot)].flatten) [(0, .ref (a 0)), (1, .int x_1), (2, .int x_2)] 13 [] := by
    intro n_13
    induction n_13 with
    | zero => intro k hk hm_13; exact absurd hm_13 (Nat.not_lt_zero _)
    | succ n_13 ih_13 =>
      intro k hk hm_13 x_1 ex_1 x_2 ex_2
      subst ex_1
      subst ex_2
      refine g_iload_n X 2 dX10_isAgreed_13 rfl ?_
      refine g_bipush (v := (nI 16)) X dX10_isAgreed_14 rfl ?_
      refine g_icmp_ge (tgt := 50) X dX10_isAgreed_16 (by decide) (fun c_16 => ?_) (fun c_16 => ?_)
      · have f_c_16 : 16 ≤ k := n_le (by omega) (by omega) c_16
        have fn_c_16 := Nat.not_lt.mpr f_c_16
        refine g_iload_n X 1 dX10_isAgreed_50 rfl ?_
        exact g_zretv (r := (b2i (allB (agP mt (rMts true be ot)) k))) X hx rfl (by rw [show 16 = k by omega]) (by rfl) dX10_isAgreed_51
      · have f_c_16 : k < 16 := n_nle (by omega) (by omega) c_16
        have fn_c_16 := Nat.not_le.mpr f_c_16
        refine g_iload_n X 1 dX10_isAgreed_19 rfl ?_
        refine g_bif_eq (tgt := 42) X dX10_isAgreed_20 (by decide) (fun c_20 => ?_) (fun c_20 => ?_)
        · refine g_iconst (v := (nI 0)) X dX10_isAgreed_42 rfl ?_
          refine g_istore_n (lv' := [(1, .int (nI 0)), (0, .ref (a 0)), (2, .int (nI k))]) X dX10_isAgreed_43 (by decide) rfl ?_
          refine g_iincN (lv' := [(2, .int (nI (k + 1))), (1, .int (nI 0)), (0, .ref (a 0))]) X 2 dX10_isAgreed_44 rfl (by decide) rfl ?_
          refine g_goto (tgt := 13) X dX10_isAgreed_47 (by decide) ?_
          refine GG.lv [2, 1, 0] rfl ?_
          exact ih_13 (k + 1) (by omega) (by omega) (nI 0) (by exact allB_f (by simp only [agP, c_16, f_c_16, fn_c_16, c_20, decide_true, decide_false, not_true_eq_false, not_false_eq_true, Bool.true_and, Bool.false_and, Bool.and_true, Bool.and_false, Bool.true_or, Bool.false_or, Bool.or_true, Bool.or_false, and_true, true_and, and_false, false_and, or_true, true_or, or_false, false_or, if_true, if_false, Bool.false_eq_true, decide_eq_true_eq])) (nI (k + 1)) (by rfl)
        · refine g_aload_n X 0 dX10_isAgreed_23 rfl ?_
          refine g_getf (v := .ref (a 17)) X fs_X10_56 0 rfl rfl dX10_isAgreed_24 ?_
          refine g_iload_n X 2 dX10_isAgreed_27 rfl ?_
          refine g_iald X 2 rfl k (ix_nI (by omega) (by decide)) dX10_isAgreed_28 ?_
          refine g_aload_n X 0 dX10_isAgreed_29 rfl ?_
          refine g_getf (v := .ref (a 18)) X fs_X10_59 0 rfl rfl dX10_isAgreed_30 ?_
          refine g_iload_n X 2 dX10_isAgreed_33 rfl ?_
          refine g_iald X 3 rfl k (ix_nI (by omega) (by decide)) dX10_isAgreed_34 ?_
          refine g_icmp_ne (tgt := 42) X dX10_isAgreed_35 (by decide) (fun c_35 => ?_) (fun c_35 => ?_)
          · refine g_iconst (v := (nI 0)) X dX10_isAgreed_42 rfl ?_
            refine g_istore_n (lv' := [(1, .int (nI 0)), (0, .ref (a 0)), (2, .int (nI k))]) X dX10_isAgreed_43 (by decide) rfl ?_
            refine g_iincN (lv' := [(2, .int (nI (k + 1))), (1, .int (nI 0)), (0, .ref (a 0))]) X 2 dX10_isAgreed_44 rfl (by decide) rfl ?_
            refine g_goto (tgt := 13) X dX10_isAgreed_47 (by decide) ?_
            refine GG.lv [2, 1, 0] rfl ?_
            exact ih_13 (k + 1) (by omega) (by omega) (nI 0) (by exact allB_f (by simp only [agP, c_16, f_c_16, fn_c_16, c_20, c_35, decide_true, decide_false, not_true_eq_false, not_false_eq_true, Bool.true_and, Bool.false_and, Bool.and_true, Bool.and_false, Bool.true_or, Bool.false_or, Bool.or_true, Bool.or_false, and_true, true_and, and_false, false_and, or_true, true_or, or_false, false_or, if_true, if_false, Bool.false_eq_true, decide_eq_true_eq])) (nI (k + 1)) (by rfl)
          · refine g_iconst (v := (nI 1)) X dX10_isAgreed_38 rfl ?_
            refine g_goto (tgt := 43) X dX10_isAgreed_39 (by decide) ?_
            refine g_istore_n (lv' := [(1, .int (nI 1)), (0, .ref (a 0)), (2, .int (nI k))]) X dX10_isAgreed_43 (by decide) rfl ?_
            refine g_iincN (lv' := [(2, .int (nI (k + 1))), (1, .int (nI 1)), (0, .ref (a 0))]) X 2 dX10_isAgreed_44 rfl (by decide) rfl ?_
            refine g_goto (tgt := 13) X dX10_isAgreed_47 (by decide) ?_
            refine GG.lv [2, 1, 0] rfl ?_
            exact ih_13 (k + 1) (by omega) (by omega) (nI 1) (by exact allB_t (by simp only [agP, c_16, f_c_16, fn_c_16, c_20, c_35, decide_true, decide_false, not_true_eq_false, not_false_eq_true, Bool.true_and, Bool.false_and, Bool.and_true, Bool.and_false, Bool.true_or, Bool.false_or, Bool.or_true, Bool.or_false, and_true, true_and, and_false, false_and, or_true, true_or, or_false, false_or, if_true, if_false, Bool.false_eq_true, decide_eq_true_eq])) (nI (k + 1)) (by rfl)
  refine GG.lv [2, 1, 0] rfl ?_
  exact L_13 (17) 0 (by omega) (by omega) (nI 1) (by rfl) (nI 0) (by rfl)
set_option maxHeartbeats 4000000 in
set_option maxRecDepth 100000 in
theorem c_X10_loneOf_0 (E : GE) (a : Nat → Nat) (s : MD0) (mm : Nat → Nat) (mt : Nat → Int32) (hmm : ∀ g, g < 2 → mm g ≤ 8) : CT E m_X10_loneOf [.ref (a 0), .int (nI 0)] ([wMd E a s, wAn E (a 2) 2 mm, wAr E (a 17) 16 mt].flatten) (some (.int (rLone mt (mm 0)))) ([wMd E a s, wAn E (a 2) 2 mm, wAr E (a 17) 16 mt].flatten) := by
  refine CT.intro (by decide +kernel) (Nat.le_of_ble_eq_true rfl) (fun Γ X hx => ?_)
  refine GG.lv [0, 1] (lv' := [(0, .ref (a 0)), (1, .int (nI 0))]) rfl ?_
  have hm0 := hmm 0 (by decide)
  have hm1 := hmm 1 (by decide)
  refine g_iconst (v := (nI 0)) X dX10_loneOf_0 rfl ?_
  refine g_istore_n (lv' := [(2, .int (nI 0)), (0, .ref (a 0)), (1, .int (nI 0))]) X dX10_loneOf_1 (by decide) rfl ?_
  refine g_iconst (v := (nI 0)) X dX10_loneOf_2 rfl ?_
  refine g_istore_n (lv' := [(3, .int (nI 0)), (2, .int (nI 0)), (0, .ref (a 0)), (1, .int (nI 0))]) X dX10_loneOf_3 (by decide) rfl ?_
  have L_4 : ∀ (n_4 : Nat) (k : Nat) (hk : k ≤ mm 0) (hm_4 : mm 0 - k < n_4) (x_2 : Int32) (ex_2 : x_2 = (rLone mt k)) (x_3 : Int32) (ex_3 : x_3 = (nI k)), GG E m_X10_loneOf Γ 0 0 ([wMd E a s, wAn E (a 2) 2 mm, wAr E (a 17) 16 mt].flatten) [(0, .ref (a 0)), (1, .int (nI 0)), (2, .int x_2), (3, .int x_3)] 4 [] := by
    intro n_4
    induction n_4 with
    | zero => intro k hk hm_4; exact absurd hm_4 (Nat.not_lt_zero _)
    | succ n_4 ih_4 =>
      intro k hk hm_4 x_2 ex_2 x_3 ex_3
      subst ex_2
      subst ex_3
      refine g_iload_n X 3 dX10_loneOf_4 rfl ?_
      refine g_aload_n X 0 dX10_loneOf_5 rfl ?_
      refine g_getf (v := .ref (a 2)) X fs_X10_16 0 rfl rfl dX10_loneOf_6 ?_
      refine g_iload_n X 1 dX10_loneOf_9 rfl ?_
      refine g_anld (f := mm) X 1 rfl 0 (ix_nI (by omega) (by decide)) dX10_loneOf_10 ?_
      refine g_icmp_ge (tgt := 46) X dX10_loneOf_11 (by decide) (fun c_11 => ?_) (fun c_11 => ?_)
      · have f_c_11 : mm 0 ≤ k := n_le (by omega) (by omega) c_11
        have fn_c_11 := Nat.not_lt.mpr f_c_11
        refine g_iload_n X 2 dX10_loneOf_46 rfl ?_
        exact g_iretv (r := (rLone mt k)) X hx rfl (by rw [show mm 0 = k by omega]) (by rfl) dX10_loneOf_47
      · have f_c_11 : k < mm 0 := n_nle (by omega) (by omega) c_11
        have fn_c_11 := Nat.not_le.mpr f_c_11
        refine g_iload_n X 2 dX10_loneOf_14 rfl ?_
        refine g_aload_n X 0 dX10_loneOf_15 rfl ?_
        refine g_getf (v := .ref (a 17)) X fs_X10_56 0 rfl rfl dX10_loneOf_16 ?_
        refine g_bipush (v := (nI 8)) X dX10_loneOf_19 rfl ?_
        refine g_iload_n X 1 dX10_loneOf_21 rfl ?_
        refine g_imulN X dX10_loneOf_22 ?_
        refine g_iload_n X 3 dX10_loneOf_23 rfl ?_
        refine g_iaddN X dX10_loneOf_24 ?_
        rw [show 8 * 0 + k = k from Nat.zero_add _]
        refine g_iald X 2 rfl k (ix_nI (by omega) (by decide)) dX10_loneOf_25 ?_
        refine g_bipush (v := (-4)) X dX10_loneOf_26 rfl ?_
        refine g_icmp_ne (tgt := 37) X dX10_loneOf_28 (by decide) (fun c_28 => ?_) (fun c_28 => ?_)
        · refine g_iconst (v := (nI 0)) X dX10_loneOf_37 rfl ?_
          refine g_ior X dX10_loneOf_38 ?_
          refine g_istore_n (lv' := [(2, .int ((rLone mt k) ||| (nI 0))), (0, .ref (a 0)), (1, .int (nI 0)), (3, .int (nI k))]) X dX10_loneOf_39 (by decide) rfl ?_
          refine g_iincN (lv' := [(3, .int (nI (k + 1))), (2, .int ((rLone mt k) ||| (nI 0))), (0, .ref (a 0)), (1, .int (nI 0))]) X 3 dX10_loneOf_40 rfl (by decide) rfl ?_
          refine g_goto (tgt := 4) X dX10_loneOf_43 (by decide) ?_
          refine GG.lv [2, 3, 1, 0] rfl ?_
          exact ih_4 (k + 1) (by omega) (by omega) ((rLone mt k) ||| (nI 0)) (by simp only [rLone, c_11, f_c_11, fn_c_11, c_28, decide_true, decide_false, not_true_eq_false, not_false_eq_true, Bool.true_and, Bool.false_and, Bool.and_true, Bool.and_false, Bool.true_or, Bool.false_or, Bool.or_true, Bool.or_false, and_true, true_and, and_false, false_and, or_true, true_or, or_false, false_or, if_true, if_false, Bool.false_eq_true, decide_eq_true_eq]) (nI (k + 1)) (by rfl)
        · refine g_iconst (v := (nI 1)) X dX10_loneOf_31 rfl ?_
          refine g_iload_n X 3 dX10_loneOf_32 rfl ?_
          refine g_ishl X dX10_loneOf_33 ?_
          refine g_goto (tgt := 38) X dX10_loneOf_34 (by decide) ?_
          refine g_ior X dX10_loneOf_38 ?_
          refine g_istore_n (lv' := [(2, .int ((rLone mt k) ||| ((nI 1) <<< ((nI k) &&& 31)))), (0, .ref (a 0)), (1, .int (nI 0)), (3, .int (nI k))]) X dX10_loneOf_39 (by decide) rfl ?_
          refine g_iincN (lv' := [(3, .int (nI (k + 1))), (2, .int ((rLone mt k) ||| ((nI 1) <<< ((nI k) &&& 31)))), (0, .ref (a 0)), (1, .int (nI 0))]) X 3 dX10_loneOf_40 rfl (by decide) rfl ?_
          refine g_goto (tgt := 4) X dX10_loneOf_43 (by decide) ?_
          refine GG.lv [2, 3, 1, 0] rfl ?_
          exact ih_4 (k + 1) (by omega) (by omega) ((rLone mt k) ||| ((nI 1) <<< ((nI k) &&& 31))) (by simp only [rLone, c_11, f_c_11, fn_c_11, c_28, decide_true, decide_false, not_true_eq_false, not_false_eq_true, Bool.true_and, Bool.false_and, Bool.and_true, Bool.and_false, Bool.true_or, Bool.false_or, Bool.or_true, Bool.or_false, and_true, true_and, and_false, false_and, or_true, true_or, or_false, false_or, if_true, if_false, Bool.false_eq_true, decide_eq_true_eq]) (nI (k + 1)) (by rfl)
  refine GG.lv [2, 3, 1, 0] rfl ?_
  exact L_4 (mm 0 + 1) 0 (by omega) (by omega) (nI 0) (by rfl) (nI 0) (by rfl)
set_option maxHeartbeats 4000000 in
set_option maxRecDepth 100000 in
theorem c_X10_loneOf_1 (E : GE) (a : Nat → Nat) (s : MD0) (mm : Nat → Nat) (mt : Nat → Int32) (hmm : ∀ g, g < 2 → mm g ≤ 8) : CT E m_X10_loneOf [.ref (a 0), .int (nI 1)] ([wMd E a s, wAn E (a 2) 2 mm, wAr E (a 17) 16 mt].flatten) (some (.int (rLone (fun k => mt (8 + k)) (mm 1)))) ([wMd E a s, wAn E (a 2) 2 mm, wAr E (a 17) 16 mt].flatten) := by
  refine CT.intro (by decide +kernel) (Nat.le_of_ble_eq_true rfl) (fun Γ X hx => ?_)
  refine GG.lv [0, 1] (lv' := [(0, .ref (a 0)), (1, .int (nI 1))]) rfl ?_
  have hm0 := hmm 0 (by decide)
  have hm1 := hmm 1 (by decide)
  refine g_iconst (v := (nI 0)) X dX10_loneOf_0 rfl ?_
  refine g_istore_n (lv' := [(2, .int (nI 0)), (0, .ref (a 0)), (1, .int (nI 1))]) X dX10_loneOf_1 (by decide) rfl ?_
  refine g_iconst (v := (nI 0)) X dX10_loneOf_2 rfl ?_
  refine g_istore_n (lv' := [(3, .int (nI 0)), (2, .int (nI 0)), (0, .ref (a 0)), (1, .int (nI 1))]) X dX10_loneOf_3 (by decide) rfl ?_
  have L_4 : ∀ (n_4 : Nat) (k : Nat) (hk : k ≤ mm 1) (hm_4 : mm 1 - k < n_4) (x_2 : Int32) (ex_2 : x_2 = (rLone (fun k => mt (8 + k)) k)) (x_3 : Int32) (ex_3 : x_3 = (nI k)), GG E m_X10_loneOf Γ 0 0 ([wMd E a s, wAn E (a 2) 2 mm, wAr E (a 17) 16 mt].flatten) [(0, .ref (a 0)), (1, .int (nI 1)), (2, .int x_2), (3, .int x_3)] 4 [] := by
    intro n_4
    induction n_4 with
    | zero => intro k hk hm_4; exact absurd hm_4 (Nat.not_lt_zero _)
    | succ n_4 ih_4 =>
      intro k hk hm_4 x_2 ex_2 x_3 ex_3
      subst ex_2
      subst ex_3
      refine g_iload_n X 3 dX10_loneOf_4 rfl ?_
      refine g_aload_n X 0 dX10_loneOf_5 rfl ?_
      refine g_getf (v := .ref (a 2)) X fs_X10_16 0 rfl rfl dX10_loneOf_6 ?_
      refine g_iload_n X 1 dX10_loneOf_9 rfl ?_
      refine g_anld (f := mm) X 1 rfl 1 (ix_nI (by omega) (by decide)) dX10_loneOf_10 ?_
      refine g_icmp_ge (tgt := 46) X dX10_loneOf_11 (by decide) (fun c_11 => ?_) (fun c_11 => ?_)
      · have f_c_11 : mm 1 ≤ k := n_le (by omega) (by omega) c_11
        have fn_c_11 := Nat.not_lt.mpr f_c_11
        refine g_iload_n X 2 dX10_loneOf_46 rfl ?_
        exact g_iretv (r := (rLone (fun k => mt (8 + k)) k)) X hx rfl (by rw [show mm 1 = k by omega]) (by rfl) dX10_loneOf_47
      · have f_c_11 : k < mm 1 := n_nle (by omega) (by omega) c_11
        have fn_c_11 := Nat.not_le.mpr f_c_11
        refine g_iload_n X 2 dX10_loneOf_14 rfl ?_
        refine g_aload_n X 0 dX10_loneOf_15 rfl ?_
        refine g_getf (v := .ref (a 17)) X fs_X10_56 0 rfl rfl dX10_loneOf_16 ?_
        refine g_bipush (v := (nI 8)) X dX10_loneOf_19 rfl ?_
        refine g_iload_n X 1 dX10_loneOf_21 rfl ?_
        refine g_imulN X dX10_loneOf_22 ?_
        refine g_iload_n X 3 dX10_loneOf_23 rfl ?_
        refine g_iaddN X dX10_loneOf_24 ?_
        refine g_iald X 2 rfl (8 + k) (ix_nI (by omega) (by decide)) dX10_loneOf_25 ?_
        refine g_bipush (v := (-4)) X dX10_loneOf_26 rfl ?_
        refine g_icmp_ne (tgt := 37) X dX10_loneOf_28 (by decide) (fun c_28 => ?_) (fun c_28 => ?_)
        · refine g_iconst (v := (nI 0)) X dX10_loneOf_37 rfl ?_
          refine g_ior X dX10_loneOf_38 ?_
          refine g_istore_n (lv' := [(2, .int ((rLone (fun k => mt (8 + k)) k) ||| (nI 0))), (0, .ref (a 0)), (1, .int (nI 1)), (3, .int (nI k))]) X dX10_loneOf_39 (by decide) rfl ?_
          refine g_iincN (lv' := [(3, .int (nI (k + 1))), (2, .int ((rLone (fun k => mt (8 + k)) k) ||| (nI 0))), (0, .ref (a 0)), (1, .int (nI 1))]) X 3 dX10_loneOf_40 rfl (by decide) rfl ?_
          refine g_goto (tgt := 4) X dX10_loneOf_43 (by decide) ?_
          refine GG.lv [2, 3, 1, 0] rfl ?_
          exact ih_4 (k + 1) (by omega) (by omega) ((rLone (fun k => mt (8 + k)) k) ||| (nI 0)) (by simp only [rLone, c_11, f_c_11, fn_c_11, c_28, decide_true, decide_false, not_true_eq_false, not_false_eq_true, Bool.true_and, Bool.false_and, Bool.and_true, Bool.and_false, Bool.true_or, Bool.false_or, Bool.or_true, Bool.or_false, and_true, true_and, and_false, false_and, or_true, true_or, or_false, false_or, if_true, if_false, Bool.false_eq_true, decide_eq_true_eq]) (nI (k + 1)) (by rfl)
        · refine g_iconst (v := (nI 1)) X dX10_loneOf_31 rfl ?_
          refine g_iload_n X 3 dX10_loneOf_32 rfl ?_
          refine g_ishl X dX10_loneOf_33 ?_
          refine g_goto (tgt := 38) X dX10_loneOf_34 (by decide) ?_
          refine g_ior X dX10_loneOf_38 ?_
          refine g_istore_n (lv' := [(2, .int ((rLone (fun k => mt (8 + k)) k) ||| ((nI 1) <<< ((nI k) &&& 31)))), (0, .ref (a 0)), (1, .int (nI 1)), (3, .int (nI k))]) X dX10_loneOf_39 (by decide) rfl ?_
          refine g_iincN (lv' := [(3, .int (nI (k + 1))), (2, .int ((rLone (fun k => mt (8 + k)) k) ||| ((nI 1) <<< ((nI k) &&& 31)))), (0, .ref (a 0)), (1, .int (nI 1))]) X 3 dX10_loneOf_40 rfl (by decide) rfl ?_
          refine g_goto (tgt := 4) X dX10_loneOf_43 (by decide) ?_
          refine GG.lv [2, 3, 1, 0] rfl ?_
          exact ih_4 (k + 1) (by omega) (by omega) ((rLone (fun k => mt (8 + k)) k) ||| ((nI 1) <<< ((nI k) &&& 31))) (by simp only [rLone, c_11, f_c_11, fn_c_11, c_28, decide_true, decide_false, not_true_eq_false, not_false_eq_true, Bool.true_and, Bool.false_and, Bool.and_true, Bool.and_false, Bool.true_or, Bool.false_or, Bool.or_true, Bool.or_false, and_true, true_and, and_false, false_and, or_true, true_or, or_false, false_or, if_true, if_false, Bool.false_eq_true, decide_eq_true_eq]) (nI (k + 1)) (by rfl)
  refine GG.lv [2, 3, 1, 0] rfl ?_
  exact L_4 (mm 1 + 1) 0 (by omega) (by omega) (nI 0) (by rfl) (nI 0) (by rfl)
set_option maxHeartbeats 4000000 in
set_option maxRecDepth 100000 in
theorem c_X10_whole (E : GE) (a : Nat → Nat) (s : MD0) (mm : Nat → Nat) (ss : Nat → Nat) (kd : Nat → Int32) (xo : Nat → Int32) (yo : Nat → Int32) (fr : Nat → Int32) (tt : Nat → Int32) (be : Nat → Int32) (nx : Nat → Int32) (mt : Nat → Int32) (ot : Nat → Int32) (pa : Nat → Int32) (q : Int32) (hmm : ∀ g, g < 2 → mm g ≤ 8) (hss : ∀ g, g < 2 → ss g ≤ 8) (hE : okE ss fr tt) (hN : dN0 s ≤ 3) : CT E m_X10_whole [.ref (a 0), .int q] ([wMd E a s, wAn E (a 2) 2 mm, wAn E (a 3) 2 ss, wAr E (a 4) 16 kd, wAr E (a 5) 16 xo, wAr E (a 6) 16 yo, wAr E (a 7) 16 fr, wAr E (a 8) 16 tt, wAr E (a 15) 64 be, wAr E (a 16) 64 nx, wAr E (a 17) 16 mt, wAr E (a 18) 16 ot, wAr E (a 20) 4 pa].flatten) (some (.int (rWhl mm ss xo yo fr tt (rMts false (rBelAll (dR s) (dN0 s) mm ss kd xo yo fr tt (be, nx)).1 mt) (allB (agP (rMts false (rBelAll (dR s) (dN0 s) mm ss kd xo yo fr tt (be, nx)).1 mt) (rMts true (rBelAll (dR s) (dN0 s) mm ss kd xo yo fr tt (be, nx)).1 ot)) 16) (dP s, pa) q))) ([wMd E a (dR s, dN0 s, dU s, dK s, if inR q (nI 0) (nI 5) && dq q then (rXs mm ss fr tt (rMts false (rBelAll (dR s) (dN0 s) mm ss kd xo yo fr tt (be, nx)).1 mt) (dP s, pa) (ss 0)).2.1 else dP s, dX s, dY s, dS s, dA s, dQ s), wAn E (a 2) 2 mm, wAn E (a 3) 2 ss, wAr E (a 4) 16 kd, wAr E (a 5) 16 xo, wAr E (a 6) 16 yo, wAr E (a 7) 16 fr, wAr E (a 8) 16 tt, wAr E (a 15) 64 (if inR q (nI 0) (nI 5) then (rBelAll (dR s) (dN0 s) mm ss kd xo yo fr tt (be, nx)).1 else be), wAr E (a 16) 64 (if inR q (nI 0) (nI 5) then (rBelAll (dR s) (dN0 s) mm ss kd xo yo fr tt (be, nx)).2 else nx), wAr E (a 17) 16 (if inR q (nI 0) (nI 5) then rMts false (rBelAll (dR s) (dN0 s) mm ss kd xo yo fr tt (be, nx)).1 mt else mt), wAr E (a 18) 16 (if inR q (nI 0) (nI 5) && decide (q = nI 2) then rMts true (rBelAll (dR s) (dN0 s) mm ss kd xo yo fr tt (be, nx)).1 ot else ot), wAr E (a 20) 4 (if inR q (nI 0) (nI 5) && dq q then (rXs mm ss fr tt (rMts false (rBelAll (dR s) (dN0 s) mm ss kd xo yo fr tt (be, nx)).1 mt) (dP s, pa) (ss 0)).2.2 else pa)].flatten) := by
  refine CT.intro (by decide +kernel) (Nat.le_of_ble_eq_true rfl) (fun Γ X hx => ?_)
  refine GG.lv [0, 1] (lv' := [(0, .ref (a 0)), (1, .int q)]) rfl ?_
  have hm0 := hmm 0 (by decide)
  have hm1 := hmm 1 (by decide)
  have hs0 := hss 0 (by decide)
  have hs1 := hss 1 (by decide)
  refine g_iload_n X 1 dX10_whole_0 rfl ?_
  refine g_iconst (v := (nI 0)) X dX10_whole_1 rfl ?_
  refine g_iconst (v := (nI 5)) X dX10_whole_2 rfl ?_
  refine g_callSP (st2 := [.int (b2i (inR q (nI 0) (nI 5)))]) (ws' := [wMd E a s, wAn E (a 2) 2 mm, wAn E (a 3) 2 ss, wAr E (a 4) 16 kd, wAr E (a 5) 16 xo, wAr E (a 6) 16 yo, wAr E (a 7) 16 fr, wAr E (a 8) 16 tt, wAr E (a 15) 64 be, wAr E (a 16) 64 nx, wAr E (a 17) 16 mt, wAr E (a 18) 16 ot, wAr E (a 20) 4 pa].flatten) (wr := [wMd E a s, wAn E (a 2) 2 mm, wAn E (a 3) 2 ss, wAr E (a 4) 16 kd, wAr E (a 5) 16 xo, wAr E (a 6) 16 yo, wAr E (a 7) 16 fr, wAr E (a 8) 16 tt, wAr E (a 15) 64 be, wAr E (a 16) 64 nx, wAr E (a 17) 16 mt, wAr E (a 18) 16 ot, wAr E (a 20) 4 pa].flatten) X (c_X10_in E q (nI 0) (nI 5)) cs_X10_84 rfl (List.Perm.refl _) rfl (List.Perm.refl _) rfl rfl (Nat.le_of_ble_eq_true rfl) dX10_whole_3 rfl ?_
  refine g_bif_ne (tgt := 11) X dX10_whole_6 (by decide) (fun c_6 => ?_) (fun c_6 => ?_)
  · refine g_aload_n X 0 dX10_whole_11 rfl ?_
    refine g_callV (st2 := []) (S' := [wMd E a s, wAn E (a 2) 2 mm, wAn E (a 3) 2 ss, wAr E (a 4) 16 kd, wAr E (a 5) 16 xo, wAr E (a 6) 16 yo, wAr E (a 7) 16 fr, wAr E (a 8) 16 tt, wAr E (a 15) 64 ((rBelAll (dR s) (dN0 s) mm ss kd xo yo fr tt (be, nx)).1), wAr E (a 16) 64 ((rBelAll (dR s) (dN0 s) mm ss kd xo yo fr tt (be, nx)).2), wAr E (a 17) 16 (rMts false (rBelAll (dR s) (dN0 s) mm ss kd xo yo fr tt (be, nx)).1 mt), wAr E (a 18) 16 ot, wAr E (a 20) 4 pa]) (q0 := 0) X (c_X10_setMatches E a s mm ss kd xo yo fr tt be nx mt (by first | assumption | omega | exact Nat.zero_le _) (by first | assumption | omega | exact Nat.zero_le _) (by first | assumption | omega | exact Nat.zero_le _) (by first | assumption | omega | exact Nat.zero_le _)) cs_X10_156 rfl [0, 1, 2, 3, 4, 5, 6, 7, 8, 9, 10] [11, 12] 13 rfl rfl (by decide) [wAr E (a 18) 16 ot, wAr E (a 20) 4 pa] rfl rfl rfl rfl (by simp only [List.map_cons, List.map_nil, fsAn, fsAr, fsMd]) rfl rfl rfl rfl (Nat.le_of_ble_eq_true rfl) dX10_whole_12 rfl ?_
    refine g_iload_n X 1 dX10_whole_15 rfl ?_
    by_cases w_16_0 : q = nI 0
    · subst w_16_0
      refine g_tsIn (tgt := 52) X 0 dX10_whole_16 rfl (by decide) (by decide) rfl (by decide) ?_
      refine g_aload_n X 0 dX10_whole_52 rfl ?_
      refine g_callVr (st2 := [.int (nI (rCnt (rMts false (rBelAll (dR s) (dN0 s) mm ss kd xo yo fr tt (be, nx)).1 mt) (mm 0)))]) (q0 := 0) X (c_X10_matchedMany E a s mm (rMts false (rBelAll (dR s) (dN0 s) mm ss kd xo yo fr tt (be, nx)).1 mt) (by first | assumption | omega | exact Nat.zero_le _)) cs_X10_216 rfl [0, 1, 10] [2, 3, 4, 5, 6, 7, 8, 9, 11, 12] 13 rfl (by decide) rfl rfl rfl rfl rfl (Nat.le_of_ble_eq_true rfl) dX10_whole_53 rfl ?_
      exact g_iretv (r := (nI (rCnt (rMts false (rBelAll (dR s) (dN0 s) mm ss kd xo yo fr tt (be, nx)).1 mt) (mm 0)))) X hx rfl (by simp only [rWhl, b2i, c_6, show (nI 0 = nI 1) = False from by decide, show (nI 0 = nI 2) = False from by decide, show (nI 0 = nI 3) = False from by decide, show (nI 0 = nI 4) = False from by decide, show (nI 0 = nI 5) = False from by decide, show (nI 1 = nI 0) = False from by decide, show (nI 1 = nI 2) = False from by decide, show (nI 1 = nI 3) = False from by decide, show (nI 1 = nI 4) = False from by decide, show (nI 1 = nI 5) = False from by decide, show (nI 2 = nI 0) = False from by decide, show (nI 2 = nI 1) = False from by decide, show (nI 2 = nI 3) = False from by decide, show (nI 2 = nI 4) = False from by decide, show (nI 2 = nI 5) = False from by decide, show (nI 3 = nI 0) = False from by decide, show (nI 3 = nI 1) = False from by decide, show (nI 3 = nI 2) = False from by decide, show (nI 3 = nI 4) = False from by decide, show (nI 3 = nI 5) = False from by decide, show (nI 4 = nI 0) = False from by decide, show (nI 4 = nI 1) = False from by decide, show (nI 4 = nI 2) = False from by decide, show (nI 4 = nI 3) = False from by decide, show (nI 4 = nI 5) = False from by decide, show (nI 5 = nI 0) = False from by decide, show (nI 5 = nI 1) = False from by decide, show (nI 5 = nI 2) = False from by decide, show (nI 5 = nI 3) = False from by decide, show (nI 5 = nI 4) = False from by decide, decide_true, decide_false, not_true_eq_false, not_false_eq_true, Bool.true_and, Bool.false_and, Bool.and_true, Bool.and_false, Bool.true_or, Bool.false_or, Bool.or_true, Bool.or_false, and_true, true_and, and_false, false_and, or_true, true_or, or_false, false_or, if_true, if_false, Bool.false_eq_true, decide_eq_true_eq]; try rfl) (by simp only [dq, c_6, show (nI 0 = nI 1) = False from by decide, show (nI 0 = nI 2) = False from by decide, show (nI 0 = nI 3) = False from by decide, show (nI 0 = nI 4) = False from by decide, show (nI 0 = nI 5) = False from by decide, show (nI 1 = nI 0) = False from by decide, show (nI 1 = nI 2) = False from by decide, show (nI 1 = nI 3) = False from by decide, show (nI 1 = nI 4) = False from by decide, show (nI 1 = nI 5) = False from by decide, show (nI 2 = nI 0) = False from by decide, show (nI 2 = nI 1) = False from by decide, show (nI 2 = nI 3) = False from by decide, show (nI 2 = nI 4) = False from by decide, show (nI 2 = nI 5) = False from by decide, show (nI 3 = nI 0) = False from by decide, show (nI 3 = nI 1) = False from by decide, show (nI 3 = nI 2) = False from by decide, show (nI 3 = nI 4) = False from by decide, show (nI 3 = nI 5) = False from by decide, show (nI 4 = nI 0) = False from by decide, show (nI 4 = nI 1) = False from by decide, show (nI 4 = nI 2) = False from by decide, show (nI 4 = nI 3) = False from by decide, show (nI 4 = nI 5) = False from by decide, show (nI 5 = nI 0) = False from by decide, show (nI 5 = nI 1) = False from by decide, show (nI 5 = nI 2) = False from by decide, show (nI 5 = nI 3) = False from by decide, show (nI 5 = nI 4) = False from by decide, decide_true, decide_false, not_true_eq_false, not_false_eq_true, Bool.true_and, Bool.false_and, Bool.and_true, Bool.and_false, Bool.true_or, Bool.false_or, Bool.or_true, Bool.or_false, and_true, true_and, and_false, false_and, or_true, true_or, or_false, false_or, if_true, if_false, Bool.false_eq_true, decide_eq_true_eq]) dX10_whole_56
    by_cases w_16_1 : q = nI 1
    · subst w_16_1
      refine g_tsIn (tgt := 57) X 1 dX10_whole_16 rfl (by decide) (by decide) rfl (by decide) ?_
      refine g_aload_n X 0 dX10_whole_57 rfl ?_
      refine g_callVr (st2 := [.int (nI (rTuS mm xo yo (rMts false (rBelAll (dR s) (dN0 s) mm ss kd xo yo fr tt (be, nx)).1 mt) 512))]) (q0 := 0) X (c_X10_turnedMany E a s mm xo yo (rMts false (rBelAll (dR s) (dN0 s) mm ss kd xo yo fr tt (be, nx)).1 mt) (by first | assumption | omega | exact Nat.zero_le _) (okMt4_rMts _ _ _)) cs_X10_219 rfl [0, 1, 4, 5, 10] [2, 3, 6, 7, 8, 9, 11, 12] 13 rfl (by decide) rfl rfl rfl rfl rfl (Nat.le_of_ble_eq_true rfl) dX10_whole_58 rfl ?_
      exact g_iretv (r := (nI (rTuS mm xo yo (rMts false (rBelAll (dR s) (dN0 s) mm ss kd xo yo fr tt (be, nx)).1 mt) 512))) X hx rfl (by simp only [rWhl, b2i, c_6, show (nI 0 = nI 1) = False from by decide, show (nI 0 = nI 2) = False from by decide, show (nI 0 = nI 3) = False from by decide, show (nI 0 = nI 4) = False from by decide, show (nI 0 = nI 5) = False from by decide, show (nI 1 = nI 0) = False from by decide, show (nI 1 = nI 2) = False from by decide, show (nI 1 = nI 3) = False from by decide, show (nI 1 = nI 4) = False from by decide, show (nI 1 = nI 5) = False from by decide, show (nI 2 = nI 0) = False from by decide, show (nI 2 = nI 1) = False from by decide, show (nI 2 = nI 3) = False from by decide, show (nI 2 = nI 4) = False from by decide, show (nI 2 = nI 5) = False from by decide, show (nI 3 = nI 0) = False from by decide, show (nI 3 = nI 1) = False from by decide, show (nI 3 = nI 2) = False from by decide, show (nI 3 = nI 4) = False from by decide, show (nI 3 = nI 5) = False from by decide, show (nI 4 = nI 0) = False from by decide, show (nI 4 = nI 1) = False from by decide, show (nI 4 = nI 2) = False from by decide, show (nI 4 = nI 3) = False from by decide, show (nI 4 = nI 5) = False from by decide, show (nI 5 = nI 0) = False from by decide, show (nI 5 = nI 1) = False from by decide, show (nI 5 = nI 2) = False from by decide, show (nI 5 = nI 3) = False from by decide, show (nI 5 = nI 4) = False from by decide, decide_true, decide_false, not_true_eq_false, not_false_eq_true, Bool.true_and, Bool.false_and, Bool.and_true, Bool.and_false, Bool.true_or, Bool.false_or, Bool.or_true, Bool.or_false, and_true, true_and, and_false, false_and, or_true, true_or, or_false, false_or, if_true, if_false, Bool.false_eq_true, decide_eq_true_eq]; try rfl) (by simp only [dq, c_6, show (nI 0 = nI 1) = False from by decide, show (nI 0 = nI 2) = False from by decide, show (nI 0 = nI 3) = False from by decide, show (nI 0 = nI 4) = False from by decide, show (nI 0 = nI 5) = False from by decide, show (nI 1 = nI 0) = False from by decide, show (nI 1 = nI 2) = False from by decide, show (nI 1 = nI 3) = False from by decide, show (nI 1 = nI 4) = False from by decide, show (nI 1 = nI 5) = False from by decide, show (nI 2 = nI 0) = False from by decide, show (nI 2 = nI 1) = False from by decide, show (nI 2 = nI 3) = False from by decide, show (nI 2 = nI 4) = False from by decide, show (nI 2 = nI 5) = False from by decide, show (nI 3 = nI 0) = False from by decide, show (nI 3 = nI 1) = False from by decide, show (nI 3 = nI 2) = False from by decide, show (nI 3 = nI 4) = False from by decide, show (nI 3 = nI 5) = False from by decide, show (nI 4 = nI 0) = False from by decide, show (nI 4 = nI 1) = False from by decide, show (nI 4 = nI 2) = False from by decide, show (nI 4 = nI 3) = False from by decide, show (nI 4 = nI 5) = False from by decide, show (nI 5 = nI 0) = False from by decide, show (nI 5 = nI 1) = False from by decide, show (nI 5 = nI 2) = False from by decide, show (nI 5 = nI 3) = False from by decide, show (nI 5 = nI 4) = False from by decide, decide_true, decide_false, not_true_eq_false, not_false_eq_true, Bool.true_and, Bool.false_and, Bool.and_true, Bool.and_false, Bool.true_or, Bool.false_or, Bool.or_true, Bool.or_false, and_true, true_and, and_false, false_and, or_true, true_or, or_false, false_or, if_true, if_false, Bool.false_eq_true, decide_eq_true_eq]) dX10_whole_61
    by_cases w_16_2 : q = nI 2
    · subst w_16_2
      refine g_tsIn (tgt := 62) X 2 dX10_whole_16 rfl (by decide) (by decide) rfl (by decide) ?_
      refine g_aload_n X 0 dX10_whole_62 rfl ?_
      refine g_callV (st2 := [.int (b2i (allB (agP (rMts false (rBelAll (dR s) (dN0 s) mm ss kd xo yo fr tt (be, nx)).1 mt) (rMts true ((rBelAll (dR s) (dN0 s) mm ss kd xo yo fr tt (be, nx)).1) ot)) 16))]) (S' := [wMd E a s, wAn E (a 2) 2 mm, wAn E (a 3) 2 ss, wAr E (a 4) 16 kd, wAr E (a 5) 16 xo, wAr E (a 6) 16 yo, wAr E (a 7) 16 fr, wAr E (a 8) 16 tt, wAr E (a 15) 64 ((rBelAll (dR s) (dN0 s) mm ss kd xo yo fr tt (be, nx)).1), wAr E (a 16) 64 ((rBelAll (dR s) (dN0 s) mm ss kd xo yo fr tt (be, nx)).2), wAr E (a 17) 16 (rMts false (rBelAll (dR s) (dN0 s) mm ss kd xo yo fr tt (be, nx)).1 mt), wAr E (a 18) 16 (rMts true ((rBelAll (dR s) (dN0 s) mm ss kd xo yo fr tt (be, nx)).1) ot), wAr E (a 20) 4 pa]) (q0 := 0) X (c_X10_isAgreed E a s ((rBelAll (dR s) (dN0 s) mm ss kd xo yo fr tt (be, nx)).1) (rMts false (rBelAll (dR s) (dN0 s) mm ss kd xo yo fr tt (be, nx)).1 mt) ot) cs_X10_222 rfl [0, 8, 10, 11] [1, 2, 3, 4, 5, 6, 7, 9, 12] 13 rfl rfl (by decide) [wAn E (a 2) 2 mm, wAn E (a 3) 2 ss, wAr E (a 4) 16 kd, wAr E (a 5) 16 xo, wAr E (a 6) 16 yo, wAr E (a 7) 16 fr, wAr E (a 8) 16 tt, wAr E (a 16) 64 ((rBelAll (dR s) (dN0 s) mm ss kd xo yo fr tt (be, nx)).2), wAr E (a 20) 4 pa] rfl rfl rfl rfl (by simp only [List.map_cons, List.map_nil, fsAn, fsAr, fsMd]) rfl rfl rfl rfl (Nat.le_of_ble_eq_true rfl) dX10_whole_63 rfl ?_
      refine g_bif_eq (tgt := 73) X dX10_whole_66 (by decide) (fun c_66 => ?_) (fun c_66 => ?_)
      · refine g_iconst (v := (nI 0)) X dX10_whole_73 rfl ?_
        exact g_iretv (r := (nI 0)) X hx rfl (by simp only [rWhl, b2i, c_6, c_66, show (nI 0 = nI 1) = False from by decide, show (nI 0 = nI 2) = False from by decide, show (nI 0 = nI 3) = False from by decide, show (nI 0 = nI 4) = False from by decide, show (nI 0 = nI 5) = False from by decide, show (nI 1 = nI 0) = False from by decide, show (nI 1 = nI 2) = False from by decide, show (nI 1 = nI 3) = False from by decide, show (nI 1 = nI 4) = False from by decide, show (nI 1 = nI 5) = False from by decide, show (nI 2 = nI 0) = False from by decide, show (nI 2 = nI 1) = False from by decide, show (nI 2 = nI 3) = False from by decide, show (nI 2 = nI 4) = False from by decide, show (nI 2 = nI 5) = False from by decide, show (nI 3 = nI 0) = False from by decide, show (nI 3 = nI 1) = False from by decide, show (nI 3 = nI 2) = False from by decide, show (nI 3 = nI 4) = False from by decide, show (nI 3 = nI 5) = False from by decide, show (nI 4 = nI 0) = False from by decide, show (nI 4 = nI 1) = False from by decide, show (nI 4 = nI 2) = False from by decide, show (nI 4 = nI 3) = False from by decide, show (nI 4 = nI 5) = False from by decide, show (nI 5 = nI 0) = False from by decide, show (nI 5 = nI 1) = False from by decide, show (nI 5 = nI 2) = False from by decide, show (nI 5 = nI 3) = False from by decide, show (nI 5 = nI 4) = False from by decide, decide_true, decide_false, not_true_eq_false, not_false_eq_true, Bool.true_and, Bool.false_and, Bool.and_true, Bool.and_false, Bool.true_or, Bool.false_or, Bool.or_true, Bool.or_false, and_true, true_and, and_false, false_and, or_true, true_or, or_false, false_or, if_true, if_false, Bool.false_eq_true, decide_eq_true_eq]; try rfl) (by simp only [dq, c_6, c_66, show (nI 0 = nI 1) = False from by decide, show (nI 0 = nI 2) = False from by decide, show (nI 0 = nI 3) = False from by decide, show (nI 0 = nI 4) = False from by decide, show (nI 0 = nI 5) = False from by decide, show (nI 1 = nI 0) = False from by decide, show (nI 1 = nI 2) = False from by decide, show (nI 1 = nI 3) = False from by decide, show (nI 1 = nI 4) = False from by decide, show (nI 1 = nI 5) = False from by decide, show (nI 2 = nI 0) = False from by decide, show (nI 2 = nI 1) = False from by decide, show (nI 2 = nI 3) = False from by decide, show (nI 2 = nI 4) = False from by decide, show (nI 2 = nI 5) = False from by decide, show (nI 3 = nI 0) = False from by decide, show (nI 3 = nI 1) = False from by decide, show (nI 3 = nI 2) = False from by decide, show (nI 3 = nI 4) = False from by decide, show (nI 3 = nI 5) = False from by decide, show (nI 4 = nI 0) = False from by decide, show (nI 4 = nI 1) = False from by decide, show (nI 4 = nI 2) = False from by decide, show (nI 4 = nI 3) = False from by decide, show (nI 4 = nI 5) = False from by decide, show (nI 5 = nI 0) = False from by decide, show (nI 5 = nI 1) = False from by decide, show (nI 5 = nI 2) = False from by decide, show (nI 5 = nI 3) = False from by decide, show (nI 5 = nI 4) = False from by decide, decide_true, decide_false, not_true_eq_false, not_false_eq_true, Bool.true_and, Bool.false_and, Bool.and_true, Bool.and_false, Bool.true_or, Bool.false_or, Bool.or_true, Bool.or_false, and_true, true_and, and_false, false_and, or_true, true_or, or_false, false_or, if_true, if_false, Bool.false_eq_true, decide_eq_true_eq]) dX10_whole_74
      · refine g_iconst (v := (nI 1)) X dX10_whole_69 rfl ?_
        refine g_goto (tgt := 74) X dX10_whole_70 (by decide) ?_
        exact g_iretv (r := (nI 1)) X hx rfl (by simp only [rWhl, b2i, c_6, c_66, show (nI 0 = nI 1) = False from by decide, show (nI 0 = nI 2) = False from by decide, show (nI 0 = nI 3) = False from by decide, show (nI 0 = nI 4) = False from by decide, show (nI 0 = nI 5) = False from by decide, show (nI 1 = nI 0) = False from by decide, show (nI 1 = nI 2) = False from by decide, show (nI 1 = nI 3) = False from by decide, show (nI 1 = nI 4) = False from by decide, show (nI 1 = nI 5) = False from by decide, show (nI 2 = nI 0) = False from by decide, show (nI 2 = nI 1) = False from by decide, show (nI 2 = nI 3) = False from by decide, show (nI 2 = nI 4) = False from by decide, show (nI 2 = nI 5) = False from by decide, show (nI 3 = nI 0) = False from by decide, show (nI 3 = nI 1) = False from by decide, show (nI 3 = nI 2) = False from by decide, show (nI 3 = nI 4) = False from by decide, show (nI 3 = nI 5) = False from by decide, show (nI 4 = nI 0) = False from by decide, show (nI 4 = nI 1) = False from by decide, show (nI 4 = nI 2) = False from by decide, show (nI 4 = nI 3) = False from by decide, show (nI 4 = nI 5) = False from by decide, show (nI 5 = nI 0) = False from by decide, show (nI 5 = nI 1) = False from by decide, show (nI 5 = nI 2) = False from by decide, show (nI 5 = nI 3) = False from by decide, show (nI 5 = nI 4) = False from by decide, decide_true, decide_false, not_true_eq_false, not_false_eq_true, Bool.true_and, Bool.false_and, Bool.and_true, Bool.and_false, Bool.true_or, Bool.false_or, Bool.or_true, Bool.or_false, and_true, true_and, and_false, false_and, or_true, true_or, or_false, false_or, if_true, if_false, Bool.false_eq_true, decide_eq_true_eq]; try rfl) (by simp only [dq, c_6, c_66, show (nI 0 = nI 1) = False from by decide, show (nI 0 = nI 2) = False from by decide, show (nI 0 = nI 3) = False from by decide, show (nI 0 = nI 4) = False from by decide, show (nI 0 = nI 5) = False from by decide, show (nI 1 = nI 0) = False from by decide, show (nI 1 = nI 2) = False from by decide, show (nI 1 = nI 3) = False from by decide, show (nI 1 = nI 4) = False from by decide, show (nI 1 = nI 5) = False from by decide, show (nI 2 = nI 0) = False from by decide, show (nI 2 = nI 1) = False from by decide, show (nI 2 = nI 3) = False from by decide, show (nI 2 = nI 4) = False from by decide, show (nI 2 = nI 5) = False from by decide, show (nI 3 = nI 0) = False from by decide, show (nI 3 = nI 1) = False from by decide, show (nI 3 = nI 2) = False from by decide, show (nI 3 = nI 4) = False from by decide, show (nI 3 = nI 5) = False from by decide, show (nI 4 = nI 0) = False from by decide, show (nI 4 = nI 1) = False from by decide, show (nI 4 = nI 2) = False from by decide, show (nI 4 = nI 3) = False from by decide, show (nI 4 = nI 5) = False from by decide, show (nI 5 = nI 0) = False from by decide, show (nI 5 = nI 1) = False from by decide, show (nI 5 = nI 2) = False from by decide, show (nI 5 = nI 3) = False from by decide, show (nI 5 = nI 4) = False from by decide, decide_true, decide_false, not_true_eq_false, not_false_eq_true, Bool.true_and, Bool.false_and, Bool.and_true, Bool.and_false, Bool.true_or, Bool.false_or, Bool.or_true, Bool.or_false, and_true, true_and, and_false, false_and, or_true, true_or, or_false, false_or, if_true, if_false, Bool.false_eq_true, decide_eq_true_eq]) dX10_whole_74
    by_cases w_16_3 : q = nI 3
    · subst w_16_3
      refine g_tsIn (tgt := 75) X 3 dX10_whole_16 rfl (by decide) (by decide) rfl (by decide) ?_
      refine g_aload_n X 0 dX10_whole_75 rfl ?_
      refine g_iconst (v := (nI 0)) X dX10_whole_76 rfl ?_
      refine g_callVr (st2 := [.int (rLone (rMts false (rBelAll (dR s) (dN0 s) mm ss kd xo yo fr tt (be, nx)).1 mt) (mm 0))]) (q0 := 0) X (c_X10_loneOf_0 E a s mm (rMts false (rBelAll (dR s) (dN0 s) mm ss kd xo yo fr tt (be, nx)).1 mt) (by first | assumption | omega | exact Nat.zero_le _)) cs_X10_226 rfl [0, 1, 10] [2, 3, 4, 5, 6, 7, 8, 9, 11, 12] 13 rfl (by decide) rfl rfl rfl rfl rfl (Nat.le_of_ble_eq_true rfl) dX10_whole_77 rfl ?_
      exact g_iretv (r := (rLone (rMts false (rBelAll (dR s) (dN0 s) mm ss kd xo yo fr tt (be, nx)).1 mt) (mm 0))) X hx rfl (by simp only [rWhl, b2i, c_6, show (nI 0 = nI 1) = False from by decide, show (nI 0 = nI 2) = False from by decide, show (nI 0 = nI 3) = False from by decide, show (nI 0 = nI 4) = False from by decide, show (nI 0 = nI 5) = False from by decide, show (nI 1 = nI 0) = False from by decide, show (nI 1 = nI 2) = False from by decide, show (nI 1 = nI 3) = False from by decide, show (nI 1 = nI 4) = False from by decide, show (nI 1 = nI 5) = False from by decide, show (nI 2 = nI 0) = False from by decide, show (nI 2 = nI 1) = False from by decide, show (nI 2 = nI 3) = False from by decide, show (nI 2 = nI 4) = False from by decide, show (nI 2 = nI 5) = False from by decide, show (nI 3 = nI 0) = False from by decide, show (nI 3 = nI 1) = False from by decide, show (nI 3 = nI 2) = False from by decide, show (nI 3 = nI 4) = False from by decide, show (nI 3 = nI 5) = False from by decide, show (nI 4 = nI 0) = False from by decide, show (nI 4 = nI 1) = False from by decide, show (nI 4 = nI 2) = False from by decide, show (nI 4 = nI 3) = False from by decide, show (nI 4 = nI 5) = False from by decide, show (nI 5 = nI 0) = False from by decide, show (nI 5 = nI 1) = False from by decide, show (nI 5 = nI 2) = False from by decide, show (nI 5 = nI 3) = False from by decide, show (nI 5 = nI 4) = False from by decide, decide_true, decide_false, not_true_eq_false, not_false_eq_true, Bool.true_and, Bool.false_and, Bool.and_true, Bool.and_false, Bool.true_or, Bool.false_or, Bool.or_true, Bool.or_false, and_true, true_and, and_false, false_and, or_true, true_or, or_false, false_or, if_true, if_false, Bool.false_eq_true, decide_eq_true_eq]; try rfl) (by simp only [dq, c_6, show (nI 0 = nI 1) = False from by decide, show (nI 0 = nI 2) = False from by decide, show (nI 0 = nI 3) = False from by decide, show (nI 0 = nI 4) = False from by decide, show (nI 0 = nI 5) = False from by decide, show (nI 1 = nI 0) = False from by decide, show (nI 1 = nI 2) = False from by decide, show (nI 1 = nI 3) = False from by decide, show (nI 1 = nI 4) = False from by decide, show (nI 1 = nI 5) = False from by decide, show (nI 2 = nI 0) = False from by decide, show (nI 2 = nI 1) = False from by decide, show (nI 2 = nI 3) = False from by decide, show (nI 2 = nI 4) = False from by decide, show (nI 2 = nI 5) = False from by decide, show (nI 3 = nI 0) = False from by decide, show (nI 3 = nI 1) = False from by decide, show (nI 3 = nI 2) = False from by decide, show (nI 3 = nI 4) = False from by decide, show (nI 3 = nI 5) = False from by decide, show (nI 4 = nI 0) = False from by decide, show (nI 4 = nI 1) = False from by decide, show (nI 4 = nI 2) = False from by decide, show (nI 4 = nI 3) = False from by decide, show (nI 4 = nI 5) = False from by decide, show (nI 5 = nI 0) = False from by decide, show (nI 5 = nI 1) = False from by decide, show (nI 5 = nI 2) = False from by decide, show (nI 5 = nI 3) = False from by decide, show (nI 5 = nI 4) = False from by decide, decide_true, decide_false, not_true_eq_false, not_false_eq_true, Bool.true_and, Bool.false_and, Bool.and_true, Bool.and_false, Bool.true_or, Bool.false_or, Bool.or_true, Bool.or_false, and_true, true_and, and_false, false_and, or_true, true_or, or_false, false_or, if_true, if_false, Bool.false_eq_true, decide_eq_true_eq]) dX10_whole_80
    by_cases w_16_4 : q = nI 4
    · subst w_16_4
      refine g_tsIn (tgt := 81) X 4 dX10_whole_16 rfl (by decide) (by decide) rfl (by decide) ?_
      refine g_aload_n X 0 dX10_whole_81 rfl ?_
      refine g_iconst (v := (nI 1)) X dX10_whole_82 rfl ?_
      refine g_callVr (st2 := [.int (rLone (fun k => (rMts false (rBelAll (dR s) (dN0 s) mm ss kd xo yo fr tt (be, nx)).1 mt) (8 + k)) (mm 1))]) (q0 := 0) X (c_X10_loneOf_1 E a s mm (rMts false (rBelAll (dR s) (dN0 s) mm ss kd xo yo fr tt (be, nx)).1 mt) (by first | assumption | omega | exact Nat.zero_le _)) cs_X10_226 rfl [0, 1, 10] [2, 3, 4, 5, 6, 7, 8, 9, 11, 12] 13 rfl (by decide) rfl rfl rfl rfl rfl (Nat.le_of_ble_eq_true rfl) dX10_whole_83 rfl ?_
      exact g_iretv (r := (rLone (fun k => (rMts false (rBelAll (dR s) (dN0 s) mm ss kd xo yo fr tt (be, nx)).1 mt) (8 + k)) (mm 1))) X hx rfl (by simp only [rWhl, b2i, c_6, show (nI 0 = nI 1) = False from by decide, show (nI 0 = nI 2) = False from by decide, show (nI 0 = nI 3) = False from by decide, show (nI 0 = nI 4) = False from by decide, show (nI 0 = nI 5) = False from by decide, show (nI 1 = nI 0) = False from by decide, show (nI 1 = nI 2) = False from by decide, show (nI 1 = nI 3) = False from by decide, show (nI 1 = nI 4) = False from by decide, show (nI 1 = nI 5) = False from by decide, show (nI 2 = nI 0) = False from by decide, show (nI 2 = nI 1) = False from by decide, show (nI 2 = nI 3) = False from by decide, show (nI 2 = nI 4) = False from by decide, show (nI 2 = nI 5) = False from by decide, show (nI 3 = nI 0) = False from by decide, show (nI 3 = nI 1) = False from by decide, show (nI 3 = nI 2) = False from by decide, show (nI 3 = nI 4) = False from by decide, show (nI 3 = nI 5) = False from by decide, show (nI 4 = nI 0) = False from by decide, show (nI 4 = nI 1) = False from by decide, show (nI 4 = nI 2) = False from by decide, show (nI 4 = nI 3) = False from by decide, show (nI 4 = nI 5) = False from by decide, show (nI 5 = nI 0) = False from by decide, show (nI 5 = nI 1) = False from by decide, show (nI 5 = nI 2) = False from by decide, show (nI 5 = nI 3) = False from by decide, show (nI 5 = nI 4) = False from by decide, decide_true, decide_false, not_true_eq_false, not_false_eq_true, Bool.true_and, Bool.false_and, Bool.and_true, Bool.and_false, Bool.true_or, Bool.false_or, Bool.or_true, Bool.or_false, and_true, true_and, and_false, false_and, or_true, true_or, or_false, false_or, if_true, if_false, Bool.false_eq_true, decide_eq_true_eq]; try rfl) (by simp only [dq, c_6, show (nI 0 = nI 1) = False from by decide, show (nI 0 = nI 2) = False from by decide, show (nI 0 = nI 3) = False from by decide, show (nI 0 = nI 4) = False from by decide, show (nI 0 = nI 5) = False from by decide, show (nI 1 = nI 0) = False from by decide, show (nI 1 = nI 2) = False from by decide, show (nI 1 = nI 3) = False from by decide, show (nI 1 = nI 4) = False from by decide, show (nI 1 = nI 5) = False from by decide, show (nI 2 = nI 0) = False from by decide, show (nI 2 = nI 1) = False from by decide, show (nI 2 = nI 3) = False from by decide, show (nI 2 = nI 4) = False from by decide, show (nI 2 = nI 5) = False from by decide, show (nI 3 = nI 0) = False from by decide, show (nI 3 = nI 1) = False from by decide, show (nI 3 = nI 2) = False from by decide, show (nI 3 = nI 4) = False from by decide, show (nI 3 = nI 5) = False from by decide, show (nI 4 = nI 0) = False from by decide, show (nI 4 = nI 1) = False from by decide, show (nI 4 = nI 2) = False from by decide, show (nI 4 = nI 3) = False from by decide, show (nI 4 = nI 5) = False from by decide, show (nI 5 = nI 0) = False from by decide, show (nI 5 = nI 1) = False from by decide, show (nI 5 = nI 2) = False from by decide, show (nI 5 = nI 3) = False from by decide, show (nI 5 = nI 4) = False from by decide, decide_true, decide_false, not_true_eq_false, not_false_eq_true, Bool.true_and, Bool.false_and, Bool.and_true, Bool.and_false, Bool.true_or, Bool.false_or, Bool.or_true, Bool.or_false, and_true, true_and, and_false, false_and, or_true, true_or, or_false, false_or, if_true, if_false, Bool.false_eq_true, decide_eq_true_eq]) dX10_whole_86
    refine g_tsOut (tgt := 87) X dX10_whole_16 (by have t0 := lv_neT w_16_0 (a := 0) rfl; have t1 := lv_neT w_16_1 (a := 1) rfl; have t2 := lv_neT w_16_2 (a := 2) rfl; have t3 := lv_neT w_16_3 (a := 3) rfl; have t4 := lv_neT w_16_4 (a := 4) rfl; omega) (by decide) ?_
    refine g_aload_n X 0 dX10_whole_87 rfl ?_
    refine g_callV (st2 := [.int (nI ((rXs mm ss fr tt (rMts false (rBelAll (dR s) (dN0 s) mm ss kd xo yo fr tt (be, nx)).1 mt) (dP s, pa) (ss 0)).1))]) (S' := [wMd E a (dR s, dN0 s, dU s, dK s, (rXs mm ss fr tt (rMts false (rBelAll (dR s) (dN0 s) mm ss kd xo yo fr tt (be, nx)).1 mt) (dP s, pa) (ss 0)).2.1, dX s, dY s, dS s, dA s, dQ s), wAn E (a 2) 2 mm, wAn E (a 3) 2 ss, wAr E (a 4) 16 kd, wAr E (a 5) 16 xo, wAr E (a 6) 16 yo, wAr E (a 7) 16 fr, wAr E (a 8) 16 tt, wAr E (a 15) 64 ((rBelAll (dR s) (dN0 s) mm ss kd xo yo fr tt (be, nx)).1), wAr E (a 16) 64 ((rBelAll (dR s) (dN0 s) mm ss kd xo yo fr tt (be, nx)).2), wAr E (a 17) 16 (rMts false (rBelAll (dR s) (dN0 s) mm ss kd xo yo fr tt (be, nx)).1 mt), wAr E (a 18) 16 ot, wAr E (a 20) 4 ((rXs mm ss fr tt (rMts false (rBelAll (dR s) (dN0 s) mm ss kd xo yo fr tt (be, nx)).1 mt) (dP s, pa) (ss 0)).2.2)]) (q0 := 0) X (c_X10_toldMany E a s mm ss fr tt (rMts false (rBelAll (dR s) (dN0 s) mm ss kd xo yo fr tt (be, nx)).1 mt) pa (by first | assumption | omega | exact Nat.zero_le _) (by first | assumption | omega | exact Nat.zero_le _) (by first | assumption | omega | exact Nat.zero_le _)) cs_X10_229 rfl [0, 1, 2, 6, 7, 10, 12] [3, 4, 5, 8, 9, 11] 13 rfl rfl (by decide) [wAr E (a 4) 16 kd, wAr E (a 5) 16 xo, wAr E (a 6) 16 yo, wAr E (a 15) 64 ((rBelAll (dR s) (dN0 s) mm ss kd xo yo fr tt (be, nx)).1), wAr E (a 16) 64 ((rBelAll (dR s) (dN0 s) mm ss kd xo yo fr tt (be, nx)).2), wAr E (a 18) 16 ot] rfl rfl rfl rfl (by simp only [List.map_cons, List.map_nil, fsAn, fsAr, fsMd]) rfl rfl rfl rfl (Nat.le_of_ble_eq_true rfl) dX10_whole_88 rfl ?_
    exact g_iretv (r := (nI ((rXs mm ss fr tt (rMts false (rBelAll (dR s) (dN0 s) mm ss kd xo yo fr tt (be, nx)).1 mt) (dP s, pa) (ss 0)).1))) X hx rfl (by simp only [rWhl, b2i, c_6, w_16_0, w_16_1, w_16_2, w_16_3, w_16_4, show (nI 0 = nI 1) = False from by decide, show (nI 0 = nI 2) = False from by decide, show (nI 0 = nI 3) = False from by decide, show (nI 0 = nI 4) = False from by decide, show (nI 0 = nI 5) = False from by decide, show (nI 1 = nI 0) = False from by decide, show (nI 1 = nI 2) = False from by decide, show (nI 1 = nI 3) = False from by decide, show (nI 1 = nI 4) = False from by decide, show (nI 1 = nI 5) = False from by decide, show (nI 2 = nI 0) = False from by decide, show (nI 2 = nI 1) = False from by decide, show (nI 2 = nI 3) = False from by decide, show (nI 2 = nI 4) = False from by decide, show (nI 2 = nI 5) = False from by decide, show (nI 3 = nI 0) = False from by decide, show (nI 3 = nI 1) = False from by decide, show (nI 3 = nI 2) = False from by decide, show (nI 3 = nI 4) = False from by decide, show (nI 3 = nI 5) = False from by decide, show (nI 4 = nI 0) = False from by decide, show (nI 4 = nI 1) = False from by decide, show (nI 4 = nI 2) = False from by decide, show (nI 4 = nI 3) = False from by decide, show (nI 4 = nI 5) = False from by decide, show (nI 5 = nI 0) = False from by decide, show (nI 5 = nI 1) = False from by decide, show (nI 5 = nI 2) = False from by decide, show (nI 5 = nI 3) = False from by decide, show (nI 5 = nI 4) = False from by decide, decide_true, decide_false, not_true_eq_false, not_false_eq_true, Bool.true_and, Bool.false_and, Bool.and_true, Bool.and_false, Bool.true_or, Bool.false_or, Bool.or_true, Bool.or_false, and_true, true_and, and_false, false_and, or_true, true_or, or_false, false_or, if_true, if_false, Bool.false_eq_true, decide_eq_true_eq]; try rfl) (by simp only [dq, c_6, w_16_0, w_16_1, w_16_2, w_16_3, w_16_4, show (nI 0 = nI 1) = False from by decide, show (nI 0 = nI 2) = False from by decide, show (nI 0 = nI 3) = False from by decide, show (nI 0 = nI 4) = False from by decide, show (nI 0 = nI 5) = False from by decide, show (nI 1 = nI 0) = False from by decide, show (nI 1 = nI 2) = False from by decide, show (nI 1 = nI 3) = False from by decide, show (nI 1 = nI 4) = False from by decide, show (nI 1 = nI 5) = False from by decide, show (nI 2 = nI 0) = False from by decide, show (nI 2 = nI 1) = False from by decide, show (nI 2 = nI 3) = False from by decide, show (nI 2 = nI 4) = False from by decide, show (nI 2 = nI 5) = False from by decide, show (nI 3 = nI 0) = False from by decide, show (nI 3 = nI 1) = False from by decide, show (nI 3 = nI 2) = False from by decide, show (nI 3 = nI 4) = False from by decide, show (nI 3 = nI 5) = False from by decide, show (nI 4 = nI 0) = False from by decide, show (nI 4 = nI 1) = False from by decide, show (nI 4 = nI 2) = False from by decide, show (nI 4 = nI 3) = False from by decide, show (nI 4 = nI 5) = False from by decide, show (nI 5 = nI 0) = False from by decide, show (nI 5 = nI 1) = False from by decide, show (nI 5 = nI 2) = False from by decide, show (nI 5 = nI 3) = False from by decide, show (nI 5 = nI 4) = False from by decide, decide_true, decide_false, not_true_eq_false, not_false_eq_true, Bool.true_and, Bool.false_and, Bool.and_true, Bool.and_false, Bool.true_or, Bool.false_or, Bool.or_true, Bool.or_false, and_true, true_and, and_false, false_and, or_true, true_or, or_false, false_or, if_true, if_false, Bool.false_eq_true, decide_eq_true_eq]) dX10_whole_91
  · refine g_iconst (v := (-1)) X dX10_whole_9 rfl ?_
    exact g_iretv (r := (-1)) X hx rfl (by simp only [rWhl, b2i, c_6, show (nI 0 = nI 1) = False from by decide, show (nI 0 = nI 2) = False from by decide, show (nI 0 = nI 3) = False from by decide, show (nI 0 = nI 4) = False from by decide, show (nI 0 = nI 5) = False from by decide, show (nI 1 = nI 0) = False from by decide, show (nI 1 = nI 2) = False from by decide, show (nI 1 = nI 3) = False from by decide, show (nI 1 = nI 4) = False from by decide, show (nI 1 = nI 5) = False from by decide, show (nI 2 = nI 0) = False from by decide, show (nI 2 = nI 1) = False from by decide, show (nI 2 = nI 3) = False from by decide, show (nI 2 = nI 4) = False from by decide, show (nI 2 = nI 5) = False from by decide, show (nI 3 = nI 0) = False from by decide, show (nI 3 = nI 1) = False from by decide, show (nI 3 = nI 2) = False from by decide, show (nI 3 = nI 4) = False from by decide, show (nI 3 = nI 5) = False from by decide, show (nI 4 = nI 0) = False from by decide, show (nI 4 = nI 1) = False from by decide, show (nI 4 = nI 2) = False from by decide, show (nI 4 = nI 3) = False from by decide, show (nI 4 = nI 5) = False from by decide, show (nI 5 = nI 0) = False from by decide, show (nI 5 = nI 1) = False from by decide, show (nI 5 = nI 2) = False from by decide, show (nI 5 = nI 3) = False from by decide, show (nI 5 = nI 4) = False from by decide, decide_true, decide_false, not_true_eq_false, not_false_eq_true, Bool.true_and, Bool.false_and, Bool.and_true, Bool.and_false, Bool.true_or, Bool.false_or, Bool.or_true, Bool.or_false, and_true, true_and, and_false, false_and, or_true, true_or, or_false, false_or, if_true, if_false, Bool.false_eq_true, decide_eq_true_eq]; try rfl) (by simp only [dq, c_6, show (nI 0 = nI 1) = False from by decide, show (nI 0 = nI 2) = False from by decide, show (nI 0 = nI 3) = False from by decide, show (nI 0 = nI 4) = False from by decide, show (nI 0 = nI 5) = False from by decide, show (nI 1 = nI 0) = False from by decide, show (nI 1 = nI 2) = False from by decide, show (nI 1 = nI 3) = False from by decide, show (nI 1 = nI 4) = False from by decide, show (nI 1 = nI 5) = False from by decide, show (nI 2 = nI 0) = False from by decide, show (nI 2 = nI 1) = False from by decide, show (nI 2 = nI 3) = False from by decide, show (nI 2 = nI 4) = False from by decide, show (nI 2 = nI 5) = False from by decide, show (nI 3 = nI 0) = False from by decide, show (nI 3 = nI 1) = False from by decide, show (nI 3 = nI 2) = False from by decide, show (nI 3 = nI 4) = False from by decide, show (nI 3 = nI 5) = False from by decide, show (nI 4 = nI 0) = False from by decide, show (nI 4 = nI 1) = False from by decide, show (nI 4 = nI 2) = False from by decide, show (nI 4 = nI 3) = False from by decide, show (nI 4 = nI 5) = False from by decide, show (nI 5 = nI 0) = False from by decide, show (nI 5 = nI 1) = False from by decide, show (nI 5 = nI 2) = False from by decide, show (nI 5 = nI 3) = False from by decide, show (nI 5 = nI 4) = False from by decide, decide_true, decide_false, not_true_eq_false, not_false_eq_true, Bool.true_and, Bool.false_and, Bool.and_true, Bool.and_false, Bool.true_or, Bool.false_or, Bool.or_true, Bool.or_false, and_true, true_and, and_false, false_and, or_true, true_or, or_false, false_or, if_true, if_false, Bool.false_eq_true, decide_eq_true_eq]) dX10_whole_10
