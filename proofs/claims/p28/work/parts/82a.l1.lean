/-! ===== the law's small methods ===== -/
def txW (w : (Nat → Int32) × Nat) (x : Int32) : (Nat → Int32) × Nat := if inR x (nI 32) (nI 126) then txAdd w x else w
theorem txW_le {w : (Nat → Int32) × Nat} (h : w.2 ≤ 200) (x : Int32) : (txW w x).2 ≤ 200 := by
  unfold txW txAdd
  split
  · split
    · show w.2 + 1 ≤ 200; omega
    · exact h
  · exact h
theorem c_wrW (E : GE) (O : Nat → Nat → Nat) (w : (Nat → Int32) × Nat) (x : Int32) (hw : w.2 ≤ 200) : CT E m_X9_write [.ref (O 0 0), .int x] ([wTS E O, wTx E (O 1) w].flatten) (some (.int (wrV w x))) ([wTS E O, wTx E (O 1) (txW w x)].flatten) := c_X9_write E O w x hw
def twW (w : (Nat → Int32) × Nat) (a c : Nat) : (Nat → Int32) × Nat := txW (txW (if 9 < a then txW w (nI (48 + a / 10)) else w) (nI (48 + a % 10))) (nI c)
theorem twW_le {w : (Nat → Int32) × Nat} (h : w.2 ≤ 200) (a c : Nat) : (twW w a c).2 ≤ 200 := by
  unfold twW
  refine txW_le (txW_le ?_ _) _
  split
  · exact txW_le h _
  · exact h
def itW (w : (Nat → Int32) × Nat) (l a b c : Nat) : (Nat → Int32) × Nat := twW (twW (twW (txW w (nI l)) a 44) b 44) c 59
theorem itW_le {w : (Nat → Int32) × Nat} (h : w.2 ≤ 200) (l a b c : Nat) : (itW w l a b c).2 ≤ 200 := twW_le (twW_le (twW_le (txW_le h _) _ _) _ _) _ _
def disI (d : Nat → Int32) (a b : Nat) : Int32 := (d (16 + a) - d (16 + b)) * (d (16 + a) - d (16 + b)) + (d (32 + a) - d (32 + b)) * (d (32 + a) - d (32 + b))
theorem las_t {p : Nat → Bool} {n : Nat} (h : p n = true) : nI n = lasI p (n + 1) := (if_pos h).symm
theorem las_f {p : Nat → Bool} {n : Nat} (h : p n = false) : lasI p n = lasI p (n + 1) := (if_neg (by rw [h]; decide)).symm
theorem stP_t {e : Nat → Int32} {g k : Nat} {u w : Int32} (h : (e (8 * g + k) = u ∧ e (16 + (8 * g + k)) = w) ∨ (e (8 * g + k) = w ∧ e (16 + (8 * g + k)) = u)) : stP e g u w k = true := by
  unfold stP
  rcases h with ⟨a, b⟩ | ⟨a, b⟩
  · rw [decide_eq_true a, decide_eq_true b]; rfl
  · rw [decide_eq_true a, decide_eq_true b, Bool.true_and, Bool.or_true]
theorem stP_f {e : Nat → Int32} {g k : Nat} {u w : Int32} (h1 : ¬ (e (8 * g + k) = u ∧ e (16 + (8 * g + k)) = w)) (h2 : ¬ (e (8 * g + k) = w ∧ e (16 + (8 * g + k)) = u)) : stP e g u w k = false := by
  cases q : stP e g u w k with
  | false => rfl
  | true =>
    unfold stP at q
    simp only [Bool.or_eq_true, Bool.and_eq_true, decide_eq_true_eq] at q
    rcases q with q | q
    · exact absurd q h1
    · exact absurd q h2
set_option maxHeartbeats 4000000 in
set_option maxRecDepth 100000 in
theorem c_L_low (E : GE) (v : Int32) (n : Nat) (h0 : 0 < n) (hn : n < 2147483648) : CT E m_L_low [.int v, .int (nI n)] ([]) (some (.int (nI (lwN v n)))) ([]) := by
  refine CT.intro (by decide +kernel) (Nat.le_of_ble_eq_true rfl) (fun Γ X hx => ?_)
  refine GG.lv [0, 1] (lv' := [(0, .int v), (1, .int (nI n))]) rfl ?_
  refine g_iload_n X 0 dL_low_0 rfl ?_
  refine g_ldc (v := (nI 2147483647)) X dL_low_1 ks_L_7 ?_
  refine g_iand X dL_low_3 ?_
  refine g_iload_n X 1 dL_low_4 rfl ?_
  refine g_irem X dL_low_5 (by exact nI_ne0 h0 hn) ?_
  exact g_iretv (r := ((v &&& (nI 2147483647)) - (v &&& (nI 2147483647)) / (nI n) * (nI n))) X hx rfl (by exact (lw_eq v h0 hn).symm) (by rfl) dL_low_6
set_option maxHeartbeats 4000000 in
set_option maxRecDepth 100000 in
theorem c_L_distance (E : GE) (ad : Nat) (d : Nat → Int32) (a : Nat) (b : Nat) (ha : a < 16) (hb : b < 16) : CT E m_L_distance [.ref ad, .int (nI a), .int (nI b)] ([wAr E ad 48 d].flatten) (some (.int (disI d a b))) ([wAr E ad 48 d].flatten) := by
  refine CT.intro (by decide +kernel) (Nat.le_of_ble_eq_true rfl) (fun Γ X hx => ?_)
  refine GG.lv [0, 1, 2] (lv' := [(0, .ref ad), (1, .int (nI a)), (2, .int (nI b))]) rfl ?_
  refine g_aload_n X 0 dL_distance_0 rfl ?_
  refine g_bipush (v := (nI 16)) X dL_distance_1 rfl ?_
  refine g_iload_n X 1 dL_distance_3 rfl ?_
  refine g_iaddN X dL_distance_4 ?_
  refine g_iald X 0 rfl (16 + a) (ix_nI (by omega) (by decide)) dL_distance_5 ?_
  refine g_aload_n X 0 dL_distance_6 rfl ?_
  refine g_bipush (v := (nI 16)) X dL_distance_7 rfl ?_
  refine g_iload_n X 2 dL_distance_9 rfl ?_
  refine g_iaddN X dL_distance_10 ?_
  refine g_iald X 0 rfl (16 + b) (ix_nI (by omega) (by decide)) dL_distance_11 ?_
  refine g_isub X dL_distance_12 ?_
  refine g_istore_n (lv' := [(3, .int ((d (16 + a)) - (d (16 + b)))), (0, .ref ad), (1, .int (nI a)), (2, .int (nI b))]) X dL_distance_13 (by decide) rfl ?_
  refine g_aload_n X 1 dL_distance_14 rfl ?_
  refine g_bipush (v := (nI 32)) X dL_distance_15 rfl ?_
  refine g_iload_n X 2 dL_distance_17 rfl ?_
  refine g_iaddN X dL_distance_18 ?_
  refine g_iald X 0 rfl (32 + a) (ix_nI (by omega) (by decide)) dL_distance_19 ?_
  refine g_aload_n X 1 dL_distance_20 rfl ?_
  refine g_bipush (v := (nI 32)) X dL_distance_21 rfl ?_
  refine g_iload_n X 3 dL_distance_23 rfl ?_
  refine g_iaddN X dL_distance_24 ?_
  refine g_iald X 0 rfl (32 + b) (ix_nI (by omega) (by decide)) dL_distance_25 ?_
  refine g_isub X dL_distance_26 ?_
  refine g_istore (lv' := [(4, .int ((d (32 + a)) - (d (32 + b)))), (3, .int ((d (16 + a)) - (d (16 + b)))), (0, .ref ad), (1, .int (nI a)), (2, .int (nI b))]) X dL_distance_27 (by decide) rfl ?_
  refine g_iload_n X 1 dL_distance_29 rfl ?_
  refine g_iload_n X 1 dL_distance_30 rfl ?_
  refine g_imul X dL_distance_31 ?_
  refine g_iload X 0 dL_distance_32 rfl ?_
  refine g_iload X 0 dL_distance_34 rfl ?_
  refine g_imul X dL_distance_36 ?_
  refine g_iadd X dL_distance_37 ?_
  exact g_iretv (r := ((((d (16 + a)) - (d (16 + b))) * ((d (16 + a)) - (d (16 + b)))) + (((d (32 + a)) - (d (32 + b))) * ((d (32 + a)) - (d (32 + b)))))) X hx rfl (by rfl) (by rfl) dL_distance_38
set_option maxHeartbeats 4000000 in
set_option maxRecDepth 100000 in
theorem c_L_two (E : GE) (O : Nat → Nat → Nat) (w : (Nat → Int32) × Nat) (a : Nat) (c : Nat) (hw : w.2 ≤ 200) (ha : a ≤ 99) : CT E m_L_two [.ref (O 0 0), .int (nI a), .int (nI c)] ([wTS E O, wTx E (O 1) w].flatten) none ([wTS E O, wTx E (O 1) (twW w a c)].flatten) := by
  refine CT.intro (by decide +kernel) (Nat.le_of_ble_eq_true rfl) (fun Γ X hx => ?_)
  refine GG.lv [0, 1, 2] (lv' := [(0, .ref (O 0 0)), (1, .int (nI a)), (2, .int (nI c))]) rfl ?_
  refine g_iload_n X 1 dL_two_0 rfl ?_
  refine g_bipush (v := (nI 9)) X dL_two_1 rfl ?_
  refine g_icmp_le (tgt := 18) X dL_two_3 (by decide) (fun c_3 => ?_) (fun c_3 => ?_)
  · have f_c_3 : a ≤ 9 := n_le (by omega) (by omega) c_3
    have fn_c_3 := Nat.not_lt.mpr f_c_3
    refine g_aload_n X 0 dL_two_18 rfl ?_
    refine g_bipush (v := (nI 48)) X dL_two_19 rfl ?_
    refine g_iload_n X 1 dL_two_21 rfl ?_
    refine g_bipush (v := (nI 10)) X dL_two_22 rfl ?_
    refine g_iremN X (by omega) (by omega) (by omega) dL_two_24 ?_
    refine g_iaddN X dL_two_25 ?_
    refine g_callV (st2 := [.int (wrV w (nI (48 + (a % 10))))]) (S' := [wTS E O, wTx E (O 1) (txW w (nI (48 + (a % 10))))]) (q0 := 0) X (c_wrW E O w (nI (48 + (a % 10))) (by repeat (first | exact hw | apply txW_le))) cs_L_9 rfl [0, 1] [] 2 rfl rfl (by decide) [] rfl rfl rfl rfl (by simp only [List.map_cons, List.map_nil, fsTS, fsTx]) rfl rfl rfl rfl (Nat.le_of_ble_eq_true rfl) dL_two_26 rfl ?_
    refine g_pop X dL_two_29 rfl ?_
    refine g_aload_n X 0 dL_two_30 rfl ?_
    refine g_iload_n X 2 dL_two_31 rfl ?_
    refine g_callV (st2 := [.int (wrV (txW w (nI (48 + (a % 10)))) (nI c))]) (S' := [wTS E O, wTx E (O 1) (txW (txW w (nI (48 + (a % 10)))) (nI c))]) (q0 := 0) X (c_wrW E O (txW w (nI (48 + (a % 10)))) (nI c) (by repeat (first | exact hw | apply txW_le))) cs_L_9 rfl [0, 1] [] 2 rfl rfl (by decide) [] rfl rfl rfl rfl (by simp only [List.map_cons, List.map_nil, fsTS, fsTx]) rfl rfl rfl rfl (Nat.le_of_ble_eq_true rfl) dL_two_32 rfl ?_
    refine g_pop X dL_two_35 rfl ?_
    exact g_vret X hx rfl rfl (by simp only [twW, c_3, f_c_3, fn_c_3, if_true, if_false]) dL_two_36
  · have f_c_3 : 9 < a := n_nle (by omega) (by omega) c_3
    have fn_c_3 := Nat.not_le.mpr f_c_3
    refine g_aload_n X 0 dL_two_6 rfl ?_
    refine g_bipush (v := (nI 48)) X dL_two_7 rfl ?_
    refine g_iload_n X 1 dL_two_9 rfl ?_
    refine g_bipush (v := (nI 10)) X dL_two_10 rfl ?_
    refine g_idivN X (by omega) (by omega) (by omega) dL_two_12 ?_
    refine g_iaddN X dL_two_13 ?_
    refine g_callV (st2 := [.int (wrV w (nI (48 + (a / 10))))]) (S' := [wTS E O, wTx E (O 1) (txW w (nI (48 + (a / 10))))]) (q0 := 0) X (c_wrW E O w (nI (48 + (a / 10))) (by repeat (first | exact hw | apply txW_le))) cs_L_9 rfl [0, 1] [] 2 rfl rfl (by decide) [] rfl rfl rfl rfl (by simp only [List.map_cons, List.map_nil, fsTS, fsTx]) rfl rfl rfl rfl (Nat.le_of_ble_eq_true rfl) dL_two_14 rfl ?_
    refine g_pop X dL_two_17 rfl ?_
    refine g_aload_n X 0 dL_two_18 rfl ?_
    refine g_bipush (v := (nI 48)) X dL_two_19 rfl ?_
    refine g_iload_n X 1 dL_two_21 rfl ?_
    refine g_bipush (v := (nI 10)) X dL_two_22 rfl ?_
    refine g_iremN X (by omega) (by omega) (by omega) dL_two_24 ?_
    refine g_iaddN X dL_two_25 ?_
    refine g_callV (st2 := [.int (wrV (txW w (nI (48 + (a / 10)))) (nI (48 + (a % 10))))]) (S' := [wTS E O, wTx E (O 1) (txW (txW w (nI (48 + (a / 10)))) (nI (48 + (a % 10))))]) (q0 := 0) X (c_wrW E O (txW w (nI (48 + (a / 10)))) (nI (48 + (a % 10))) (by repeat (first | exact hw | apply txW_le))) cs_L_9 rfl [0, 1] [] 2 rfl rfl (by decide) [] rfl rfl rfl rfl (by simp only [List.map_cons, List.map_nil, fsTS, fsTx]) rfl rfl rfl rfl (Nat.le_of_ble_eq_true rfl) dL_two_26 rfl ?_
    refine g_pop X dL_two_29 rfl ?_
    refine g_aload_n X 0 dL_two_30 rfl ?_
    refine g_iload_n X 2 dL_two_31 rfl ?_
    refine g_callV (st2 := [.int (wrV (txW (txW w (nI (48 + (a / 10)))) (nI (48 + (a % 10)))) (nI c))]) (S' := [wTS E O, wTx E (O 1) (txW (txW (txW w (nI (48 + (a / 10)))) (nI (48 + (a % 10)))) (nI c))]) (q0 := 0) X (c_wrW E O (txW (txW w (nI (48 + (a / 10)))) (nI (48 + (a % 10)))) (nI c) (by repeat (first | exact hw | apply txW_le))) cs_L_9 rfl [0, 1] [] 2 rfl rfl (by decide) [] rfl rfl rfl rfl (by simp only [List.map_cons, List.map_nil, fsTS, fsTx]) rfl rfl rfl rfl (Nat.le_of_ble_eq_true rfl) dL_two_32 rfl ?_
    refine g_pop X dL_two_35 rfl ?_
    exact g_vret X hx rfl rfl (by simp only [twW, c_3, f_c_3, fn_c_3, if_true, if_false]) dL_two_36
set_option maxHeartbeats 4000000 in
set_option maxRecDepth 100000 in
theorem c_L_item (E : GE) (O : Nat → Nat → Nat) (w : (Nat → Int32) × Nat) (l : Nat) (a : Nat) (b : Nat) (c : Nat) (hw : w.2 ≤ 200) (ha : a ≤ 99) (hb : b ≤ 99) (hc : c ≤ 99) : CT E m_L_item [.ref (O 0 0), .int (nI l), .int (nI a), .int (nI b), .int (nI c)] ([wTS E O, wTx E (O 1) w].flatten) none ([wTS E O, wTx E (O 1) (itW w l a b c)].flatten) := by
  refine CT.intro (by decide +kernel) (Nat.le_of_ble_eq_true rfl) (fun Γ X hx => ?_)
  refine GG.lv [0, 1, 2, 3, 4] (lv' := [(0, .ref (O 0 0)), (1, .int (nI l)), (2, .int (nI a)), (3, .int (nI b)), (4, .int (nI c))]) rfl ?_
  refine g_aload_n X 0 dL_item_0 rfl ?_
  refine g_iload_n X 1 dL_item_1 rfl ?_
  refine g_callV (st2 := [.int (wrV w (nI l))]) (S' := [wTS E O, wTx E (O 1) (txW w (nI l))]) (q0 := 0) X (c_wrW E O w (nI l) (by repeat (first | exact hw | apply txW_le))) cs_L_9 rfl [0, 1] [] 2 rfl rfl (by decide) [] rfl rfl rfl rfl (by simp only [List.map_cons, List.map_nil, fsTS, fsTx]) rfl rfl rfl rfl (Nat.le_of_ble_eq_true rfl) dL_item_2 rfl ?_
  refine g_pop X dL_item_5 rfl ?_
  refine g_aload_n X 0 dL_item_6 rfl ?_
  refine g_iload_n X 2 dL_item_7 rfl ?_
  refine g_bipush (v := (nI 44)) X dL_item_8 rfl ?_
  refine g_callS (st2 := []) (S' := [wTS E O, wTx E (O 1) (twW (txW w (nI l)) a 44)]) X (c_L_two E O (txW w (nI l)) a 44 (by repeat (first | exact hw | apply twW_le | apply txW_le)) (by first | assumption | omega | exact Nat.zero_le _)) cs_L_15 rfl [0, 1] [] 2 rfl rfl (by decide) [] rfl rfl rfl rfl (by simp only [List.map_cons, List.map_nil, fsTS, fsTx]) rfl rfl (Nat.le_of_ble_eq_true rfl) dL_item_10 rfl ?_
  refine g_aload_n X 0 dL_item_13 rfl ?_
  refine g_iload_n X 3 dL_item_14 rfl ?_
  refine g_bipush (v := (nI 44)) X dL_item_15 rfl ?_
  refine g_callS (st2 := []) (S' := [wTS E O, wTx E (O 1) (twW (twW (txW w (nI l)) a 44) b 44)]) X (c_L_two E O (twW (txW w (nI l)) a 44) b 44 (by repeat (first | exact hw | apply twW_le | apply txW_le)) (by first | assumption | omega | exact Nat.zero_le _)) cs_L_15 rfl [0, 1] [] 2 rfl rfl (by decide) [] rfl rfl rfl rfl (by simp only [List.map_cons, List.map_nil, fsTS, fsTx]) rfl rfl (Nat.le_of_ble_eq_true rfl) dL_item_17 rfl ?_
  refine g_aload_n X 0 dL_item_20 rfl ?_
  refine g_iload X 4 dL_item_21 rfl ?_
  refine g_bipush (v := (nI 59)) X dL_item_23 rfl ?_
  refine g_callS (st2 := []) (S' := [wTS E O, wTx E (O 1) (twW (twW (twW (txW w (nI l)) a 44) b 44) c 59)]) X (c_L_two E O (twW (twW (txW w (nI l)) a 44) b 44) c 59 (by repeat (first | exact hw | apply twW_le | apply txW_le)) (by first | assumption | omega | exact Nat.zero_le _)) cs_L_15 rfl [0, 1] [] 2 rfl rfl (by decide) [] rfl rfl rfl rfl (by simp only [List.map_cons, List.map_nil, fsTS, fsTx]) rfl rfl (Nat.le_of_ble_eq_true rfl) dL_item_25 rfl ?_
  exact g_vret X hx rfl rfl (by rfl) dL_item_28
set_option maxHeartbeats 4000000 in
set_option maxRecDepth 100000 in
theorem c_L_street (E : GE) (ae : Nat) (e : Nat → Int32) (g : Nat) (z : Nat) (u : Int32) (w : Int32) (hg : g < 2) (hz : z ≤ 8) (he : e (50 + g) = nI z) : CT E m_L_street [.ref ae, .int (nI g), .int u, .int w] ([wAr E ae 54 e].flatten) (some (.int (stL e g u w z))) ([wAr E ae 54 e].flatten) := by
  refine CT.intro (by decide +kernel) (Nat.le_of_ble_eq_true rfl) (fun Γ X hx => ?_)
  refine GG.lv [0, 1, 2, 3] (lv' := [(0, .ref ae), (1, .int (nI g)), (2, .int u), (3, .int w)]) rfl ?_
  refine g_iconst (v := (-1)) X dL_street_0 rfl ?_
  refine g_istore (lv' := [(4, .int (-1)), (0, .ref ae), (1, .int (nI g)), (2, .int u), (3, .int w)]) X dL_street_1 (by decide) rfl ?_
  refine g_iconst (v := (nI 0)) X dL_street_3 rfl ?_
  refine g_istore (lv' := [(5, .int (nI 0)), (4, .int (-1)), (0, .ref ae), (1, .int (nI g)), (2, .int u), (3, .int w)]) X dL_street_4 (by decide) rfl ?_
  have L_6 : ∀ (n_6 : Nat) (k : Nat) (hk : k ≤ z) (hm_6 : z - k < n_6) (x_4 : Int32) (ex_4 : x_4 = (stL e g u w k)) (x_5 : Int32) (ex_5 : x_5 = (nI k)), GG E m_L_street Γ 0 0 ([wAr E ae 54 e].flatten) [(0, .ref ae), (1, .int (nI g)), (2, .int u), (3, .int w), (4, .int x_4), (5, .int x_5)] 6 [] := by
    intro n_6
    induction n_6 with
    | zero => intro k hk hm_6; exact absurd hm_6 (Nat.not_lt_zero _)
    | succ n_6 ih_6 =>
      intro k hk hm_6 x_4 ex_4 x_5 ex_5
      subst ex_4
      subst ex_5
      refine g_iload X 5 dL_street_6 rfl ?_
      refine g_aload_n X 0 dL_street_8 rfl ?_
      refine g_bipush (v := (nI 50)) X dL_street_9 rfl ?_
      refine g_iload_n X 1 dL_street_11 rfl ?_
      refine g_iaddN X dL_street_12 ?_
      refine g_iald X 0 rfl (50 + g) (ix_nI (by omega) (by decide)) dL_street_13 ?_
      rw [he]
      refine g_icmp_ge (tgt := 79) X dL_street_14 (by decide) (fun c_14 => ?_) (fun c_14 => ?_)
      · have f_c_14 : z ≤ k := n_le (by omega) (by omega) c_14
        have fn_c_14 := Nat.not_lt.mpr f_c_14
        refine g_iload X 4 dL_street_79 rfl ?_
        exact g_iretv (r := (stL e g u w k)) X hx rfl (by rw [show z = k by omega]) (by rfl) dL_street_81
      · have f_c_14 : k < z := n_nle (by omega) (by omega) c_14
        have fn_c_14 := Nat.not_le.mpr f_c_14
        refine g_bipush (v := (nI 8)) X dL_street_17 rfl ?_
        refine g_iload_n X 1 dL_street_19 rfl ?_
        refine g_imulN X dL_street_20 ?_
        refine g_iload X 5 dL_street_21 rfl ?_
        refine g_iaddN X dL_street_23 ?_
        refine g_istore (lv' := [(6, .int (nI ((8 * g) + k))), (0, .ref ae), (1, .int (nI g)), (2, .int u), (3, .int w), (4, .int (stL e g u w k)), (5, .int (nI k))]) X dL_street_24 (by decide) rfl ?_
        refine g_aload_n X 1 dL_street_26 rfl ?_
        refine g_iload X 0 dL_street_27 rfl ?_
        refine g_iald X 0 rfl ((8 * g) + k) (ix_nI (by omega) (by decide)) dL_street_29 ?_
        refine g_iload_n X 3 dL_street_30 rfl ?_
        refine g_icmp_ne (tgt := 45) X dL_street_31 (by decide) (fun c_31 => ?_) (fun c_31 => ?_)
        · refine g_aload_n X 1 dL_street_45 rfl ?_
          refine g_iload X 0 dL_street_46 rfl ?_
          refine g_iald X 0 rfl ((8 * g) + k) (ix_nI (by omega) (by decide)) dL_street_48 ?_
          refine g_iload_n X 4 dL_street_49 rfl ?_
          refine g_icmp_ne (tgt := 69) X dL_street_50 (by decide) (fun c_50 => ?_) (fun c_50 => ?_)
          · refine g_iload X 5 dL_street_69 rfl ?_
            refine g_istore (lv' := [(4, .int (stL e g u w k)), (6, .int (nI ((8 * g) + k))), (0, .ref ae), (1, .int (nI g)), (2, .int u), (3, .int w), (5, .int (nI k))]) X dL_street_71 (by decide) rfl ?_
            refine g_iincN (lv' := [(5, .int (nI (k + 1))), (4, .int (stL e g u w k)), (6, .int (nI ((8 * g) + k))), (0, .ref ae), (1, .int (nI g)), (2, .int u), (3, .int w)]) X 6 dL_street_73 rfl (by decide) rfl ?_
            refine g_goto (tgt := 6) X dL_street_76 (by decide) ?_
            refine GG.lv [3, 4, 5, 6, 1, 0] rfl ?_
            exact ih_6 (k + 1) (by omega) (by omega) (stL e g u w k) (by exact las_f (stP_f (fun q => c_31 q.1) (fun q => c_50 q.1))) (nI (k + 1)) (by rfl)
          · refine g_aload_n X 1 dL_street_53 rfl ?_
            refine g_bipush (v := (nI 16)) X dL_street_54 rfl ?_
            refine g_iload X 0 dL_street_56 rfl ?_
            refine g_iaddN X dL_street_58 ?_
            refine g_iald X 0 rfl (16 + ((8 * g) + k)) (ix_nI (by omega) (by decide)) dL_street_59 ?_
            refine g_iload_n X 3 dL_street_60 rfl ?_
            refine g_icmp_ne (tgt := 69) X dL_street_61 (by decide) (fun c_61 => ?_) (fun c_61 => ?_)
            · refine g_iload X 5 dL_street_69 rfl ?_
              refine g_istore (lv' := [(4, .int (stL e g u w k)), (6, .int (nI ((8 * g) + k))), (0, .ref ae), (1, .int (nI g)), (2, .int u), (3, .int w), (5, .int (nI k))]) X dL_street_71 (by decide) rfl ?_
              refine g_iincN (lv' := [(5, .int (nI (k + 1))), (4, .int (stL e g u w k)), (6, .int (nI ((8 * g) + k))), (0, .ref ae), (1, .int (nI g)), (2, .int u), (3, .int w)]) X 6 dL_street_73 rfl (by decide) rfl ?_
              refine g_goto (tgt := 6) X dL_street_76 (by decide) ?_
              refine GG.lv [3, 4, 5, 6, 1, 0] rfl ?_
              exact ih_6 (k + 1) (by omega) (by omega) (stL e g u w k) (by exact las_f (stP_f (fun q => c_31 q.1) (fun q => c_61 q.2))) (nI (k + 1)) (by rfl)
            · refine g_iload X 6 dL_street_64 rfl ?_
              refine g_goto (tgt := 71) X dL_street_66 (by decide) ?_
              refine g_istore (lv' := [(4, .int (nI k)), (6, .int (nI ((8 * g) + k))), (0, .ref ae), (1, .int (nI g)), (2, .int u), (3, .int w), (5, .int (nI k))]) X dL_street_71 (by decide) rfl ?_
              refine g_iincN (lv' := [(5, .int (nI (k + 1))), (4, .int (nI k)), (6, .int (nI ((8 * g) + k))), (0, .ref ae), (1, .int (nI g)), (2, .int u), (3, .int w)]) X 6 dL_street_73 rfl (by decide) rfl ?_
              refine g_goto (tgt := 6) X dL_street_76 (by decide) ?_
              refine GG.lv [3, 4, 5, 6, 1, 0] rfl ?_
              exact ih_6 (k + 1) (by omega) (by omega) (nI k) (by exact las_t (stP_t (Or.inr ⟨c_50, c_61⟩))) (nI (k + 1)) (by rfl)
        · refine g_aload_n X 1 dL_street_34 rfl ?_
          refine g_bipush (v := (nI 16)) X dL_street_35 rfl ?_
          refine g_iload X 0 dL_street_37 rfl ?_
          refine g_iaddN X dL_street_39 ?_
          refine g_iald X 0 rfl (16 + ((8 * g) + k)) (ix_nI (by omega) (by decide)) dL_street_40 ?_
          refine g_iload_n X 4 dL_street_41 rfl ?_
          refine g_icmp_eq (tgt := 64) X dL_street_42 (by decide) (fun c_42 => ?_) (fun c_42 => ?_)
          · refine g_iload X 6 dL_street_64 rfl ?_
            refine g_goto (tgt := 71) X dL_street_66 (by decide) ?_
            refine g_istore (lv' := [(4, .int (nI k)), (6, .int (nI ((8 * g) + k))), (0, .ref ae), (1, .int (nI g)), (2, .int u), (3, .int w), (5, .int (nI k))]) X dL_street_71 (by decide) rfl ?_
            refine g_iincN (lv' := [(5, .int (nI (k + 1))), (4, .int (nI k)), (6, .int (nI ((8 * g) + k))), (0, .ref ae), (1, .int (nI g)), (2, .int u), (3, .int w)]) X 6 dL_street_73 rfl (by decide) rfl ?_
            refine g_goto (tgt := 6) X dL_street_76 (by decide) ?_
            refine GG.lv [3, 4, 5, 6, 1, 0] rfl ?_
            exact ih_6 (k + 1) (by omega) (by omega) (nI k) (by exact las_t (stP_t (Or.inl ⟨c_31, c_42⟩))) (nI (k + 1)) (by rfl)
          · refine g_aload_n X 1 dL_street_45 rfl ?_
            refine g_iload X 0 dL_street_46 rfl ?_
            refine g_iald X 0 rfl ((8 * g) + k) (ix_nI (by omega) (by decide)) dL_street_48 ?_
            refine g_iload_n X 4 dL_street_49 rfl ?_
            refine g_icmp_ne (tgt := 69) X dL_street_50 (by decide) (fun c_50 => ?_) (fun c_50 => ?_)
            · refine g_iload X 5 dL_street_69 rfl ?_
              refine g_istore (lv' := [(4, .int (stL e g u w k)), (6, .int (nI ((8 * g) + k))), (0, .ref ae), (1, .int (nI g)), (2, .int u), (3, .int w), (5, .int (nI k))]) X dL_street_71 (by decide) rfl ?_
              refine g_iincN (lv' := [(5, .int (nI (k + 1))), (4, .int (stL e g u w k)), (6, .int (nI ((8 * g) + k))), (0, .ref ae), (1, .int (nI g)), (2, .int u), (3, .int w)]) X 6 dL_street_73 rfl (by decide) rfl ?_
              refine g_goto (tgt := 6) X dL_street_76 (by decide) ?_
              refine GG.lv [3, 4, 5, 6, 1, 0] rfl ?_
              exact ih_6 (k + 1) (by omega) (by omega) (stL e g u w k) (by exact las_f (stP_f (fun q => c_42 q.2) (fun q => c_50 q.1))) (nI (k + 1)) (by rfl)
            · refine g_aload_n X 1 dL_street_53 rfl ?_
              refine g_bipush (v := (nI 16)) X dL_street_54 rfl ?_
              refine g_iload X 0 dL_street_56 rfl ?_
              refine g_iaddN X dL_street_58 ?_
              refine g_iald X 0 rfl (16 + ((8 * g) + k)) (ix_nI (by omega) (by decide)) dL_street_59 ?_
              refine g_iload_n X 3 dL_street_60 rfl ?_
              refine g_icmp_ne (tgt := 69) X dL_street_61 (by decide) (fun c_61 => ?_) (fun c_61 => ?_)
              · refine g_iload X 5 dL_street_69 rfl ?_
                refine g_istore (lv' := [(4, .int (stL e g u w k)), (6, .int (nI ((8 * g) + k))), (0, .ref ae), (1, .int (nI g)), (2, .int u), (3, .int w), (5, .int (nI k))]) X dL_street_71 (by decide) rfl ?_
                refine g_iincN (lv' := [(5, .int (nI (k + 1))), (4, .int (stL e g u w k)), (6, .int (nI ((8 * g) + k))), (0, .ref ae), (1, .int (nI g)), (2, .int u), (3, .int w)]) X 6 dL_street_73 rfl (by decide) rfl ?_
                refine g_goto (tgt := 6) X dL_street_76 (by decide) ?_
                refine GG.lv [3, 4, 5, 6, 1, 0] rfl ?_
                exact ih_6 (k + 1) (by omega) (by omega) (stL e g u w k) (by exact las_f (stP_f (fun q => c_42 q.2) (fun q => c_61 q.2))) (nI (k + 1)) (by rfl)
              · refine g_iload X 6 dL_street_64 rfl ?_
                refine g_goto (tgt := 71) X dL_street_66 (by decide) ?_
                refine g_istore (lv' := [(4, .int (nI k)), (6, .int (nI ((8 * g) + k))), (0, .ref ae), (1, .int (nI g)), (2, .int u), (3, .int w), (5, .int (nI k))]) X dL_street_71 (by decide) rfl ?_
                refine g_iincN (lv' := [(5, .int (nI (k + 1))), (4, .int (nI k)), (6, .int (nI ((8 * g) + k))), (0, .ref ae), (1, .int (nI g)), (2, .int u), (3, .int w)]) X 6 dL_street_73 rfl (by decide) rfl ?_
                refine g_goto (tgt := 6) X dL_street_76 (by decide) ?_
                refine GG.lv [3, 4, 5, 6, 1, 0] rfl ?_
                exact ih_6 (k + 1) (by omega) (by omega) (nI k) (by exact las_t (stP_t (Or.inr ⟨c_50, c_61⟩))) (nI (k + 1)) (by rfl)
  refine GG.lv [2, 3, 4, 5, 1, 0] rfl ?_
  exact L_6 (z + 1) 0 (by omega) (by omega) (-1) (by rfl) (nI 0) (by rfl)
/-- the script's k-th -/
theorem c_L_cell (E : GE) (b L : Nat) (xs : Nat → Int32) (hL : L < 2 ^ 31) (k : Nat) (hk : k < 2 ^ 31) : CS E b L xs m_L_cell [.ref b, .int (nI k)] [] (fun v w => v = some (.int (celV L xs k)) ∧ w = []) := by
  refine CS.intro (by decide +kernel) (Nat.le_of_ble_eq_true rfl) (fun Γ X Z hx => ?_)
  refine GG.lv [0, 1] (lv' := [(0, .ref b), (1, .int (nI k))]) rfl ?_
  refine g_iload_n X 1 dL_cell_0 rfl ?_
  refine g_aload_n X 0 dL_cell_1 rfl ?_
  refine g_xlen X Z dL_cell_2 ?_
  refine g_icmp_ge (tgt := 12) X dL_cell_3 (by decide) (fun c => ?_) (fun c => ?_)
  · refine g_ldc (v := nI 40503) X dL_cell_12 ks_L_8 ?_
    refine g_iload_n X 1 dL_cell_14 rfl ?_
    refine g_imul X dL_cell_15 ?_
    refine g_sipush (v := nI 977) X dL_cell_16 rfl ?_
    refine g_iadd X dL_cell_19 ?_
    exact g_retS X hx rfl (List.Perm.refl _) ⟨by unfold celV; rw [if_neg (Nat.not_lt.mpr (n_le hL hk c))], rfl⟩ dL_cell_20
  · have hkl : k < L := n_nle hL hk c
    refine g_aload_n X 0 dL_cell_6 rfl ?_
    refine g_iload_n X 1 dL_cell_7 rfl ?_
    refine g_xld X Z hkl hL dL_cell_8 ?_
    refine g_goto (tgt := 20) X dL_cell_9 (by decide) ?_
    exact g_retS X hx rfl (List.Perm.refl _) ⟨by unfold celV; rw [if_pos hkl], rfl⟩ dL_cell_20
