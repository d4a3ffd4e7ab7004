section LAW
variable {E : GE} {nm0 : String} {p : Program} {ev : Env} {s0 : State} {m : MethodId} {b : Nat} {below : List Frame} {meth : Method} {c : Code} {O : Nat → Nat → Nat} {Q : Nat → Nat → Nat → Nat} {ad ae cells slots L : Nat} {xs : Nat → Int32} {v : TV} {w : TXT} {f : Nat → Int32} {oa : PO} {ok : PO} {ta : Nat → TV} {tk : Nat → TV} {d : Nat → Int32} {e : Nat → Int32}
set_option maxHeartbeats 4000000 in
set_option maxRecDepth 100000 in
theorem lw_s8 (X : CX E (m_L nm0) (GL p ev s0 m b below meth c)) (hX : SC (GL p ev s0 m b below meth c) b L xs) (hL : L < 2 ^ 31) (hcs : cells ≤ 600000 ∧ slots ≤ 7302250) {z : ScrT} (rd R0 N6 N7 N8 U9 Mt : Nat) (hrd : rd < 6) (hd : DE v d e) (h6 : sM (tA v) = N6) (h8 : sS (tA v) = N8) (hM : ∀ v, DE v d e → mtC (cM v) (sM (tA v)) = Mt) (ho : ordO 8 oa) (i : Nat) (hi : i < N6) (kk : ∀ (v1 : TV) (oa1 : PO) (ta1 : Nat → TV) (d1 e1 : Nat → Int32) (z : ScrT), DE v1 d1 e1 → ordO 8 oa1 → GG E (m_L nm0) (GL p ev s0 m b below meth c) cells slots (wL E O Q ad ae v1 w f oa1 ok ta1 tk d1 e1 z) [(0, .ref b), (1, .ref (O 0 0)), (2, .ref ad), (3, .ref ae), (4, .int (nI (rd + 1)))] 33 []) : GG E (m_L nm0) (GL p ev s0 m b below meth c) cells slots (wL E O Q ad ae v w f oa ok ta tk d e z) [(0, .ref b), (1, .ref (O 0 0)), (2, .ref ad), (3, .ref ae), (4, .int (nI rd)), (5, .int (celV L xs (25 + rd))), (6, .int (nI N6)), (7, .int (nI N7)), (8, .int (nI N8)), (9, .int (nI U9)), (10, .int (nI R0)), (11, .int (nI 1)), (12, .int (nI Mt)), (17, .int (nI i))] 1597 [] := by
  have hv : okT v := hd.ok
  have h8a := hv.1.1
  have h8b := hv.2.1.1
  have h8s := hv.1.2
  have h8t := hv.2.1.2
  have h1a := hd.1.2.1
  have h1b := hd.1.2.2
  refine g_iload X 11 dL_law_1597 rfl ?_
  refine g_if_eq (tgt := 1620) X dL_law_1599 (by decide) (fun c_1599 => absurd c_1599 (by decide)) (fun c_1599 => ?_)
  refine g_aload_n X 1 dL_law_1602 rfl ?_
  refine g_aload_n X 0 dL_law_1603 rfl ?_
  refine g_bipush (v := (nI 31)) X dL_law_1604 rfl ?_
  refine g_iconst (v := (nI 4)) X dL_law_1606 rfl ?_
  refine g_iload X 4 dL_law_1607 rfl ?_
  refine g_imulN X dL_law_1609 ?_
  refine g_iaddN X dL_law_1610 ?_
  refine g_iconst (v := (nI 4)) X dL_law_1611 rfl ?_
  refine g_aload_n X 2 dL_law_1612 rfl ?_
  refine g_aload_n X 3 dL_law_1613 rfl ?_
  refine k_some X hX hL (m := 31 + (4 * rd)) (by omega) hd ho cs_L_132 rfl (Nat.le_of_ble_eq_true rfl) dL_law_1614 (fun v1 oa1 ta1 d1 e1 hd1 ho1 => ?_) hcs
  refine g_if_ne (tgt := 1622) X dL_law_1617 (by decide) (fun c_1617 => ?_) (fun c_1617 => absurd c_1617 (by decide))
  refine g_iincN (lv' := [(4, .int (nI (rd + 1))), (0, .ref b), (1, .ref (O 0 0)), (2, .ref ad), (3, .ref ae), (5, .int (celV L xs (25 + rd))), (6, .int (nI N6)), (7, .int (nI N7)), (8, .int (nI N8)), (9, .int (nI U9)), (10, .int (nI R0)), (11, .int (nI 1)), (12, .int (nI Mt)), (17, .int (nI i))]) X 4 dL_law_1622 rfl (show 4 < 23 by decide) rfl ?_
  refine g_goto (tgt := 33) X dL_law_1625 (by decide) ?_
  refine GG.lv [1, 2, 3, 4, 0] rfl ?_
  exact kk v1 oa1 ta1 d1 e1 z (hd1) (ho1)
end LAW
