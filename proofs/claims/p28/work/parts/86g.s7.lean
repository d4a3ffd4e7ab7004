section LAW
variable {E : GE} {nm0 : String} {p : Program} {ev : Env} {s0 : State} {m : MethodId} {b : Nat} {below : List Frame} {meth : Method} {c : Code} {O : Nat → Nat → Nat} {Q : Nat → Nat → Nat → Nat} {ad ae cells slots L : Nat} {xs : Nat → Int32} {v : TV} {w : TXT} {f : Nat → Int32} {oa : PO} {ok : PO} {ta : Nat → TV} {tk : Nat → TV} {d : Nat → Int32} {e : Nat → Int32}
set_option maxHeartbeats 4000000 in
set_option maxRecDepth 100000 in
theorem lw_s7 (X : CX E (m_L nm0) (GL p ev s0 m b below meth c)) (hX : SC (GL p ev s0 m b below meth c) b L xs) (hL : L < 2 ^ 31) (hcs : cells ≤ 600000 ∧ slots ≤ 7302250) {z : ScrT} (rd R0 N6 N7 N8 U9 Mt : Nat) (hrd : rd < 6) (hd : DE v d e) (h6 : sM (tA v) = N6) (h8 : sS (tA v) = N8) (hM : ∀ v, DE v d e → mtC (cM v) (sM (tA v)) = Mt) (ho : ordO 8 oa) (i : Nat) (hi : i < N6) (kk : ∀ (f : Nat → Int32) (z : ScrT), GG E (m_L nm0) (GL p ev s0 m b below meth c) cells slots (wL E O Q ad ae v w f oa ok ta tk d e z) [(0, .ref b), (1, .ref (O 0 0)), (2, .ref ad), (3, .ref ae), (4, .int (nI rd)), (5, .int (celV L xs (25 + rd))), (6, .int (nI N6)), (7, .int (nI N7)), (8, .int (nI N8)), (9, .int (nI U9)), (10, .int (nI R0)), (11, .int (nI 1)), (12, .int (nI Mt)), (17, .int (nI i))] 1597 []) : GG E (m_L nm0) (GL p ev s0 m b below meth c) cells slots (wL E O Q ad ae v w f oa ok ta tk d e z) [(0, .ref b), (1, .ref (O 0 0)), (2, .ref ad), (3, .ref ae), (4, .int (nI rd)), (5, .int (celV L xs (25 + rd))), (6, .int (nI N6)), (7, .int (nI N7)), (8, .int (nI N8)), (9, .int (nI U9)), (10, .int (nI R0)), (11, .int (nI 1)), (12, .int (nI Mt)), (17, .int (nI i))] 1429 [] := by
  have hv : okT v := hd.ok
  have h8a := hv.1.1
  have h8b := hv.2.1.1
  have h8s := hv.1.2
  have h8t := hv.2.1.2
  have h1a := hd.1.2.1
  have h1b := hd.1.2.2
  refine g_iload X 5 dL_law_1429 rfl ?_
  refine g_iconst (v := (nI 4)) X dL_law_1431 rfl ?_
  refine g_ishr X dL_law_1432 ?_
  refine g_iconst (v := (nI 4)) X dL_law_1433 rfl ?_
  have lb1434 := lwN_lt ((celV L xs (25 + rd)) >>> ((nI 4) &&& 31)) (n := 4) (by omega)
  refine g_callSP (st2 := [.int (nI (lwN ((celV L xs (25 + rd)) >>> ((nI 4) &&& 31)) 4))]) (ws' := wL E O Q ad ae v w f oa ok ta tk d e z) (wr := wL E O Q ad ae v w f oa ok ta tk d e z) X (c_L_low E ((celV L xs (25 + rd)) >>> ((nI 4) &&& 31)) 4 (by omega) (by omega)) cs_L_25 rfl (List.Perm.refl _) rfl (List.Perm.refl _) rfl rfl (Nat.le_of_ble_eq_true rfl) dL_law_1434 rfl ?_ hcs
  obtain ⟨pl, hpl, epl⟩ : ∃ pl, pl < 4 ∧ lwN (celV L xs (25 + rd) >>> (nI 4 &&& 31)) 4 = pl := ⟨_, lwN_lt _ (by decide), rfl⟩
  rw [epl]
  have hi8 : i < 8 := by omega
  have hth := th_m hv (show i < sM (tA v) by omega)
  refine g_istore (lv' := [(19, .int (nI pl)), (0, .ref b), (1, .ref (O 0 0)), (2, .ref ad), (3, .ref ae), (4, .int (nI rd)), (5, .int (celV L xs (25 + rd))), (6, .int (nI N6)), (7, .int (nI N7)), (8, .int (nI N8)), (9, .int (nI U9)), (10, .int (nI R0)), (11, .int (nI 1)), (12, .int (nI Mt)), (17, .int (nI i))]) X dL_law_1437 (show 19 < 23 by decide) rfl ?_
  refine g_iload X 12 dL_law_1439 rfl ?_
  refine g_if_eq (tgt := 1594) X dL_law_1441 (by decide) (fun c_1441 => absurd c_1441 (by decide)) (fun c_1441 => ?_)
  refine g_aload_n X 2 dL_law_1444 rfl ?_
  refine g_iconst (v := (nI 0)) X dL_law_1445 rfl ?_
  refine g_iload X 0 dL_law_1446 rfl ?_
  refine g_iload X 14 dL_law_1448 rfl ?_
  refine k_shelve X hv cs_L_126 rfl (Nat.le_of_ble_eq_true rfl) dL_law_1450 ?_ hcs
  obtain ⟨g1, g2⟩ := sh_t (v := v) (f := f) (s := 0) (p := pl) (by decide) (by omega) hth (tk_m (s := 0) hi8).1
  rw [g1, g2]
  obtain ⟨f1, e_f1⟩ : ∃ f1, upd f (0 * 4 + pl) (nI i) = f1 := ⟨_, rfl⟩
  rw [e_f1]
  refine g_iconst (v := (nI 1)) X dL_law_1453 rfl ?_
  refine g_icmp_ne (tgt := 1594) X dL_law_1454 (by decide) (fun c_1454 => absurd (by decide) c_1454) (fun c_1454 => ?_)
  refine g_aload_n X 2 dL_law_1457 rfl ?_
  refine g_iconst (v := (nI 1)) X dL_law_1458 rfl ?_
  refine g_iload X 0 dL_law_1459 rfl ?_
  refine g_iload X 14 dL_law_1461 rfl ?_
  refine k_shelve X hv cs_L_126 rfl (Nat.le_of_ble_eq_true rfl) dL_law_1463 ?_ hcs
  obtain ⟨g1, g2⟩ := sh_f (v := v) (f := f1) (s := 1) (p := pl) (by decide) (by omega) hth (tk_m (s := 0) hi8).2.1
  rw [g1, g2]
  refine g_bipush (v := (-2)) X dL_law_1466 rfl ?_
  refine g_icmp_ne (tgt := 1594) X dL_law_1468 (by decide) (fun c_1468 => absurd (by decide) c_1468) (fun c_1468 => ?_)
  refine g_aload_n X 2 dL_law_1471 rfl ?_
  refine g_iconst (v := (nI 2)) X dL_law_1472 rfl ?_
  refine g_iload X 0 dL_law_1473 rfl ?_
  refine g_iload X 14 dL_law_1475 rfl ?_
  refine k_shelve X hv cs_L_126 rfl (Nat.le_of_ble_eq_true rfl) dL_law_1477 ?_ hcs
  obtain ⟨g1, g2⟩ := sh_t (v := v) (f := f1) (s := 2) (p := pl) (by decide) (by omega) hth (tk_m (s := 0) hi8).2.2
  rw [g1, g2]
  obtain ⟨f2, e_f2⟩ : ∃ f2, upd f1 (2 * 4 + pl) (nI i) = f2 := ⟨_, rfl⟩
  rw [e_f2]
  have hf20 : f2 (0 * 4 + pl) = nI i := by rw [← e_f2, upd_n _ _ (by omega), ← e_f1, upd_s]
  have hf22 : f2 (2 * 4 + pl) = nI i := by rw [← e_f2, upd_s]
  refine g_iconst (v := (nI 1)) X dL_law_1480 rfl ?_
  refine g_icmp_ne (tgt := 1594) X dL_law_1481 (by decide) (fun c_1481 => absurd (by decide) c_1481) (fun c_1481 => ?_)
  refine g_aload_n X 2 dL_law_1484 rfl ?_
  refine g_iconst (v := (nI 0)) X dL_law_1485 rfl ?_
  refine g_iload X 0 dL_law_1486 rfl ?_
  refine k_shelf X cs_L_129 rfl (Nat.le_of_ble_eq_true rfl) dL_law_1488 ?_ hcs
  rw [sf_at (by decide) (by omega), hf20]
  refine g_iload X 14 dL_law_1491 rfl ?_
  refine g_icmp_ne (tgt := 1594) X dL_law_1493 (by decide) (fun c_1493 => absurd rfl c_1493) (fun c_1493 => ?_)
  refine g_aload_n X 2 dL_law_1496 rfl ?_
  refine g_iconst (v := (nI 2)) X dL_law_1497 rfl ?_
  refine g_iload X 0 dL_law_1498 rfl ?_
  refine k_shelf X cs_L_129 rfl (Nat.le_of_ble_eq_true rfl) dL_law_1500 ?_ hcs
  rw [sf_at (by decide) (by omega), hf22]
  refine g_iload X 14 dL_law_1503 rfl ?_
  refine g_icmp_ne (tgt := 1594) X dL_law_1505 (by decide) (fun c_1505 => absurd rfl c_1505) (fun c_1505 => ?_)
  refine g_iload X 9 dL_law_1508 rfl ?_
  refine g_if_ne (tgt := 1529) X dL_law_1510 (by decide) (fun c_1510 => ?_) (fun c_1510 => ?_)
  · have f_c_1510 : ¬ N8 = 0 := n_ne (by omega) (by omega) c_1510
    refine g_aload_n X 2 dL_law_1529 rfl ?_
    refine g_iconst (v := (nI 1)) X dL_law_1530 rfl ?_
    refine g_iload X 0 dL_law_1531 rfl ?_
    refine g_bipush (v := (nI 8)) X dL_law_1533 rfl ?_
    refine k_shelve X hv cs_L_126 rfl (Nat.le_of_ble_eq_true rfl) dL_law_1535 ?_ hcs
    have h88 : hasTh v (nI 8) = true := by rw [th_8 hv]; exact decide_eq_true (by omega)
    obtain ⟨g1, g2⟩ := sh_t (v := v) (f := f2) (s := 1) (p := pl) (by decide) (by omega) h88 (by decide)
    rw [g1, g2]
    obtain ⟨f3, e_f3⟩ : ∃ f3, upd f2 (1 * 4 + pl) (nI 8) = f3 := ⟨_, rfl⟩
    rw [e_f3]
    have hf30 : f3 (0 * 4 + pl) = nI i := by rw [← e_f3, upd_n _ _ (by omega)]; exact hf20
    have hf32 : f3 (2 * 4 + pl) = nI i := by rw [← e_f3, upd_n _ _ (by omega)]; exact hf22
    have hf31 : f3 (1 * 4 + pl) = nI 8 := by rw [← e_f3, upd_s]
    refine g_iconst (v := (nI 1)) X dL_law_1538 rfl ?_
    refine g_icmp_ne (tgt := 1594) X dL_law_1539 (by decide) (fun c_1539 => absurd (by decide) c_1539) (fun c_1539 => ?_)
    refine g_aload_n X 2 dL_law_1542 rfl ?_
    refine g_iconst (v := (nI 0)) X dL_law_1543 rfl ?_
    refine g_iload X 0 dL_law_1544 rfl ?_
    refine g_bipush (v := (nI 8)) X dL_law_1546 rfl ?_
    refine k_shelve X hv cs_L_126 rfl (Nat.le_of_ble_eq_true rfl) dL_law_1548 ?_ hcs
    obtain ⟨g1, g2⟩ := sh_f (v := v) (f := f3) (s := 0) (p := pl) (by decide) (by omega) h88 (by decide)
    rw [g1, g2]
    refine g_bipush (v := (-2)) X dL_law_1551 rfl ?_
    refine g_icmp_ne (tgt := 1594) X dL_law_1553 (by decide) (fun c_1553 => absurd (by decide) c_1553) (fun c_1553 => ?_)
    refine g_aload_n X 2 dL_law_1556 rfl ?_
    refine g_iconst (v := (nI 1)) X dL_law_1557 rfl ?_
    refine g_iload X 0 dL_law_1558 rfl ?_
    refine k_shelf X cs_L_129 rfl (Nat.le_of_ble_eq_true rfl) dL_law_1560 ?_ hcs
    rw [sf_at (by decide) (by omega), hf31]
    refine g_bipush (v := (nI 8)) X dL_law_1563 rfl ?_
    refine g_icmp_ne (tgt := 1594) X dL_law_1565 (by decide) (fun c_1565 => absurd (by decide) c_1565) (fun c_1565 => ?_)
    refine g_aload_n X 2 dL_law_1568 rfl ?_
    refine g_iconst (v := (nI 0)) X dL_law_1569 rfl ?_
    refine g_iload X 0 dL_law_1570 rfl ?_
    refine k_shelf X cs_L_129 rfl (Nat.le_of_ble_eq_true rfl) dL_law_1572 ?_ hcs
    rw [sf_at (by decide) (by omega), hf30]
    refine g_iload X 14 dL_law_1575 rfl ?_
    refine g_icmp_ne (tgt := 1594) X dL_law_1577 (by decide) (fun c_1577 => absurd rfl c_1577) (fun c_1577 => ?_)
    refine g_aload_n X 2 dL_law_1580 rfl ?_
    refine g_bipush (v := (nI 9)) X dL_law_1581 rfl ?_
    refine k_count X cs_L_47 rfl (Nat.le_of_ble_eq_true rfl) dL_law_1583 ?_ hcs
    have hc9 := cnt_two (p := fun k => decide (¬ f3 k = -4)) (n := 12) (a := 0 * 4 + pl) (b := 2 * 4 + pl) (by omega) (by omega) (decide_eq_true (by rw [hf30]; exact ng_eq (by omega) (by decide))) (decide_eq_true (by rw [hf32]; exact ng_eq (by omega) (by decide)))
    have hc12 := cntB_le (fun k => decide (¬ f3 k = -4)) 12
    rw [cq_9]
    refine g_iconst (v := (nI 1)) X dL_law_1586 rfl ?_
    refine g_icmp_le (tgt := 1594) X dL_law_1587 (by decide) (fun c_1587 => by exfalso; have f_ : cntB (fun k => decide (¬ f3 k = -4)) 12 ≤ 1 := n_le (by omega) (by omega) c_1587; omega) (fun c_1587 => ?_)
    refine g_iconst (v := (nI 1)) X dL_law_1590 rfl ?_
    refine g_goto (tgt := 1595) X dL_law_1591 (by decide) ?_
    refine g_istore (lv' := [(11, .int (nI 1)), (19, .int (nI pl)), (0, .ref b), (1, .ref (O 0 0)), (2, .ref ad), (3, .ref ae), (4, .int (nI rd)), (5, .int (celV L xs (25 + rd))), (6, .int (nI N6)), (7, .int (nI N7)), (8, .int (nI N8)), (9, .int (nI U9)), (10, .int (nI R0)), (12, .int (nI Mt)), (17, .int (nI i))]) X dL_law_1595 (show 11 < 23 by decide) rfl ?_
    refine GG.lv [2, 3, 4, 5, 6, 7, 8, 9, 10, 11, 12, 0, 13, 14] rfl ?_
    exact kk f3 z 
  · have f_c_1510 : N8 = 0 := n_eq (by omega) (by omega) c_1510
    refine g_aload_n X 2 dL_law_1513 rfl ?_
    refine g_iconst (v := (nI 1)) X dL_law_1514 rfl ?_
    refine g_iload X 0 dL_law_1515 rfl ?_
    refine g_bipush (v := (nI 8)) X dL_law_1517 rfl ?_
    refine k_shelve X hv cs_L_126 rfl (Nat.le_of_ble_eq_true rfl) dL_law_1519 ?_ hcs
    have h88 : hasTh v (nI 8) = false := by rw [th_8 hv]; exact decide_eq_false (by omega)
    obtain ⟨g7, g8⟩ := sh_b (v := v) (f := f2) (s := nI 1) (p := nI pl) h88
    rw [g7, g8]
    refine g_iconst (v := (-1)) X dL_law_1522 rfl ?_
    refine g_icmp_ne (tgt := 1594) X dL_law_1523 (by decide) (fun c_1523 => absurd (by decide) c_1523) (fun c_1523 => ?_)
    refine g_goto (tgt := 1568) X dL_law_1526 (by decide) ?_
    refine g_aload_n X 2 dL_law_1568 rfl ?_
    refine g_iconst (v := (nI 0)) X dL_law_1569 rfl ?_
    refine g_iload X 0 dL_law_1570 rfl ?_
    refine k_shelf X cs_L_129 rfl (Nat.le_of_ble_eq_true rfl) dL_law_1572 ?_ hcs
    rw [sf_at (by decide) (by omega), hf20]
    refine g_iload X 14 dL_law_1575 rfl ?_
    refine g_icmp_ne (tgt := 1594) X dL_law_1577 (by decide) (fun c_1577 => absurd rfl c_1577) (fun c_1577 => ?_)
    refine g_aload_n X 2 dL_law_1580 rfl ?_
    refine g_bipush (v := (nI 9)) X dL_law_1581 rfl ?_
    refine k_count X cs_L_47 rfl (Nat.le_of_ble_eq_true rfl) dL_law_1583 ?_ hcs
    have hc9 := cnt_two (p := fun k => decide (¬ f2 k = -4)) (n := 12) (a := 0 * 4 + pl) (b := 2 * 4 + pl) (by omega) (by omega) (decide_eq_true (by rw [hf20]; exact ng_eq (by omega) (by decide))) (decide_eq_true (by rw [hf22]; exact ng_eq (by omega) (by decide)))
    have hc12 := cntB_le (fun k => decide (¬ f2 k = -4)) 12
    rw [cq_9]
    refine g_iconst (v := (nI 1)) X dL_law_1586 rfl ?_
    refine g_icmp_le (tgt := 1594) X dL_law_1587 (by decide) (fun c_1587 => by exfalso; have f_ : cntB (fun k => decide (¬ f2 k = -4)) 12 ≤ 1 := n_le (by omega) (by omega) c_1587; omega) (fun c_1587 => ?_)
    refine g_iconst (v := (nI 1)) X dL_law_1590 rfl ?_
    refine g_goto (tgt := 1595) X dL_law_1591 (by decide) ?_
    refine g_istore (lv' := [(11, .int (nI 1)), (19, .int (nI pl)), (0, .ref b), (1, .ref (O 0 0)), (2, .ref ad), (3, .ref ae), (4, .int (nI rd)), (5, .int (celV L xs (25 + rd))), (6, .int (nI N6)), (7, .int (nI N7)), (8, .int (nI N8)), (9, .int (nI U9)), (10, .int (nI R0)), (12, .int (nI Mt)), (17, .int (nI i))]) X dL_law_1595 (show 11 < 23 by decide) rfl ?_
    refine GG.lv [2, 3, 4, 5, 6, 7, 8, 9, 10, 11, 12, 0, 13, 14] rfl ?_
    exact kk f2 z 
end LAW
