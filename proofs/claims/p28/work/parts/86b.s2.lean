section LAW
variable {E : GE} {nm0 : String} {p : Program} {ev : Env} {s0 : State} {m : MethodId} {b : Nat} {below : List Frame} {meth : Method} {c : Code} {O : Nat → Nat → Nat} {Q : Nat → Nat → Nat → Nat} {ad ae cells slots L : Nat} {xs : Nat → Int32} {v : TV} {w : TXT} {f : Nat → Int32} {oa : PO} {ok : PO} {ta : Nat → TV} {tk : Nat → TV} {d : Nat → Int32} {e : Nat → Int32}
set_option maxHeartbeats 4000000 in
set_option maxRecDepth 100000 in
theorem lw_s2 (X : CX E (m_L nm0) (GL p ev s0 m b below meth c)) (hX : SC (GL p ev s0 m b below meth c) b L xs) (hL : L < 2 ^ 31) (hcs : cells ≤ 600000 ∧ slots ≤ 7302250) {z : ScrT} (rd R0 : Nat) (hrd : rd < 6) (hd : DE v d e) (hR : tR v = nI R0) (hR1 : 1 ≤ R0) (hR2 : R0 ≤ 20) (k : ∀ z : ScrT, GG E (m_L nm0) (GL p ev s0 m b below meth c) cells slots (wL E O Q ad ae v w f oa ok ta tk d e z) [(0, .ref b), (1, .ref (O 0 0)), (2, .ref ad), (3, .ref ae), (4, .int (nI rd)), (5, .int (celV L xs (25 + rd))), (6, .int (nI (sM (tA v)))), (7, .int (nI (sM (tB v)))), (8, .int (nI (sS (tA v)))), (9, .int (nI oa.2)), (10, .int (nI R0)), (11, .int (nI 1)), (12, .int (nI (mtC (cM v) (sM (tA v)))))] 624 []) : GG E (m_L nm0) (GL p ev s0 m b below meth c) cells slots (wL E O Q ad ae v w f oa ok ta tk d e z) [(0, .ref b), (1, .ref (O 0 0)), (2, .ref ad), (3, .ref ae), (4, .int (nI rd)), (5, .int (celV L xs (25 + rd))), (6, .int (nI (sM (tA v)))), (7, .int (nI (sM (tB v)))), (8, .int (nI (sS (tA v)))), (9, .int (nI oa.2)), (10, .int (nI R0)), (11, .int (nI 1)), (12, .int (nI (mtC (cM v) (sM (tA v))))), (13, .int (loneI (cM v) (sM (tA v))))] 521 [] := by
  have hv : okT v := hd.ok
  have h8a := hv.1.1
  have h8b := hv.2.1.1
  have h8s := hv.1.2
  have h8t := hv.2.1.2
  have h1a := hd.1.2.1
  have h1b := hd.1.2.2
  refine g_iconst (v := (nI 0)) X dL_law_521 rfl ?_
  refine g_istore (lv' := [(14, .int (nI 0)), (0, .ref b), (1, .ref (O 0 0)), (2, .ref ad), (3, .ref ae), (4, .int (nI rd)), (5, .int (celV L xs (25 + rd))), (6, .int (nI (sM (tA v)))), (7, .int (nI (sM (tB v)))), (8, .int (nI (sS (tA v)))), (9, .int (nI oa.2)), (10, .int (nI R0)), (11, .int (nI 1)), (12, .int (nI (mtC (cM v) (sM (tA v))))), (13, .int (loneI (cM v) (sM (tA v))))]) X dL_law_522 (show 14 < 23 by decide) rfl ?_
  refine g_iconst (v := (nI 0)) X dL_law_524 rfl ?_
  refine g_istore (lv' := [(15, .int (nI 0)), (14, .int (nI 0)), (0, .ref b), (1, .ref (O 0 0)), (2, .ref ad), (3, .ref ae), (4, .int (nI rd)), (5, .int (celV L xs (25 + rd))), (6, .int (nI (sM (tA v)))), (7, .int (nI (sM (tB v)))), (8, .int (nI (sS (tA v)))), (9, .int (nI oa.2)), (10, .int (nI R0)), (11, .int (nI 1)), (12, .int (nI (mtC (cM v) (sM (tA v))))), (13, .int (loneI (cM v) (sM (tA v))))]) X dL_law_525 (show 15 < 23 by decide) rfl ?_
  have L_527 : ∀ (n_527 : Nat) (j : Nat) (z : ScrT) (hj : j ≤ sM (tB v)) (hm_527 : sM (tB v) - j < n_527) (x_14 : Int32) (ex_14 : x_14 = (nI (mtC (cN v) j))) (x_15 : Int32) (ex_15 : x_15 = (nI j)), GG E (m_L nm0) (GL p ev s0 m b below meth c) cells slots (wL E O Q ad ae v w f oa ok ta tk d e z) [(0, .ref b), (1, .ref (O 0 0)), (2, .ref ad), (3, .ref ae), (4, .int (nI rd)), (5, .int (celV L xs (25 + rd))), (6, .int (nI (sM (tA v)))), (7, .int (nI (sM (tB v)))), (8, .int (nI (sS (tA v)))), (9, .int (nI oa.2)), (10, .int (nI R0)), (11, .int (nI 1)), (12, .int (nI (mtC (cM v) (sM (tA v))))), (13, .int (loneI (cM v) (sM (tA v)))), (14, .int x_14), (15, .int x_15)] 527 [] := by
    intro n_527
    induction n_527 with
    | zero => intro j z hj hm_527; exact absurd hm_527 (Nat.not_lt_zero _)
    | succ n_527 ih_527 =>
      intro j z hj hm_527 x_14 ex_14 x_15 ex_15
      subst ex_14
      subst ex_15
      refine g_iload X 15 dL_law_527 rfl ?_
      refine g_iload X 7 dL_law_529 rfl ?_
      refine g_icmp_ge (tgt := 560) X dL_law_531 (by decide) (fun c_531 => ?_) (fun c_531 => ?_)
      · have f_c_531 : sM (tB v) ≤ j := n_le (by omega) (by omega) c_531
        have fn_c_531 := Nat.not_lt.mpr f_c_531
        obtain rfl : j = sM (tB v) := by omega
        refine g_iload X 11 dL_law_560 rfl ?_
        refine g_if_eq (tgt := 621) X dL_law_562 (by decide) (fun c_562 => absurd c_562 (by decide)) (fun c_562 => ?_)
        refine g_iload X 12 dL_law_565 rfl ?_
        refine g_iload X 14 dL_law_567 rfl ?_
        refine g_icmp_ne (tgt := 621) X dL_law_569 (by decide) (fun c_569 => absurd (congrArg nI (mt_same hd.rv)) c_569) (fun c_569 => ?_)
        refine g_aload_n X 1 dL_law_572 rfl ?_
        refine g_iconst (v := (nI 0)) X dL_law_573 rfl ?_
        refine k_whole X hd.rv cs_L_109 rfl (Nat.le_of_ble_eq_true rfl) dL_law_574 (fun z => ?_) hcs
        rw [wh_0 hd.rv]
        refine g_iload X 12 dL_law_577 rfl ?_
        refine g_icmp_ne (tgt := 621) X dL_law_579 (by decide) (fun c_579 => absurd rfl c_579) (fun c_579 => ?_)
        refine g_aload_n X 1 dL_law_582 rfl ?_
        refine g_iconst (v := (nI 3)) X dL_law_583 rfl ?_
        refine k_whole X hd.rv cs_L_109 rfl (Nat.le_of_ble_eq_true rfl) dL_law_584 (fun z => ?_) hcs
        rw [wh_3]
        refine g_iload X 13 dL_law_587 rfl ?_
        refine g_icmp_ne (tgt := 621) X dL_law_589 (by decide) (fun c_589 => absurd rfl c_589) (fun c_589 => ?_)
        refine g_aload_n X 1 dL_law_592 rfl ?_
        refine g_iconst (v := (nI 1)) X dL_law_593 rfl ?_
        refine k_whole X hd.rv cs_L_109 rfl (Nat.le_of_ble_eq_true rfl) dL_law_594 (fun z => ?_) hcs
        obtain ⟨n1, hn1, en1⟩ := wh_1 hd.rv
        rw [en1]
        refine g_if_lt (tgt := 621) X dL_law_597 (by decide) (fun c_597 => absurd c_597 (nI_pos (by omega))) (fun c_597 => ?_)
        refine g_aload_n X 1 dL_law_600 rfl ?_
        refine g_iconst (v := (nI 2)) X dL_law_601 rfl ?_
        refine k_whole X hd.rv cs_L_109 rfl (Nat.le_of_ble_eq_true rfl) dL_law_602 (fun z => ?_) hcs
        obtain ⟨n2, hn2, en2⟩ := wh_2 v
        rw [en2]
        refine g_if_lt (tgt := 621) X dL_law_605 (by decide) (fun c_605 => absurd c_605 (nI_pos (by omega))) (fun c_605 => ?_)
        refine g_aload_n X 1 dL_law_608 rfl ?_
        refine g_iconst (v := (nI 2)) X dL_law_609 rfl ?_
        refine k_whole X hd.rv cs_L_109 rfl (Nat.le_of_ble_eq_true rfl) dL_law_610 (fun z => ?_) hcs
        rw [en2]
        refine g_iconst (v := (nI 2)) X dL_law_613 rfl ?_
        refine g_icmp_ge (tgt := 621) X dL_law_614 (by decide) (fun c_614 => by exfalso; have f_ : 2 ≤ n2 := n_le (by omega) (by omega) c_614; omega) (fun c_614 => ?_)
        refine g_iconst (v := (nI 1)) X dL_law_617 rfl ?_
        refine g_goto (tgt := 622) X dL_law_618 (by decide) ?_
        refine g_istore (lv' := [(11, .int (nI 1)), (0, .ref b), (1, .ref (O 0 0)), (2, .ref ad), (3, .ref ae), (4, .int (nI rd)), (5, .int (celV L xs (25 + rd))), (6, .int (nI (sM (tA v)))), (7, .int (nI (sM (tB v)))), (8, .int (nI (sS (tA v)))), (9, .int (nI oa.2)), (10, .int (nI R0)), (12, .int (nI (mtC (cM v) (sM (tA v))))), (13, .int (loneI (cM v) (sM (tA v)))), (14, .int (nI (mtC (cN v) (sM (tB v))))), (15, .int (nI (sM (tB v))))]) X dL_law_622 (show 11 < 23 by decide) rfl ?_
        refine GG.lv [1, 2, 3, 4, 5, 6, 7, 8, 9, 10, 11, 0, 12] rfl ?_
        exact k z 
      · have f_c_531 : j < sM (tB v) := n_nle (by omega) (by omega) c_531
        have fn_c_531 := Nat.not_le.mpr f_c_531
        refine g_iload X 14 dL_law_534 rfl ?_
        refine g_aload_n X 1 dL_law_536 rfl ?_
        refine g_iconst (v := (nI 1)) X dL_law_537 rfl ?_
        refine g_iload X 15 dL_law_538 rfl ?_
        refine k_match X hd.rv cs_L_99 rfl (Nat.le_of_ble_eq_true rfl) dL_law_540 (fun z => ?_) hcs
        rcases nt_or hd.rv (show j < sM (tB v) by omega) with ⟨q0, q1⟩ | ⟨i2, hi2, q0, q1⟩
        · rw [q0]
          refine g_if_lt (tgt := 550) X dL_law_543 (by decide) (fun c_543 => ?_) (fun c_543 => absurd (by decide) c_543)
          refine g_iconst (v := (nI 0)) X dL_law_550 rfl ?_
          refine g_iaddN X dL_law_551 ?_
          refine g_istore (lv' := [(14, .int (nI ((mtC (cN v) j) + 0))), (0, .ref b), (1, .ref (O 0 0)), (2, .ref ad), (3, .ref ae), (4, .int (nI rd)), (5, .int (celV L xs (25 + rd))), (6, .int (nI (sM (tA v)))), (7, .int (nI (sM (tB v)))), (8, .int (nI (sS (tA v)))), (9, .int (nI oa.2)), (10, .int (nI R0)), (11, .int (nI 1)), (12, .int (nI (mtC (cM v) (sM (tA v))))), (13, .int (loneI (cM v) (sM (tA v)))), (15, .int (nI j))]) X dL_law_552 (show 14 < 23 by decide) rfl ?_
          refine g_iincN (lv' := [(15, .int (nI (j + 1))), (14, .int (nI ((mtC (cN v) j) + 0))), (0, .ref b), (1, .ref (O 0 0)), (2, .ref ad), (3, .ref ae), (4, .int (nI rd)), (5, .int (celV L xs (25 + rd))), (6, .int (nI (sM (tA v)))), (7, .int (nI (sM (tB v)))), (8, .int (nI (sS (tA v)))), (9, .int (nI oa.2)), (10, .int (nI R0)), (11, .int (nI 1)), (12, .int (nI (mtC (cM v) (sM (tA v))))), (13, .int (loneI (cM v) (sM (tA v))))]) X 15 dL_law_554 rfl (show 15 < 23 by decide) rfl ?_
          refine g_goto (tgt := 527) X dL_law_557 (by decide) ?_
          refine GG.lv [2, 3, 4, 5, 6, 7, 8, 9, 10, 11, 12, 13, 14, 15, 1, 0] rfl ?_
          exact ih_527 (j + 1) z (by omega) (by omega) (nI ((mtC (cN v) j) + 0)) (by exact mtC_f q1) (nI (j + 1)) (by rfl)
        · rw [q0]
          refine g_if_lt (tgt := 550) X dL_law_543 (by decide) (fun c_543 => absurd c_543 (nI_pos (by omega))) (fun c_543 => ?_)
          refine g_iconst (v := (nI 1)) X dL_law_546 rfl ?_
          refine g_goto (tgt := 551) X dL_law_547 (by decide) ?_
          refine g_iaddN X dL_law_551 ?_
          refine g_istore (lv' := [(14, .int (nI ((mtC (cN v) j) + 1))), (0, .ref b), (1, .ref (O 0 0)), (2, .ref ad), (3, .ref ae), (4, .int (nI rd)), (5, .int (celV L xs (25 + rd))), (6, .int (nI (sM (tA v)))), (7, .int (nI (sM (tB v)))), (8, .int (nI (sS (tA v)))), (9, .int (nI oa.2)), (10, .int (nI R0)), (11, .int (nI 1)), (12, .int (nI (mtC (cM v) (sM (tA v))))), (13, .int (loneI (cM v) (sM (tA v)))), (15, .int (nI j))]) X dL_law_552 (show 14 < 23 by decide) rfl ?_
          refine g_iincN (lv' := [(15, .int (nI (j + 1))), (14, .int (nI ((mtC (cN v) j) + 1))), (0, .ref b), (1, .ref (O 0 0)), (2, .ref ad), (3, .ref ae), (4, .int (nI rd)), (5, .int (celV L xs (25 + rd))), (6, .int (nI (sM (tA v)))), (7, .int (nI (sM (tB v)))), (8, .int (nI (sS (tA v)))), (9, .int (nI oa.2)), (10, .int (nI R0)), (11, .int (nI 1)), (12, .int (nI (mtC (cM v) (sM (tA v))))), (13, .int (loneI (cM v) (sM (tA v))))]) X 15 dL_law_554 rfl (show 15 < 23 by decide) rfl ?_
          refine g_goto (tgt := 527) X dL_law_557 (by decide) ?_
          refine GG.lv [2, 3, 4, 5, 6, 7, 8, 9, 10, 11, 12, 13, 14, 15, 1, 0] rfl ?_
          exact ih_527 (j + 1) z (by omega) (by omega) (nI ((mtC (cN v) j) + 1)) (by exact mtC_t (by rw [q1]; exact nI_ne_m1 (by omega))) (nI (j + 1)) (by rfl)
  refine GG.lv [2, 3, 4, 5, 6, 7, 8, 9, 10, 11, 12, 13, 14, 15, 1, 0] rfl ?_
  exact L_527 (sM (tB v) + 1) 0 z (by omega) (by omega) (nI 0) (by rfl) (nI 0) (by rfl)
end LAW
