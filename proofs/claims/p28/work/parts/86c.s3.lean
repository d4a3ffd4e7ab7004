section LAW
variable {E : GE} {nm0 : String} {p : Program} {ev : Env} {s0 : State} {m : MethodId} {b : Nat} {below : List Frame} {meth : Method} {c : Code} {O : Nat → Nat → Nat} {Q : Nat → Nat → Nat → Nat} {ad ae cells slots L : Nat} {xs : Nat → Int32} {v : TV} {w : TXT} {f : Nat → Int32} {oa : PO} {ok : PO} {ta : Nat → TV} {tk : Nat → TV} {d : Nat → Int32} {e : Nat → Int32}
set_option maxHeartbeats 4000000 in
set_option maxRecDepth 100000 in
theorem lw_s3 (X : CX E (m_L nm0) (GL p ev s0 m b below meth c)) (hX : SC (GL p ev s0 m b below meth c) b L xs) (hL : L < 2 ^ 31) (hcs : cells ≤ 600000 ∧ slots ≤ 7302250) {z : ScrT} (rd R0 : Nat) (hrd : rd < 6) (hd : DE v d e) (hR : tR v = nI R0) (hR1 : 1 ≤ R0) (hR2 : R0 ≤ 20) (kk : ∀ z : ScrT, GG E (m_L nm0) (GL p ev s0 m b below meth c) cells slots (wL E O Q ad ae v w f oa ok ta tk d e z) [(0, .ref b), (1, .ref (O 0 0)), (2, .ref ad), (3, .ref ae), (4, .int (nI rd)), (5, .int (celV L xs (25 + rd))), (6, .int (nI (sM (tA v)))), (7, .int (nI (sM (tB v)))), (8, .int (nI (sS (tA v)))), (9, .int (nI oa.2)), (10, .int (nI R0)), (11, .int (nI 1)), (12, .int (nI (mtC (cM v) (sM (tA v)))))] 1007 []) : GG E (m_L nm0) (GL p ev s0 m b below meth c) cells slots (wL E O Q ad ae v w f oa ok ta tk d e z) [(0, .ref b), (1, .ref (O 0 0)), (2, .ref ad), (3, .ref ae), (4, .int (nI rd)), (5, .int (celV L xs (25 + rd))), (6, .int (nI (sM (tA v)))), (7, .int (nI (sM (tB v)))), (8, .int (nI (sS (tA v)))), (9, .int (nI oa.2)), (10, .int (nI R0)), (11, .int (nI 1)), (12, .int (nI (mtC (cM v) (sM (tA v)))))] 624 [] := by
  have hv : okT v := hd.ok
  have h8a := hv.1.1
  have h8b := hv.2.1.1
  have h8s := hv.1.2
  have h8t := hv.2.1.2
  have h1a := hd.1.2.1
  have h1b := hd.1.2.2
  refine g_iconst (v := (nI 0)) X dL_law_624 rfl ?_
  refine g_istore (lv' := [(15, .int (nI 0)), (0, .ref b), (1, .ref (O 0 0)), (2, .ref ad), (3, .ref ae), (4, .int (nI rd)), (5, .int (celV L xs (25 + rd))), (6, .int (nI (sM (tA v)))), (7, .int (nI (sM (tB v)))), (8, .int (nI (sS (tA v)))), (9, .int (nI oa.2)), (10, .int (nI R0)), (11, .int (nI 1)), (12, .int (nI (mtC (cM v) (sM (tA v)))))]) X dL_law_625 (show 15 < 23 by decide) rfl ?_
  refine g_iconst (v := (nI 0)) X dL_law_627 rfl ?_
  refine g_istore (lv' := [(16, .int (nI 0)), (15, .int (nI 0)), (0, .ref b), (1, .ref (O 0 0)), (2, .ref ad), (3, .ref ae), (4, .int (nI rd)), (5, .int (celV L xs (25 + rd))), (6, .int (nI (sM (tA v)))), (7, .int (nI (sM (tB v)))), (8, .int (nI (sS (tA v)))), (9, .int (nI oa.2)), (10, .int (nI R0)), (11, .int (nI 1)), (12, .int (nI (mtC (cM v) (sM (tA v)))))]) X dL_law_628 (show 16 < 23 by decide) rfl ?_
  have L_630 : ∀ (n_630 : Nat) (k : Nat) (z : ScrT) (hk : k ≤ sS (tA v)) (hm_630 : sS (tA v) - k < n_630) (x_15 : Int32) (ex_15 : x_15 = (nI (toC v k))) (x_16 : Int32) (ex_16 : x_16 = (nI k)), GG E (m_L nm0) (GL p ev s0 m b below meth c) cells slots (wL E O Q ad ae v w f oa ok ta tk d e z) [(0, .ref b), (1, .ref (O 0 0)), (2, .ref ad), (3, .ref ae), (4, .int (nI rd)), (5, .int (celV L xs (25 + rd))), (6, .int (nI (sM (tA v)))), (7, .int (nI (sM (tB v)))), (8, .int (nI (sS (tA v)))), (9, .int (nI oa.2)), (10, .int (nI R0)), (11, .int (nI 1)), (12, .int (nI (mtC (cM v) (sM (tA v))))), (15, .int x_15), (16, .int x_16)] 630 [] := by
    intro n_630
    induction n_630 with
    | zero => intro k z hk hm_630; exact absurd hm_630 (Nat.not_lt_zero _)
    | succ n_630 ih_630 =>
      intro k z hk hm_630 x_15 ex_15 x_16 ex_16
      subst ex_15
      subst ex_16
      refine g_iload X 14 dL_law_630 rfl ?_
      refine g_iload X 8 dL_law_632 rfl ?_
      refine g_icmp_ge (tgt := 985) X dL_law_634 (by decide) (fun c_634 => ?_) (fun c_634 => ?_)
      · have f_c_634 : sS (tA v) ≤ k := n_le (by omega) (by omega) c_634
        have fn_c_634 := Nat.not_lt.mpr f_c_634
        obtain rfl : k = sS (tA v) := by omega
        refine g_iload X 11 dL_law_985 rfl ?_
        refine g_if_eq (tgt := 1004) X dL_law_987 (by decide) (fun c_987 => absurd c_987 (by decide)) (fun c_987 => ?_)
        refine g_iload X 13 dL_law_990 rfl ?_
        refine g_aload_n X 1 dL_law_992 rfl ?_
        refine g_iconst (v := (nI 5)) X dL_law_993 rfl ?_
        refine k_whole X hd.rv cs_L_109 rfl (Nat.le_of_ble_eq_true rfl) dL_law_994 (fun z => ?_) hcs
        rw [wh_5c]
        refine g_icmp_ne (tgt := 1004) X dL_law_997 (by decide) (fun c_997 => absurd rfl c_997) (fun c_997 => ?_)
        refine g_iconst (v := (nI 1)) X dL_law_1000 rfl ?_
        refine g_goto (tgt := 1005) X dL_law_1001 (by decide) ?_
        refine g_istore (lv' := [(11, .int (nI 1)), (0, .ref b), (1, .ref (O 0 0)), (2, .ref ad), (3, .ref ae), (4, .int (nI rd)), (5, .int (celV L xs (25 + rd))), (6, .int (nI (sM (tA v)))), (7, .int (nI (sM (tB v)))), (8, .int (nI (sS (tA v)))), (9, .int (nI oa.2)), (10, .int (nI R0)), (12, .int (nI (mtC (cM v) (sM (tA v))))), (15, .int (nI (toC v (sS (tA v))))), (16, .int (nI (sS (tA v))))]) X dL_law_1005 (show 11 < 23 by decide) rfl ?_
        refine GG.lv [1, 2, 3, 4, 5, 6, 7, 8, 9, 10, 11, 0, 12] rfl ?_
        exact kk z 
      · have f_c_634 : k < sS (tA v) := n_nle (by omega) (by omega) c_634
        have fn_c_634 := Nat.not_le.mpr f_c_634
        obtain ⟨pa, pb, hpa, hpb, s0_, s1_, s2_, hW⟩ := st_or hd (show k < sS (tA v) by omega)
        refine g_aload_n X 1 dL_law_637 rfl ?_
        refine g_iconst (v := (nI 0)) X dL_law_638 rfl ?_
        refine g_aload_n X 1 dL_law_639 rfl ?_
        refine g_iconst (v := (nI 0)) X dL_law_640 rfl ?_
        refine g_iload X 14 dL_law_641 rfl ?_
        refine g_iconst (v := (nI 0)) X dL_law_643 rfl ?_
        refine k_street X hv cs_L_54 rfl (Nat.le_of_ble_eq_true rfl) dL_law_644 ?_ hcs
        rw [s0_]
        refine k_match X hd.rv cs_L_99 rfl (Nat.le_of_ble_eq_true rfl) dL_law_647 (fun z => ?_) hcs
        rcases mt_or hd.rv hpa with ⟨eu, fu⟩ | ⟨ju, hju, eu, fu, -, -, -⟩
        · rw [eu]
          refine g_istore (lv' := [(17, .int (-4)), (0, .ref b), (1, .ref (O 0 0)), (2, .ref ad), (3, .ref ae), (4, .int (nI rd)), (5, .int (celV L xs (25 + rd))), (6, .int (nI (sM (tA v)))), (7, .int (nI (sM (tB v)))), (8, .int (nI (sS (tA v)))), (9, .int (nI oa.2)), (10, .int (nI R0)), (11, .int (nI 1)), (12, .int (nI (mtC (cM v) (sM (tA v))))), (15, .int (nI (toC v k))), (16, .int (nI k))]) X dL_law_650 (show 17 < 23 by decide) rfl ?_
          refine g_aload_n X 2 dL_law_652 rfl ?_
          refine g_iconst (v := (nI 0)) X dL_law_653 rfl ?_
          refine g_aload_n X 2 dL_law_654 rfl ?_
          refine g_iconst (v := (nI 0)) X dL_law_655 rfl ?_
          refine g_iload X 15 dL_law_656 rfl ?_
          refine g_iconst (v := (nI 1)) X dL_law_658 rfl ?_
          refine k_street X hv cs_L_54 rfl (Nat.le_of_ble_eq_true rfl) dL_law_659 ?_ hcs
          rw [s1_]
          refine k_match X hd.rv cs_L_99 rfl (Nat.le_of_ble_eq_true rfl) dL_law_662 (fun z => ?_) hcs
          rcases mt_or hd.rv hpb with ⟨ew, fv⟩ | ⟨jv, hjv, ew, fv, -, -, -⟩
          · rw [ew]
            refine g_istore (lv' := [(18, .int (-4)), (17, .int (-4)), (0, .ref b), (1, .ref (O 0 0)), (2, .ref ad), (3, .ref ae), (4, .int (nI rd)), (5, .int (celV L xs (25 + rd))), (6, .int (nI (sM (tA v)))), (7, .int (nI (sM (tB v)))), (8, .int (nI (sS (tA v)))), (9, .int (nI oa.2)), (10, .int (nI R0)), (11, .int (nI 1)), (12, .int (nI (mtC (cM v) (sM (tA v))))), (15, .int (nI (toC v k))), (16, .int (nI k))]) X dL_law_665 (show 18 < 23 by decide) rfl ?_
            refine g_aload_n X 3 dL_law_667 rfl ?_
            refine g_iload X 16 dL_law_668 rfl ?_
            refine g_iconst (v := (-1)) X dL_law_670 rfl ?_
            refine k_told X hd.rv cs_L_112 rfl (Nat.le_of_ble_eq_true rfl) dL_law_671 (fun z => ?_) hcs
            have wf := wy_full (tB v) (cM v pa) (cM v pb) w00
            rw [← hW] at wf
            rcases wf with hw | ⟨hw1, hw3, hx, hy, y0, y1⟩
            · rw [tol_m1 hd.rv (show k < sS (tA v) by omega), if_neg (show ¬ 0 < (cW v k).2 by omega)]
              refine g_istore (lv' := [(19, .int (-4)), (18, .int (-4)), (17, .int (-4)), (0, .ref b), (1, .ref (O 0 0)), (2, .ref ad), (3, .ref ae), (4, .int (nI rd)), (5, .int (celV L xs (25 + rd))), (6, .int (nI (sM (tA v)))), (7, .int (nI (sM (tB v)))), (8, .int (nI (sS (tA v)))), (9, .int (nI oa.2)), (10, .int (nI R0)), (11, .int (nI 1)), (12, .int (nI (mtC (cM v) (sM (tA v))))), (15, .int (nI (toC v k))), (16, .int (nI k))]) X dL_law_674 (show 19 < 23 by decide) rfl ?_
              refine g_iload X 16 dL_law_676 rfl ?_
              refine g_iload X 0 dL_law_678 rfl ?_
              refine g_if_le (tgt := 687) X dL_law_680 (by decide) (fun c_680 => ?_) (fun c_680 => absurd (by decide) c_680)
              refine g_iconst (v := (nI 0)) X dL_law_687 rfl ?_
              refine g_iaddN X dL_law_688 ?_
              refine g_istore (lv' := [(15, .int (nI ((toC v k) + 0))), (19, .int (-4)), (18, .int (-4)), (17, .int (-4)), (0, .ref b), (1, .ref (O 0 0)), (2, .ref ad), (3, .ref ae), (4, .int (nI rd)), (5, .int (celV L xs (25 + rd))), (6, .int (nI (sM (tA v)))), (7, .int (nI (sM (tB v)))), (8, .int (nI (sS (tA v)))), (9, .int (nI oa.2)), (10, .int (nI R0)), (11, .int (nI 1)), (12, .int (nI (mtC (cM v) (sM (tA v))))), (16, .int (nI k))]) X dL_law_689 (show 15 < 23 by decide) rfl ?_
              refine g_iload X 15 dL_law_691 rfl ?_
              refine g_if_eq (tgt := 828) X dL_law_693 (by decide) (fun c_693 => absurd c_693 (by decide)) (fun c_693 => ?_)
              refine g_iload X 1 dL_law_696 rfl ?_
              refine g_bipush (v := (-4)) X dL_law_698 rfl ?_
              refine g_icmp_ne (tgt := 735) X dL_law_700 (by decide) (fun c_700 => absurd (by decide) c_700) (fun c_700 => ?_)
              refine g_aload_n X 5 dL_law_703 rfl ?_
              refine g_iload X 17 dL_law_704 rfl ?_
              refine k_named X hd.rv cs_L_114 rfl (Nat.le_of_ble_eq_true rfl) dL_law_706 (fun z => ?_) hcs
              rw [nam_0 hd.rv (show k < sS (tA v) by omega) hw]
              refine g_aload_n X 5 dL_law_709 rfl ?_
              refine g_iconst (v := (nI 0)) X dL_law_710 rfl ?_
              refine g_iload X 17 dL_law_711 rfl ?_
              refine g_iconst (v := (nI 2)) X dL_law_713 rfl ?_
              refine k_street X hv cs_L_54 rfl (Nat.le_of_ble_eq_true rfl) dL_law_714 ?_ hcs
              rw [s2_]
              refine g_icmp_ne (tgt := 828) X dL_law_717 (by decide) (fun c_717 => absurd rfl c_717) (fun c_717 => ?_)
              refine g_aload_n X 5 dL_law_720 rfl ?_
              refine g_iload X 17 dL_law_721 rfl ?_
              refine g_iconst (v := (nI 0)) X dL_law_723 rfl ?_
              refine k_told X hd.rv cs_L_112 rfl (Nat.le_of_ble_eq_true rfl) dL_law_724 (fun z => ?_) hcs
              rw [tol_at hd.rv (show k < sS (tA v) by omega) (by omega), if_neg (show ¬ (0 < (cW v k).2 ∧ 0 ≤ (cW v k).2) by omega)]
              refine g_bipush (v := (-4)) X dL_law_727 rfl ?_
              refine g_icmp_ne (tgt := 828) X dL_law_729 (by decide) (fun c_729 => absurd (by decide) c_729) (fun c_729 => ?_)
              refine g_goto (tgt := 796) X dL_law_732 (by decide) ?_
              have J_831 : ∀ (z : ScrT) , GG E (m_L nm0) (GL p ev s0 m b below meth c) cells slots (wL E O Q ad ae v w f oa ok ta tk d e z) [(0, .ref b), (1, .ref (O 0 0)), (2, .ref ad), (3, .ref ae), (4, .int (nI rd)), (5, .int (celV L xs (25 + rd))), (6, .int (nI (sM (tA v)))), (7, .int (nI (sM (tB v)))), (8, .int (nI (sS (tA v)))), (9, .int (nI oa.2)), (10, .int (nI R0)), (12, .int (nI (mtC (cM v) (sM (tA v))))), (15, .int (nI ((toC v k) + 0))), (16, .int (nI k)), (17, .int (-4)), (18, .int (-4)), (19, .int (-4)), (11, .int (nI 1))] 831 [] := by
                intro z
                refine g_iconst (v := (nI 0)) X dL_law_831 rfl ?_
                refine g_istore (lv' := [(20, .int (nI 0)), (0, .ref b), (1, .ref (O 0 0)), (2, .ref ad), (3, .ref ae), (4, .int (nI rd)), (5, .int (celV L xs (25 + rd))), (6, .int (nI (sM (tA v)))), (7, .int (nI (sM (tB v)))), (8, .int (nI (sS (tA v)))), (9, .int (nI oa.2)), (10, .int (nI R0)), (12, .int (nI (mtC (cM v) (sM (tA v))))), (15, .int (nI ((toC v k) + 0))), (16, .int (nI k)), (17, .int (-4)), (18, .int (-4)), (19, .int (-4)), (11, .int (nI 1))]) X dL_law_832 (show 20 < 23 by decide) rfl ?_
                refine g_iconst (v := (nI 0)) X dL_law_834 rfl ?_
                refine g_istore (lv' := [(21, .int (nI 0)), (20, .int (nI 0)), (0, .ref b), (1, .ref (O 0 0)), (2, .ref ad), (3, .ref ae), (4, .int (nI rd)), (5, .int (celV L xs (25 + rd))), (6, .int (nI (sM (tA v)))), (7, .int (nI (sM (tB v)))), (8, .int (nI (sS (tA v)))), (9, .int (nI oa.2)), (10, .int (nI R0)), (12, .int (nI (mtC (cM v) (sM (tA v))))), (15, .int (nI ((toC v k) + 0))), (16, .int (nI k)), (17, .int (-4)), (18, .int (-4)), (19, .int (-4)), (11, .int (nI 1))]) X dL_law_835 (show 21 < 23 by decide) rfl ?_
                refine g_iload X 0 dL_law_837 rfl ?_
                refine g_iload X 18 dL_law_839 rfl ?_
                refine g_icmp_ge (tgt := 911) X dL_law_841 (by decide) (fun c_841 => ?_) (fun c_841 => absurd (by decide) c_841)
                refine g_iload X 19 dL_law_911 rfl ?_
                refine g_if_eq (tgt := 976) X dL_law_913 (by decide) (fun c_913 => absurd c_913 (by decide)) (fun c_913 => ?_)
                refine g_iload X 18 dL_law_916 rfl ?_
                refine g_iconst (v := (nI 1)) X dL_law_918 rfl ?_
                refine g_icmp_ne (tgt := 944) X dL_law_919 (by decide) (fun c_919 => ?_) (fun c_919 => absurd c_919 (by decide))
                refine g_iload X 18 dL_law_944 rfl ?_
                refine g_iconst (v := (nI 1)) X dL_law_946 rfl ?_
                refine g_icmp_eq (tgt := 972) X dL_law_947 (by decide) (fun c_947 => absurd c_947 (by decide)) (fun c_947 => ?_)
                refine g_iload X 16 dL_law_950 rfl ?_
                refine g_if_lt (tgt := 972) X dL_law_952 (by decide) (fun c_952 => ?_) (fun c_952 => absurd (by decide) c_952)
                refine g_iconst (v := (nI 1)) X dL_law_972 rfl ?_
                refine g_goto (tgt := 977) X dL_law_973 (by decide) ?_
                refine g_istore (lv' := [(11, .int (nI 1)), (21, .int (nI 0)), (20, .int (nI 0)), (0, .ref b), (1, .ref (O 0 0)), (2, .ref ad), (3, .ref ae), (4, .int (nI rd)), (5, .int (celV L xs (25 + rd))), (6, .int (nI (sM (tA v)))), (7, .int (nI (sM (tB v)))), (8, .int (nI (sS (tA v)))), (9, .int (nI oa.2)), (10, .int (nI R0)), (12, .int (nI (mtC (cM v) (sM (tA v))))), (15, .int (nI ((toC v k) + 0))), (16, .int (nI k)), (17, .int (-4)), (18, .int (-4)), (19, .int (-4))]) X dL_law_977 (show 11 < 23 by decide) rfl ?_
                refine g_iincN (lv' := [(16, .int (nI (k + 1))), (11, .int (nI 1)), (21, .int (nI 0)), (20, .int (nI 0)), (0, .ref b), (1, .ref (O 0 0)), (2, .ref ad), (3, .ref ae), (4, .int (nI rd)), (5, .int (celV L xs (25 + rd))), (6, .int (nI (sM (tA v)))), (7, .int (nI (sM (tB v)))), (8, .int (nI (sS (tA v)))), (9, .int (nI oa.2)), (10, .int (nI R0)), (12, .int (nI (mtC (cM v) (sM (tA v))))), (15, .int (nI ((toC v k) + 0))), (17, .int (-4)), (18, .int (-4)), (19, .int (-4))]) X 16 dL_law_979 rfl (show 16 < 23 by decide) rfl ?_
                refine g_goto (tgt := 630) X dL_law_982 (by decide) ?_
                refine GG.lv [4, 5, 6, 7, 8, 9, 10, 11, 12, 13, 14, 1, 15, 16, 0] rfl ?_
                exact ih_630 (k + 1) z (by omega) (by omega) (nI ((toC v k) + 0)) (by exact toC_f hw) (nI (k + 1)) (by rfl)
              refine g_aload_n X 5 dL_law_796 rfl ?_
              refine g_iconst (v := (nI 0)) X dL_law_797 rfl ?_
              refine g_iload X 17 dL_law_798 rfl ?_
              refine g_iconst (v := (nI 2)) X dL_law_800 rfl ?_
              refine k_street X hv cs_L_54 rfl (Nat.le_of_ble_eq_true rfl) dL_law_801 ?_ hcs
              rw [s2_]
              refine g_if_eq (tgt := 824) X dL_law_804 (by decide) (fun c_804 => ?_) (fun c_804 => ?_)
              · skip
                refine g_iconst (v := (nI 1)) X dL_law_824 rfl ?_
                refine g_goto (tgt := 829) X dL_law_825 (by decide) ?_
                refine g_istore (lv' := [(11, .int (nI 1)), (15, .int (nI ((toC v k) + 0))), (19, .int (-4)), (18, .int (-4)), (17, .int (-4)), (0, .ref b), (1, .ref (O 0 0)), (2, .ref ad), (3, .ref ae), (4, .int (nI rd)), (5, .int (celV L xs (25 + rd))), (6, .int (nI (sM (tA v)))), (7, .int (nI (sM (tB v)))), (8, .int (nI (sS (tA v)))), (9, .int (nI oa.2)), (10, .int (nI R0)), (12, .int (nI (mtC (cM v) (sM (tA v))))), (16, .int (nI k))]) X dL_law_829 (show 11 < 23 by decide) rfl ?_
                refine GG.lv [5, 6, 7, 8, 9, 10, 11, 12, 13, 14, 15, 16, 1, 17, 4, 3, 2, 0] rfl ?_
                exact J_831 z
              · skip
                refine g_aload_n X 5 dL_law_807 rfl ?_
                refine g_iload X 17 dL_law_808 rfl ?_
                refine k_named X hd.rv cs_L_114 rfl (Nat.le_of_ble_eq_true rfl) dL_law_810 (fun z => ?_) hcs
                rw [nam_n hd.rv (show k < sS (tA v) by omega) c_804]
                refine g_aload_n X 5 dL_law_813 rfl ?_
                refine g_iconst (v := (nI 0)) X dL_law_814 rfl ?_
                refine g_iload X 17 dL_law_815 rfl ?_
                refine g_iconst (v := (nI 2)) X dL_law_817 rfl ?_
                refine k_street X hv cs_L_54 rfl (Nat.le_of_ble_eq_true rfl) dL_law_818 ?_ hcs
                rw [s2_]
                refine g_icmp_ne (tgt := 828) X dL_law_821 (by decide) (fun c_821 => absurd rfl c_821) (fun c_821 => ?_)
                refine g_iconst (v := (nI 1)) X dL_law_824 rfl ?_
                refine g_goto (tgt := 829) X dL_law_825 (by decide) ?_
                refine g_istore (lv' := [(11, .int (nI 1)), (15, .int (nI ((toC v k) + 0))), (19, .int (-4)), (18, .int (-4)), (17, .int (-4)), (0, .ref b), (1, .ref (O 0 0)), (2, .ref ad), (3, .ref ae), (4, .int (nI rd)), (5, .int (celV L xs (25 + rd))), (6, .int (nI (sM (tA v)))), (7, .int (nI (sM (tB v)))), (8, .int (nI (sS (tA v)))), (9, .int (nI oa.2)), (10, .int (nI R0)), (12, .int (nI (mtC (cM v) (sM (tA v))))), (16, .int (nI k))]) X dL_law_829 (show 11 < 23 by decide) rfl ?_
                refine GG.lv [5, 6, 7, 8, 9, 10, 11, 12, 13, 14, 15, 16, 1, 17, 4, 3, 2, 0] rfl ?_
                exact J_831 z
            · exact absurd fu (hasN_m1' hx)
          · rw [ew]
            refine g_istore (lv' := [(18, .int (nI jv)), (17, .int (-4)), (0, .ref b), (1, .ref (O 0 0)), (2, .ref ad), (3, .ref ae), (4, .int (nI rd)), (5, .int (celV L xs (25 + rd))), (6, .int (nI (sM (tA v)))), (7, .int (nI (sM (tB v)))), (8, .int (nI (sS (tA v)))), (9, .int (nI oa.2)), (10, .int (nI R0)), (11, .int (nI 1)), (12, .int (nI (mtC (cM v) (sM (tA v))))), (15, .int (nI (toC v k))), (16, .int (nI k))]) X dL_law_665 (show 18 < 23 by decide) rfl ?_
            refine g_aload_n X 3 dL_law_667 rfl ?_
            refine g_iload X 16 dL_law_668 rfl ?_
            refine g_iconst (v := (-1)) X dL_law_670 rfl ?_
            refine k_told X hd.rv cs_L_112 rfl (Nat.le_of_ble_eq_true rfl) dL_law_671 (fun z => ?_) hcs
            have wf := wy_full (tB v) (cM v pa) (cM v pb) w00
            rw [← hW] at wf
            rcases wf with hw | ⟨hw1, hw3, hx, hy, y0, y1⟩
            · rw [tol_m1 hd.rv (show k < sS (tA v) by omega), if_neg (show ¬ 0 < (cW v k).2 by omega)]
              refine g_istore (lv' := [(19, .int (-4)), (18, .int (nI jv)), (17, .int (-4)), (0, .ref b), (1, .ref (O 0 0)), (2, .ref ad), (3, .ref ae), (4, .int (nI rd)), (5, .int (celV L xs (25 + rd))), (6, .int (nI (sM (tA v)))), (7, .int (nI (sM (tB v)))), (8, .int (nI (sS (tA v)))), (9, .int (nI oa.2)), (10, .int (nI R0)), (11, .int (nI 1)), (12, .int (nI (mtC (cM v) (sM (tA v))))), (15, .int (nI (toC v k))), (16, .int (nI k))]) X dL_law_674 (show 19 < 23 by decide) rfl ?_
              refine g_iload X 16 dL_law_676 rfl ?_
              refine g_iload X 0 dL_law_678 rfl ?_
              refine g_if_le (tgt := 687) X dL_law_680 (by decide) (fun c_680 => ?_) (fun c_680 => absurd (by decide) c_680)
              refine g_iconst (v := (nI 0)) X dL_law_687 rfl ?_
              refine g_iaddN X dL_law_688 ?_
              refine g_istore (lv' := [(15, .int (nI ((toC v k) + 0))), (19, .int (-4)), (18, .int (nI jv)), (17, .int (-4)), (0, .ref b), (1, .ref (O 0 0)), (2, .ref ad), (3, .ref ae), (4, .int (nI rd)), (5, .int (celV L xs (25 + rd))), (6, .int (nI (sM (tA v)))), (7, .int (nI (sM (tB v)))), (8, .int (nI (sS (tA v)))), (9, .int (nI oa.2)), (10, .int (nI R0)), (11, .int (nI 1)), (12, .int (nI (mtC (cM v) (sM (tA v))))), (16, .int (nI k))]) X dL_law_689 (show 15 < 23 by decide) rfl ?_
              refine g_iload X 15 dL_law_691 rfl ?_
              refine g_if_eq (tgt := 828) X dL_law_693 (by decide) (fun c_693 => absurd c_693 (by decide)) (fun c_693 => ?_)
              refine g_iload X 1 dL_law_696 rfl ?_
              refine g_bipush (v := (-4)) X dL_law_698 rfl ?_
              refine g_icmp_ne (tgt := 735) X dL_law_700 (by decide) (fun c_700 => absurd (by decide) c_700) (fun c_700 => ?_)
              refine g_aload_n X 5 dL_law_703 rfl ?_
              refine g_iload X 17 dL_law_704 rfl ?_
              refine k_named X hd.rv cs_L_114 rfl (Nat.le_of_ble_eq_true rfl) dL_law_706 (fun z => ?_) hcs
              rw [nam_0 hd.rv (show k < sS (tA v) by omega) hw]
              refine g_aload_n X 5 dL_law_709 rfl ?_
              refine g_iconst (v := (nI 0)) X dL_law_710 rfl ?_
              refine g_iload X 17 dL_law_711 rfl ?_
              refine g_iconst (v := (nI 2)) X dL_law_713 rfl ?_
              refine k_street X hv cs_L_54 rfl (Nat.le_of_ble_eq_true rfl) dL_law_714 ?_ hcs
              rw [s2_]
              refine g_icmp_ne (tgt := 828) X dL_law_717 (by decide) (fun c_717 => absurd rfl c_717) (fun c_717 => ?_)
              refine g_aload_n X 5 dL_law_720 rfl ?_
              refine g_iload X 17 dL_law_721 rfl ?_
              refine g_iconst (v := (nI 0)) X dL_law_723 rfl ?_
              refine k_told X hd.rv cs_L_112 rfl (Nat.le_of_ble_eq_true rfl) dL_law_724 (fun z => ?_) hcs
              rw [tol_at hd.rv (show k < sS (tA v) by omega) (by omega), if_neg (show ¬ (0 < (cW v k).2 ∧ 0 ≤ (cW v k).2) by omega)]
              refine g_bipush (v := (-4)) X dL_law_727 rfl ?_
              refine g_icmp_ne (tgt := 828) X dL_law_729 (by decide) (fun c_729 => absurd (by decide) c_729) (fun c_729 => ?_)
              refine g_goto (tgt := 796) X dL_law_732 (by decide) ?_
              have J_831 : ∀ (z : ScrT) , GG E (m_L nm0) (GL p ev s0 m b below meth c) cells slots (wL E O Q ad ae v w f oa ok ta tk d e z) [(0, .ref b), (1, .ref (O 0 0)), (2, .ref ad), (3, .ref ae), (4, .int (nI rd)), (5, .int (celV L xs (25 + rd))), (6, .int (nI (sM (tA v)))), (7, .int (nI (sM (tB v)))), (8, .int (nI (sS (tA v)))), (9, .int (nI oa.2)), (10, .int (nI R0)), (12, .int (nI (mtC (cM v) (sM (tA v))))), (15, .int (nI ((toC v k) + 0))), (16, .int (nI k)), (17, .int (-4)), (18, .int (nI jv)), (19, .int (-4)), (11, .int (nI 1))] 831 [] := by
                intro z
                refine g_iconst (v := (nI 0)) X dL_law_831 rfl ?_
                refine g_istore (lv' := [(20, .int (nI 0)), (0, .ref b), (1, .ref (O 0 0)), (2, .ref ad), (3, .ref ae), (4, .int (nI rd)), (5, .int (celV L xs (25 + rd))), (6, .int (nI (sM (tA v)))), (7, .int (nI (sM (tB v)))), (8, .int (nI (sS (tA v)))), (9, .int (nI oa.2)), (10, .int (nI R0)), (12, .int (nI (mtC (cM v) (sM (tA v))))), (15, .int (nI ((toC v k) + 0))), (16, .int (nI k)), (17, .int (-4)), (18, .int (nI jv)), (19, .int (-4)), (11, .int (nI 1))]) X dL_law_832 (show 20 < 23 by decide) rfl ?_
                refine g_iconst (v := (nI 0)) X dL_law_834 rfl ?_
                refine g_istore (lv' := [(21, .int (nI 0)), (20, .int (nI 0)), (0, .ref b), (1, .ref (O 0 0)), (2, .ref ad), (3, .ref ae), (4, .int (nI rd)), (5, .int (celV L xs (25 + rd))), (6, .int (nI (sM (tA v)))), (7, .int (nI (sM (tB v)))), (8, .int (nI (sS (tA v)))), (9, .int (nI oa.2)), (10, .int (nI R0)), (12, .int (nI (mtC (cM v) (sM (tA v))))), (15, .int (nI ((toC v k) + 0))), (16, .int (nI k)), (17, .int (-4)), (18, .int (nI jv)), (19, .int (-4)), (11, .int (nI 1))]) X dL_law_835 (show 21 < 23 by decide) rfl ?_
                refine g_iload X 0 dL_law_837 rfl ?_
                refine g_iload X 18 dL_law_839 rfl ?_
                refine g_icmp_ge (tgt := 911) X dL_law_841 (by decide) (fun c_841 => ?_) (fun c_841 => absurd (by decide) c_841)
                refine g_iload X 19 dL_law_911 rfl ?_
                refine g_if_eq (tgt := 976) X dL_law_913 (by decide) (fun c_913 => absurd c_913 (by decide)) (fun c_913 => ?_)
                refine g_iload X 18 dL_law_916 rfl ?_
                refine g_iconst (v := (nI 1)) X dL_law_918 rfl ?_
                refine g_icmp_ne (tgt := 944) X dL_law_919 (by decide) (fun c_919 => ?_) (fun c_919 => absurd c_919 (by decide))
                refine g_iload X 18 dL_law_944 rfl ?_
                refine g_iconst (v := (nI 1)) X dL_law_946 rfl ?_
                refine g_icmp_eq (tgt := 972) X dL_law_947 (by decide) (fun c_947 => absurd c_947 (by decide)) (fun c_947 => ?_)
                refine g_iload X 16 dL_law_950 rfl ?_
                refine g_if_lt (tgt := 972) X dL_law_952 (by decide) (fun c_952 => ?_) (fun c_952 => absurd (by decide) c_952)
                refine g_iconst (v := (nI 1)) X dL_law_972 rfl ?_
                refine g_goto (tgt := 977) X dL_law_973 (by decide) ?_
                refine g_istore (lv' := [(11, .int (nI 1)), (21, .int (nI 0)), (20, .int (nI 0)), (0, .ref b), (1, .ref (O 0 0)), (2, .ref ad), (3, .ref ae), (4, .int (nI rd)), (5, .int (celV L xs (25 + rd))), (6, .int (nI (sM (tA v)))), (7, .int (nI (sM (tB v)))), (8, .int (nI (sS (tA v)))), (9, .int (nI oa.2)), (10, .int (nI R0)), (12, .int (nI (mtC (cM v) (sM (tA v))))), (15, .int (nI ((toC v k) + 0))), (16, .int (nI k)), (17, .int (-4)), (18, .int (nI jv)), (19, .int (-4))]) X dL_law_977 (show 11 < 23 by decide) rfl ?_
                refine g_iincN (lv' := [(16, .int (nI (k + 1))), (11, .int (nI 1)), (21, .int (nI 0)), (20, .int (nI 0)), (0, .ref b), (1, .ref (O 0 0)), (2, .ref ad), (3, .ref ae), (4, .int (nI rd)), (5, .int (celV L xs (25 + rd))), (6, .int (nI (sM (tA v)))), (7, .int (nI (sM (tB v)))), (8, .int (nI (sS (tA v)))), (9, .int (nI oa.2)), (10, .int (nI R0)), (12, .int (nI (mtC (cM v) (sM (tA v))))), (15, .int (nI ((toC v k) + 0))), (17, .int (-4)), (18, .int (nI jv)), (19, .int (-4))]) X 16 dL_law_979 rfl (show 16 < 23 by decide) rfl ?_
                refine g_goto (tgt := 630) X dL_law_982 (by decide) ?_
                refine GG.lv [4, 5, 6, 7, 8, 9, 10, 11, 12, 13, 14, 1, 15, 16, 0] rfl ?_
                exact ih_630 (k + 1) z (by omega) (by omega) (nI ((toC v k) + 0)) (by exact toC_f hw) (nI (k + 1)) (by rfl)
              refine g_aload_n X 5 dL_law_796 rfl ?_
              refine g_iconst (v := (nI 0)) X dL_law_797 rfl ?_
              refine g_iload X 17 dL_law_798 rfl ?_
              refine g_iconst (v := (nI 2)) X dL_law_800 rfl ?_
              refine k_street X hv cs_L_54 rfl (Nat.le_of_ble_eq_true rfl) dL_law_801 ?_ hcs
              rw [s2_]
              refine g_if_eq (tgt := 824) X dL_law_804 (by decide) (fun c_804 => ?_) (fun c_804 => ?_)
              · skip
                refine g_iconst (v := (nI 1)) X dL_law_824 rfl ?_
                refine g_goto (tgt := 829) X dL_law_825 (by decide) ?_
                refine g_istore (lv' := [(11, .int (nI 1)), (15, .int (nI ((toC v k) + 0))), (19, .int (-4)), (18, .int (nI jv)), (17, .int (-4)), (0, .ref b), (1, .ref (O 0 0)), (2, .ref ad), (3, .ref ae), (4, .int (nI rd)), (5, .int (celV L xs (25 + rd))), (6, .int (nI (sM (tA v)))), (7, .int (nI (sM (tB v)))), (8, .int (nI (sS (tA v)))), (9, .int (nI oa.2)), (10, .int (nI R0)), (12, .int (nI (mtC (cM v) (sM (tA v))))), (16, .int (nI k))]) X dL_law_829 (show 11 < 23 by decide) rfl ?_
                refine GG.lv [5, 6, 7, 8, 9, 10, 11, 12, 13, 14, 15, 16, 1, 17, 4, 3, 2, 0] rfl ?_
                exact J_831 z
              · skip
                refine g_aload_n X 5 dL_law_807 rfl ?_
                refine g_iload X 17 dL_law_808 rfl ?_
                refine k_named X hd.rv cs_L_114 rfl (Nat.le_of_ble_eq_true rfl) dL_law_810 (fun z => ?_) hcs
                rw [nam_n hd.rv (show k < sS (tA v) by omega) c_804]
                refine g_aload_n X 5 dL_law_813 rfl ?_
                refine g_iconst (v := (nI 0)) X dL_law_814 rfl ?_
                refine g_iload X 17 dL_law_815 rfl ?_
                refine g_iconst (v := (nI 2)) X dL_law_817 rfl ?_
                refine k_street X hv cs_L_54 rfl (Nat.le_of_ble_eq_true rfl) dL_law_818 ?_ hcs
                rw [s2_]
                refine g_icmp_ne (tgt := 828) X dL_law_821 (by decide) (fun c_821 => absurd rfl c_821) (fun c_821 => ?_)
                refine g_iconst (v := (nI 1)) X dL_law_824 rfl ?_
                refine g_goto (tgt := 829) X dL_law_825 (by decide) ?_
                refine g_istore (lv' := [(11, .int (nI 1)), (15, .int (nI ((toC v k) + 0))), (19, .int (-4)), (18, .int (nI jv)), (17, .int (-4)), (0, .ref b), (1, .ref (O 0 0)), (2, .ref ad), (3, .ref ae), (4, .int (nI rd)), (5, .int (celV L xs (25 + rd))), (6, .int (nI (sM (tA v)))), (7, .int (nI (sM (tB v)))), (8, .int (nI (sS (tA v)))), (9, .int (nI oa.2)), (10, .int (nI R0)), (12, .int (nI (mtC (cM v) (sM (tA v))))), (16, .int (nI k))]) X dL_law_829 (show 11 < 23 by decide) rfl ?_
                refine GG.lv [5, 6, 7, 8, 9, 10, 11, 12, 13, 14, 15, 16, 1, 17, 4, 3, 2, 0] rfl ?_
                exact J_831 z
            · exact absurd fu (hasN_m1' hx)
        · rw [eu]
          refine g_istore (lv' := [(17, .int (nI ju)), (0, .ref b), (1, .ref (O 0 0)), (2, .ref ad), (3, .ref ae), (4, .int (nI rd)), (5, .int (celV L xs (25 + rd))), (6, .int (nI (sM (tA v)))), (7, .int (nI (sM (tB v)))), (8, .int (nI (sS (tA v)))), (9, .int (nI oa.2)), (10, .int (nI R0)), (11, .int (nI 1)), (12, .int (nI (mtC (cM v) (sM (tA v))))), (15, .int (nI (toC v k))), (16, .int (nI k))]) X dL_law_650 (show 17 < 23 by decide) rfl ?_
          refine g_aload_n X 2 dL_law_652 rfl ?_
          refine g_iconst (v := (nI 0)) X dL_law_653 rfl ?_
          refine g_aload_n X 2 dL_law_654 rfl ?_
          refine g_iconst (v := (nI 0)) X dL_law_655 rfl ?_
          refine g_iload X 15 dL_law_656 rfl ?_
          refine g_iconst (v := (nI 1)) X dL_law_658 rfl ?_
          refine k_street X hv cs_L_54 rfl (Nat.le_of_ble_eq_true rfl) dL_law_659 ?_ hcs
          rw [s1_]
          refine k_match X hd.rv cs_L_99 rfl (Nat.le_of_ble_eq_true rfl) dL_law_662 (fun z => ?_) hcs
          rcases mt_or hd.rv hpb with ⟨ew, fv⟩ | ⟨jv, hjv, ew, fv, -, -, -⟩
          · rw [ew]
            refine g_istore (lv' := [(18, .int (-4)), (17, .int (nI ju)), (0, .ref b), (1, .ref (O 0 0)), (2, .ref ad), (3, .ref ae), (4, .int (nI rd)), (5, .int (celV L xs (25 + rd))), (6, .int (nI (sM (tA v)))), (7, .int (nI (sM (tB v)))), (8, .int (nI (sS (tA v)))), (9, .int (nI oa.2)), (10, .int (nI R0)), (11, .int (nI 1)), (12, .int (nI (mtC (cM v) (sM (tA v))))), (15, .int (nI (toC v k))), (16, .int (nI k))]) X dL_law_665 (show 18 < 23 by decide) rfl ?_
            refine g_aload_n X 3 dL_law_667 rfl ?_
            refine g_iload X 16 dL_law_668 rfl ?_
            refine g_iconst (v := (-1)) X dL_law_670 rfl ?_
            refine k_told X hd.rv cs_L_112 rfl (Nat.le_of_ble_eq_true rfl) dL_law_671 (fun z => ?_) hcs
            have wf := wy_full (tB v) (cM v pa) (cM v pb) w00
            rw [← hW] at wf
            rcases wf with hw | ⟨hw1, hw3, hx, hy, y0, y1⟩
            · rw [tol_m1 hd.rv (show k < sS (tA v) by omega), if_neg (show ¬ 0 < (cW v k).2 by omega)]
              refine g_istore (lv' := [(19, .int (-4)), (18, .int (-4)), (17, .int (nI ju)), (0, .ref b), (1, .ref (O 0 0)), (2, .ref ad), (3, .ref ae), (4, .int (nI rd)), (5, .int (celV L xs (25 + rd))), (6, .int (nI (sM (tA v)))), (7, .int (nI (sM (tB v)))), (8, .int (nI (sS (tA v)))), (9, .int (nI oa.2)), (10, .int (nI R0)), (11, .int (nI 1)), (12, .int (nI (mtC (cM v) (sM (tA v))))), (15, .int (nI (toC v k))), (16, .int (nI k))]) X dL_law_674 (show 19 < 23 by decide) rfl ?_
              refine g_iload X 16 dL_law_676 rfl ?_
              refine g_iload X 0 dL_law_678 rfl ?_
              refine g_if_le (tgt := 687) X dL_law_680 (by decide) (fun c_680 => ?_) (fun c_680 => absurd (by decide) c_680)
              refine g_iconst (v := (nI 0)) X dL_law_687 rfl ?_
              refine g_iaddN X dL_law_688 ?_
              refine g_istore (lv' := [(15, .int (nI ((toC v k) + 0))), (19, .int (-4)), (18, .int (-4)), (17, .int (nI ju)), (0, .ref b), (1, .ref (O 0 0)), (2, .ref ad), (3, .ref ae), (4, .int (nI rd)), (5, .int (celV L xs (25 + rd))), (6, .int (nI (sM (tA v)))), (7, .int (nI (sM (tB v)))), (8, .int (nI (sS (tA v)))), (9, .int (nI oa.2)), (10, .int (nI R0)), (11, .int (nI 1)), (12, .int (nI (mtC (cM v) (sM (tA v))))), (16, .int (nI k))]) X dL_law_689 (show 15 < 23 by decide) rfl ?_
              refine g_iload X 15 dL_law_691 rfl ?_
              refine g_if_eq (tgt := 828) X dL_law_693 (by decide) (fun c_693 => absurd c_693 (by decide)) (fun c_693 => ?_)
              refine g_iload X 1 dL_law_696 rfl ?_
              refine g_bipush (v := (-4)) X dL_law_698 rfl ?_
              refine g_icmp_ne (tgt := 735) X dL_law_700 (by decide) (fun c_700 => absurd (by decide) c_700) (fun c_700 => ?_)
              refine g_aload_n X 5 dL_law_703 rfl ?_
              refine g_iload X 17 dL_law_704 rfl ?_
              refine k_named X hd.rv cs_L_114 rfl (Nat.le_of_ble_eq_true rfl) dL_law_706 (fun z => ?_) hcs
              rw [nam_0 hd.rv (show k < sS (tA v) by omega) hw]
              refine g_aload_n X 5 dL_law_709 rfl ?_
              refine g_iconst (v := (nI 0)) X dL_law_710 rfl ?_
              refine g_iload X 17 dL_law_711 rfl ?_
              refine g_iconst (v := (nI 2)) X dL_law_713 rfl ?_
              refine k_street X hv cs_L_54 rfl (Nat.le_of_ble_eq_true rfl) dL_law_714 ?_ hcs
              rw [s2_]
              refine g_icmp_ne (tgt := 828) X dL_law_717 (by decide) (fun c_717 => absurd rfl c_717) (fun c_717 => ?_)
              refine g_aload_n X 5 dL_law_720 rfl ?_
              refine g_iload X 17 dL_law_721 rfl ?_
              refine g_iconst (v := (nI 0)) X dL_law_723 rfl ?_
              refine k_told X hd.rv cs_L_112 rfl (Nat.le_of_ble_eq_true rfl) dL_law_724 (fun z => ?_) hcs
              rw [tol_at hd.rv (show k < sS (tA v) by omega) (by omega), if_neg (show ¬ (0 < (cW v k).2 ∧ 0 ≤ (cW v k).2) by omega)]
              refine g_bipush (v := (-4)) X dL_law_727 rfl ?_
              refine g_icmp_ne (tgt := 828) X dL_law_729 (by decide) (fun c_729 => absurd (by decide) c_729) (fun c_729 => ?_)
              refine g_goto (tgt := 796) X dL_law_732 (by decide) ?_
              have J_831 : ∀ (z : ScrT) , GG E (m_L nm0) (GL p ev s0 m b below meth c) cells slots (wL E O Q ad ae v w f oa ok ta tk d e z) [(0, .ref b), (1, .ref (O 0 0)), (2, .ref ad), (3, .ref ae), (4, .int (nI rd)), (5, .int (celV L xs (25 + rd))), (6, .int (nI (sM (tA v)))), (7, .int (nI (sM (tB v)))), (8, .int (nI (sS (tA v)))), (9, .int (nI oa.2)), (10, .int (nI R0)), (12, .int (nI (mtC (cM v) (sM (tA v))))), (15, .int (nI ((toC v k) + 0))), (16, .int (nI k)), (17, .int (nI ju)), (18, .int (-4)), (19, .int (-4)), (11, .int (nI 1))] 831 [] := by
                intro z
                refine g_iconst (v := (nI 0)) X dL_law_831 rfl ?_
                refine g_istore (lv' := [(20, .int (nI 0)), (0, .ref b), (1, .ref (O 0 0)), (2, .ref ad), (3, .ref ae), (4, .int (nI rd)), (5, .int (celV L xs (25 + rd))), (6, .int (nI (sM (tA v)))), (7, .int (nI (sM (tB v)))), (8, .int (nI (sS (tA v)))), (9, .int (nI oa.2)), (10, .int (nI R0)), (12, .int (nI (mtC (cM v) (sM (tA v))))), (15, .int (nI ((toC v k) + 0))), (16, .int (nI k)), (17, .int (nI ju)), (18, .int (-4)), (19, .int (-4)), (11, .int (nI 1))]) X dL_law_832 (show 20 < 23 by decide) rfl ?_
                refine g_iconst (v := (nI 0)) X dL_law_834 rfl ?_
                refine g_istore (lv' := [(21, .int (nI 0)), (20, .int (nI 0)), (0, .ref b), (1, .ref (O 0 0)), (2, .ref ad), (3, .ref ae), (4, .int (nI rd)), (5, .int (celV L xs (25 + rd))), (6, .int (nI (sM (tA v)))), (7, .int (nI (sM (tB v)))), (8, .int (nI (sS (tA v)))), (9, .int (nI oa.2)), (10, .int (nI R0)), (12, .int (nI (mtC (cM v) (sM (tA v))))), (15, .int (nI ((toC v k) + 0))), (16, .int (nI k)), (17, .int (nI ju)), (18, .int (-4)), (19, .int (-4)), (11, .int (nI 1))]) X dL_law_835 (show 21 < 23 by decide) rfl ?_
                refine g_iload X 0 dL_law_837 rfl ?_
                refine g_iload X 18 dL_law_839 rfl ?_
                refine g_icmp_ge (tgt := 911) X dL_law_841 (by decide) (fun c_841 => ?_) (fun c_841 => absurd (by decide) c_841)
                refine g_iload X 19 dL_law_911 rfl ?_
                refine g_if_eq (tgt := 976) X dL_law_913 (by decide) (fun c_913 => absurd c_913 (by decide)) (fun c_913 => ?_)
                refine g_iload X 18 dL_law_916 rfl ?_
                refine g_iconst (v := (nI 1)) X dL_law_918 rfl ?_
                refine g_icmp_ne (tgt := 944) X dL_law_919 (by decide) (fun c_919 => ?_) (fun c_919 => absurd c_919 (by decide))
                refine g_iload X 18 dL_law_944 rfl ?_
                refine g_iconst (v := (nI 1)) X dL_law_946 rfl ?_
                refine g_icmp_eq (tgt := 972) X dL_law_947 (by decide) (fun c_947 => absurd c_947 (by decide)) (fun c_947 => ?_)
                refine g_iload X 16 dL_law_950 rfl ?_
                refine g_if_lt (tgt := 972) X dL_law_952 (by decide) (fun c_952 => absurd c_952 (nI_pos (by omega))) (fun c_952 => ?_)
                refine g_iload X 17 dL_law_955 rfl ?_
                refine g_if_lt (tgt := 972) X dL_law_957 (by decide) (fun c_957 => ?_) (fun c_957 => absurd (by decide) c_957)
                refine g_iconst (v := (nI 1)) X dL_law_972 rfl ?_
                refine g_goto (tgt := 977) X dL_law_973 (by decide) ?_
                refine g_istore (lv' := [(11, .int (nI 1)), (21, .int (nI 0)), (20, .int (nI 0)), (0, .ref b), (1, .ref (O 0 0)), (2, .ref ad), (3, .ref ae), (4, .int (nI rd)), (5, .int (celV L xs (25 + rd))), (6, .int (nI (sM (tA v)))), (7, .int (nI (sM (tB v)))), (8, .int (nI (sS (tA v)))), (9, .int (nI oa.2)), (10, .int (nI R0)), (12, .int (nI (mtC (cM v) (sM (tA v))))), (15, .int (nI ((toC v k) + 0))), (16, .int (nI k)), (17, .int (nI ju)), (18, .int (-4)), (19, .int (-4))]) X dL_law_977 (show 11 < 23 by decide) rfl ?_
                refine g_iincN (lv' := [(16, .int (nI (k + 1))), (11, .int (nI 1)), (21, .int (nI 0)), (20, .int (nI 0)), (0, .ref b), (1, .ref (O 0 0)), (2, .ref ad), (3, .ref ae), (4, .int (nI rd)), (5, .int (celV L xs (25 + rd))), (6, .int (nI (sM (tA v)))), (7, .int (nI (sM (tB v)))), (8, .int (nI (sS (tA v)))), (9, .int (nI oa.2)), (10, .int (nI R0)), (12, .int (nI (mtC (cM v) (sM (tA v))))), (15, .int (nI ((toC v k) + 0))), (17, .int (nI ju)), (18, .int (-4)), (19, .int (-4))]) X 16 dL_law_979 rfl (show 16 < 23 by decide) rfl ?_
                refine g_goto (tgt := 630) X dL_law_982 (by decide) ?_
                refine GG.lv [4, 5, 6, 7, 8, 9, 10, 11, 12, 13, 14, 1, 15, 16, 0] rfl ?_
                exact ih_630 (k + 1) z (by omega) (by omega) (nI ((toC v k) + 0)) (by exact toC_f hw) (nI (k + 1)) (by rfl)
              refine g_aload_n X 5 dL_law_796 rfl ?_
              refine g_iconst (v := (nI 0)) X dL_law_797 rfl ?_
              refine g_iload X 17 dL_law_798 rfl ?_
              refine g_iconst (v := (nI 2)) X dL_law_800 rfl ?_
              refine k_street X hv cs_L_54 rfl (Nat.le_of_ble_eq_true rfl) dL_law_801 ?_ hcs
              rw [s2_]
              refine g_if_eq (tgt := 824) X dL_law_804 (by decide) (fun c_804 => ?_) (fun c_804 => ?_)
              · skip
                refine g_iconst (v := (nI 1)) X dL_law_824 rfl ?_
                refine g_goto (tgt := 829) X dL_law_825 (by decide) ?_
                refine g_istore (lv' := [(11, .int (nI 1)), (15, .int (nI ((toC v k) + 0))), (19, .int (-4)), (18, .int (-4)), (17, .int (nI ju)), (0, .ref b), (1, .ref (O 0 0)), (2, .ref ad), (3, .ref ae), (4, .int (nI rd)), (5, .int (celV L xs (25 + rd))), (6, .int (nI (sM (tA v)))), (7, .int (nI (sM (tB v)))), (8, .int (nI (sS (tA v)))), (9, .int (nI oa.2)), (10, .int (nI R0)), (12, .int (nI (mtC (cM v) (sM (tA v))))), (16, .int (nI k))]) X dL_law_829 (show 11 < 23 by decide) rfl ?_
                refine GG.lv [5, 6, 7, 8, 9, 10, 11, 12, 13, 14, 15, 16, 1, 17, 4, 3, 2, 0] rfl ?_
                exact J_831 z
              · skip
                refine g_aload_n X 5 dL_law_807 rfl ?_
                refine g_iload X 17 dL_law_808 rfl ?_
                refine k_named X hd.rv cs_L_114 rfl (Nat.le_of_ble_eq_true rfl) dL_law_810 (fun z => ?_) hcs
                rw [nam_n hd.rv (show k < sS (tA v) by omega) c_804]
                refine g_aload_n X 5 dL_law_813 rfl ?_
                refine g_iconst (v := (nI 0)) X dL_law_814 rfl ?_
                refine g_iload X 17 dL_law_815 rfl ?_
                refine g_iconst (v := (nI 2)) X dL_law_817 rfl ?_
                refine k_street X hv cs_L_54 rfl (Nat.le_of_ble_eq_true rfl) dL_law_818 ?_ hcs
                rw [s2_]
                refine g_icmp_ne (tgt := 828) X dL_law_821 (by decide) (fun c_821 => absurd rfl c_821) (fun c_821 => ?_)
                refine g_iconst (v := (nI 1)) X dL_law_824 rfl ?_
                refine g_goto (tgt := 829) X dL_law_825 (by decide) ?_
                refine g_istore (lv' := [(11, .int (nI 1)), (15, .int (nI ((toC v k) + 0))), (19, .int (-4)), (18, .int (-4)), (17, .int (nI ju)), (0, .ref b), (1, .ref (O 0 0)), (2, .ref ad), (3, .ref ae), (4, .int (nI rd)), (5, .int (celV L xs (25 + rd))), (6, .int (nI (sM (tA v)))), (7, .int (nI (sM (tB v)))), (8, .int (nI (sS (tA v)))), (9, .int (nI oa.2)), (10, .int (nI R0)), (12, .int (nI (mtC (cM v) (sM (tA v))))), (16, .int (nI k))]) X dL_law_829 (show 11 < 23 by decide) rfl ?_
                refine GG.lv [5, 6, 7, 8, 9, 10, 11, 12, 13, 14, 15, 16, 1, 17, 4, 3, 2, 0] rfl ?_
                exact J_831 z
            · exact absurd fv (hasN_m1' hy)
          · rw [ew]
            refine g_istore (lv' := [(18, .int (nI jv)), (17, .int (nI ju)), (0, .ref b), (1, .ref (O 0 0)), (2, .ref ad), (3, .ref ae), (4, .int (nI rd)), (5, .int (celV L xs (25 + rd))), (6, .int (nI (sM (tA v)))), (7, .int (nI (sM (tB v)))), (8, .int (nI (sS (tA v)))), (9, .int (nI oa.2)), (10, .int (nI R0)), (11, .int (nI 1)), (12, .int (nI (mtC (cM v) (sM (tA v))))), (15, .int (nI (toC v k))), (16, .int (nI k))]) X dL_law_665 (show 18 < 23 by decide) rfl ?_
            refine g_aload_n X 3 dL_law_667 rfl ?_
            refine g_iload X 16 dL_law_668 rfl ?_
            refine g_iconst (v := (-1)) X dL_law_670 rfl ?_
            refine k_told X hd.rv cs_L_112 rfl (Nat.le_of_ble_eq_true rfl) dL_law_671 (fun z => ?_) hcs
            have wf := wy_full (tB v) (cM v pa) (cM v pb) w00
            rw [← hW] at wf
            rcases wf with hw | ⟨hw1, hw3, hx, hy, y0, y1⟩
            · rw [tol_m1 hd.rv (show k < sS (tA v) by omega), if_neg (show ¬ 0 < (cW v k).2 by omega)]
              refine g_istore (lv' := [(19, .int (-4)), (18, .int (nI jv)), (17, .int (nI ju)), (0, .ref b), (1, .ref (O 0 0)), (2, .ref ad), (3, .ref ae), (4, .int (nI rd)), (5, .int (celV L xs (25 + rd))), (6, .int (nI (sM (tA v)))), (7, .int (nI (sM (tB v)))), (8, .int (nI (sS (tA v)))), (9, .int (nI oa.2)), (10, .int (nI R0)), (11, .int (nI 1)), (12, .int (nI (mtC (cM v) (sM (tA v))))), (15, .int (nI (toC v k))), (16, .int (nI k))]) X dL_law_674 (show 19 < 23 by decide) rfl ?_
              refine g_iload X 16 dL_law_676 rfl ?_
              refine g_iload X 0 dL_law_678 rfl ?_
              refine g_if_le (tgt := 687) X dL_law_680 (by decide) (fun c_680 => ?_) (fun c_680 => absurd (by decide) c_680)
              refine g_iconst (v := (nI 0)) X dL_law_687 rfl ?_
              refine g_iaddN X dL_law_688 ?_
              refine g_istore (lv' := [(15, .int (nI ((toC v k) + 0))), (19, .int (-4)), (18, .int (nI jv)), (17, .int (nI ju)), (0, .ref b), (1, .ref (O 0 0)), (2, .ref ad), (3, .ref ae), (4, .int (nI rd)), (5, .int (celV L xs (25 + rd))), (6, .int (nI (sM (tA v)))), (7, .int (nI (sM (tB v)))), (8, .int (nI (sS (tA v)))), (9, .int (nI oa.2)), (10, .int (nI R0)), (11, .int (nI 1)), (12, .int (nI (mtC (cM v) (sM (tA v))))), (16, .int (nI k))]) X dL_law_689 (show 15 < 23 by decide) rfl ?_
              refine g_iload X 15 dL_law_691 rfl ?_
              refine g_if_eq (tgt := 828) X dL_law_693 (by decide) (fun c_693 => absurd c_693 (by decide)) (fun c_693 => ?_)
              refine g_iload X 1 dL_law_696 rfl ?_
              refine g_bipush (v := (-4)) X dL_law_698 rfl ?_
              refine g_icmp_ne (tgt := 735) X dL_law_700 (by decide) (fun c_700 => absurd (by decide) c_700) (fun c_700 => ?_)
              refine g_aload_n X 5 dL_law_703 rfl ?_
              refine g_iload X 17 dL_law_704 rfl ?_
              refine k_named X hd.rv cs_L_114 rfl (Nat.le_of_ble_eq_true rfl) dL_law_706 (fun z => ?_) hcs
              rw [nam_0 hd.rv (show k < sS (tA v) by omega) hw]
              refine g_aload_n X 5 dL_law_709 rfl ?_
              refine g_iconst (v := (nI 0)) X dL_law_710 rfl ?_
              refine g_iload X 17 dL_law_711 rfl ?_
              refine g_iconst (v := (nI 2)) X dL_law_713 rfl ?_
              refine k_street X hv cs_L_54 rfl (Nat.le_of_ble_eq_true rfl) dL_law_714 ?_ hcs
              rw [s2_]
              refine g_icmp_ne (tgt := 828) X dL_law_717 (by decide) (fun c_717 => absurd rfl c_717) (fun c_717 => ?_)
              refine g_aload_n X 5 dL_law_720 rfl ?_
              refine g_iload X 17 dL_law_721 rfl ?_
              refine g_iconst (v := (nI 0)) X dL_law_723 rfl ?_
              refine k_told X hd.rv cs_L_112 rfl (Nat.le_of_ble_eq_true rfl) dL_law_724 (fun z => ?_) hcs
              rw [tol_at hd.rv (show k < sS (tA v) by omega) (by omega), if_neg (show ¬ (0 < (cW v k).2 ∧ 0 ≤ (cW v k).2) by omega)]
              refine g_bipush (v := (-4)) X dL_law_727 rfl ?_
              refine g_icmp_ne (tgt := 828) X dL_law_729 (by decide) (fun c_729 => absurd (by decide) c_729) (fun c_729 => ?_)
              refine g_goto (tgt := 796) X dL_law_732 (by decide) ?_
              have J_831 : ∀ (z : ScrT) , GG E (m_L nm0) (GL p ev s0 m b below meth c) cells slots (wL E O Q ad ae v w f oa ok ta tk d e z) [(0, .ref b), (1, .ref (O 0 0)), (2, .ref ad), (3, .ref ae), (4, .int (nI rd)), (5, .int (celV L xs (25 + rd))), (6, .int (nI (sM (tA v)))), (7, .int (nI (sM (tB v)))), (8, .int (nI (sS (tA v)))), (9, .int (nI oa.2)), (10, .int (nI R0)), (12, .int (nI (mtC (cM v) (sM (tA v))))), (15, .int (nI ((toC v k) + 0))), (16, .int (nI k)), (17, .int (nI ju)), (18, .int (nI jv)), (19, .int (-4)), (11, .int (nI 1))] 831 [] := by
                intro z
                refine g_iconst (v := (nI 0)) X dL_law_831 rfl ?_
                refine g_istore (lv' := [(20, .int (nI 0)), (0, .ref b), (1, .ref (O 0 0)), (2, .ref ad), (3, .ref ae), (4, .int (nI rd)), (5, .int (celV L xs (25 + rd))), (6, .int (nI (sM (tA v)))), (7, .int (nI (sM (tB v)))), (8, .int (nI (sS (tA v)))), (9, .int (nI oa.2)), (10, .int (nI R0)), (12, .int (nI (mtC (cM v) (sM (tA v))))), (15, .int (nI ((toC v k) + 0))), (16, .int (nI k)), (17, .int (nI ju)), (18, .int (nI jv)), (19, .int (-4)), (11, .int (nI 1))]) X dL_law_832 (show 20 < 23 by decide) rfl ?_
                refine g_iconst (v := (nI 0)) X dL_law_834 rfl ?_
                refine g_istore (lv' := [(21, .int (nI 0)), (20, .int (nI 0)), (0, .ref b), (1, .ref (O 0 0)), (2, .ref ad), (3, .ref ae), (4, .int (nI rd)), (5, .int (celV L xs (25 + rd))), (6, .int (nI (sM (tA v)))), (7, .int (nI (sM (tB v)))), (8, .int (nI (sS (tA v)))), (9, .int (nI oa.2)), (10, .int (nI R0)), (12, .int (nI (mtC (cM v) (sM (tA v))))), (15, .int (nI ((toC v k) + 0))), (16, .int (nI k)), (17, .int (nI ju)), (18, .int (nI jv)), (19, .int (-4)), (11, .int (nI 1))]) X dL_law_835 (show 21 < 23 by decide) rfl ?_
                refine g_iload X 0 dL_law_837 rfl ?_
                refine g_iload X 18 dL_law_839 rfl ?_
                refine g_icmp_ge (tgt := 911) X dL_law_841 (by decide) (fun c_841 => ?_) (fun c_841 => absurd (by decide) c_841)
                refine g_iload X 19 dL_law_911 rfl ?_
                refine g_if_eq (tgt := 976) X dL_law_913 (by decide) (fun c_913 => absurd c_913 (by decide)) (fun c_913 => ?_)
                refine g_iload X 18 dL_law_916 rfl ?_
                refine g_iconst (v := (nI 1)) X dL_law_918 rfl ?_
                refine g_icmp_ne (tgt := 944) X dL_law_919 (by decide) (fun c_919 => ?_) (fun c_919 => absurd c_919 (by decide))
                refine g_iload X 18 dL_law_944 rfl ?_
                refine g_iconst (v := (nI 1)) X dL_law_946 rfl ?_
                refine g_icmp_eq (tgt := 972) X dL_law_947 (by decide) (fun c_947 => absurd c_947 (by decide)) (fun c_947 => ?_)
                refine g_iload X 16 dL_law_950 rfl ?_
                refine g_if_lt (tgt := 972) X dL_law_952 (by decide) (fun c_952 => absurd c_952 (nI_pos (by omega))) (fun c_952 => ?_)
                refine g_iload X 17 dL_law_955 rfl ?_
                refine g_if_lt (tgt := 972) X dL_law_957 (by decide) (fun c_957 => absurd c_957 (nI_pos (by omega))) (fun c_957 => ?_)
                refine g_aload_n X 5 dL_law_960 rfl ?_
                refine g_iconst (v := (nI 1)) X dL_law_961 rfl ?_
                refine g_iload X 16 dL_law_962 rfl ?_
                refine g_iload X 17 dL_law_964 rfl ?_
                refine k_stL X (g := 1) (n := ssV v 1) (by decide) (hd.ok.ss 1) (hd.2.1 1 (by decide)).2 cs_L_37 rfl (Nat.le_of_ble_eq_true rfl) dL_law_966 ?_ hcs
                have hno := way_no hd hW fu fv hju hjv (by omega)
                refine g_if_ge (tgt := 976) X dL_law_969 (by decide) (fun c_969 => absurd c_969 (by rw [i_le, i_0]; rw [i_lt, i_0] at hno; omega)) (fun c_969 => ?_)
                refine g_iconst (v := (nI 1)) X dL_law_972 rfl ?_
                refine g_goto (tgt := 977) X dL_law_973 (by decide) ?_
                refine g_istore (lv' := [(11, .int (nI 1)), (21, .int (nI 0)), (20, .int (nI 0)), (0, .ref b), (1, .ref (O 0 0)), (2, .ref ad), (3, .ref ae), (4, .int (nI rd)), (5, .int (celV L xs (25 + rd))), (6, .int (nI (sM (tA v)))), (7, .int (nI (sM (tB v)))), (8, .int (nI (sS (tA v)))), (9, .int (nI oa.2)), (10, .int (nI R0)), (12, .int (nI (mtC (cM v) (sM (tA v))))), (15, .int (nI ((toC v k) + 0))), (16, .int (nI k)), (17, .int (nI ju)), (18, .int (nI jv)), (19, .int (-4))]) X dL_law_977 (show 11 < 23 by decide) rfl ?_
                refine g_iincN (lv' := [(16, .int (nI (k + 1))), (11, .int (nI 1)), (21, .int (nI 0)), (20, .int (nI 0)), (0, .ref b), (1, .ref (O 0 0)), (2, .ref ad), (3, .ref ae), (4, .int (nI rd)), (5, .int (celV L xs (25 + rd))), (6, .int (nI (sM (tA v)))), (7, .int (nI (sM (tB v)))), (8, .int (nI (sS (tA v)))), (9, .int (nI oa.2)), (10, .int (nI R0)), (12, .int (nI (mtC (cM v) (sM (tA v))))), (15, .int (nI ((toC v k) + 0))), (17, .int (nI ju)), (18, .int (nI jv)), (19, .int (-4))]) X 16 dL_law_979 rfl (show 16 < 23 by decide) rfl ?_
                refine g_goto (tgt := 630) X dL_law_982 (by decide) ?_
                refine GG.lv [4, 5, 6, 7, 8, 9, 10, 11, 12, 13, 14, 1, 15, 16, 0] rfl ?_
                exact ih_630 (k + 1) z (by omega) (by omega) (nI ((toC v k) + 0)) (by exact toC_f hw) (nI (k + 1)) (by rfl)
              refine g_aload_n X 5 dL_law_796 rfl ?_
              refine g_iconst (v := (nI 0)) X dL_law_797 rfl ?_
              refine g_iload X 17 dL_law_798 rfl ?_
              refine g_iconst (v := (nI 2)) X dL_law_800 rfl ?_
              refine k_street X hv cs_L_54 rfl (Nat.le_of_ble_eq_true rfl) dL_law_801 ?_ hcs
              rw [s2_]
              refine g_if_eq (tgt := 824) X dL_law_804 (by decide) (fun c_804 => ?_) (fun c_804 => ?_)
              · skip
                refine g_iconst (v := (nI 1)) X dL_law_824 rfl ?_
                refine g_goto (tgt := 829) X dL_law_825 (by decide) ?_
                refine g_istore (lv' := [(11, .int (nI 1)), (15, .int (nI ((toC v k) + 0))), (19, .int (-4)), (18, .int (nI jv)), (17, .int (nI ju)), (0, .ref b), (1, .ref (O 0 0)), (2, .ref ad), (3, .ref ae), (4, .int (nI rd)), (5, .int (celV L xs (25 + rd))), (6, .int (nI (sM (tA v)))), (7, .int (nI (sM (tB v)))), (8, .int (nI (sS (tA v)))), (9, .int (nI oa.2)), (10, .int (nI R0)), (12, .int (nI (mtC (cM v) (sM (tA v))))), (16, .int (nI k))]) X dL_law_829 (show 11 < 23 by decide) rfl ?_
                refine GG.lv [5, 6, 7, 8, 9, 10, 11, 12, 13, 14, 15, 16, 1, 17, 4, 3, 2, 0] rfl ?_
                exact J_831 z
              · skip
                refine g_aload_n X 5 dL_law_807 rfl ?_
                refine g_iload X 17 dL_law_808 rfl ?_
                refine k_named X hd.rv cs_L_114 rfl (Nat.le_of_ble_eq_true rfl) dL_law_810 (fun z => ?_) hcs
                rw [nam_n hd.rv (show k < sS (tA v) by omega) c_804]
                refine g_aload_n X 5 dL_law_813 rfl ?_
                refine g_iconst (v := (nI 0)) X dL_law_814 rfl ?_
                refine g_iload X 17 dL_law_815 rfl ?_
                refine g_iconst (v := (nI 2)) X dL_law_817 rfl ?_
                refine k_street X hv cs_L_54 rfl (Nat.le_of_ble_eq_true rfl) dL_law_818 ?_ hcs
                rw [s2_]
                refine g_icmp_ne (tgt := 828) X dL_law_821 (by decide) (fun c_821 => absurd rfl c_821) (fun c_821 => ?_)
                refine g_iconst (v := (nI 1)) X dL_law_824 rfl ?_
                refine g_goto (tgt := 829) X dL_law_825 (by decide) ?_
                refine g_istore (lv' := [(11, .int (nI 1)), (15, .int (nI ((toC v k) + 0))), (19, .int (-4)), (18, .int (nI jv)), (17, .int (nI ju)), (0, .ref b), (1, .ref (O 0 0)), (2, .ref ad), (3, .ref ae), (4, .int (nI rd)), (5, .int (celV L xs (25 + rd))), (6, .int (nI (sM (tA v)))), (7, .int (nI (sM (tB v)))), (8, .int (nI (sS (tA v)))), (9, .int (nI oa.2)), (10, .int (nI R0)), (12, .int (nI (mtC (cM v) (sM (tA v))))), (16, .int (nI k))]) X dL_law_829 (show 11 < 23 by decide) rfl ?_
                refine GG.lv [5, 6, 7, 8, 9, 10, 11, 12, 13, 14, 15, 16, 1, 17, 4, 3, 2, 0] rfl ?_
                exact J_831 z
            · rw [tol_m1 hd.rv (show k < sS (tA v) by omega), if_pos (show 0 < (cW v k).2 by omega)]
              refine g_istore (lv' := [(19, .int (nI ((cW v k).2))), (18, .int (nI jv)), (17, .int (nI ju)), (0, .ref b), (1, .ref (O 0 0)), (2, .ref ad), (3, .ref ae), (4, .int (nI rd)), (5, .int (celV L xs (25 + rd))), (6, .int (nI (sM (tA v)))), (7, .int (nI (sM (tB v)))), (8, .int (nI (sS (tA v)))), (9, .int (nI oa.2)), (10, .int (nI R0)), (11, .int (nI 1)), (12, .int (nI (mtC (cM v) (sM (tA v))))), (15, .int (nI (toC v k))), (16, .int (nI k))]) X dL_law_674 (show 19 < 23 by decide) rfl ?_
              refine g_iload X 16 dL_law_676 rfl ?_
              refine g_iload X 0 dL_law_678 rfl ?_
              refine g_if_le (tgt := 687) X dL_law_680 (by decide) (fun c_680 => by exfalso; have f_ : (cW v k).2 ≤ 0 := n_le (by omega) (by omega) c_680; omega) (fun c_680 => ?_)
              refine g_iconst (v := (nI 1)) X dL_law_683 rfl ?_
              refine g_goto (tgt := 688) X dL_law_684 (by decide) ?_
              refine g_iaddN X dL_law_688 ?_
              refine g_istore (lv' := [(15, .int (nI ((toC v k) + 1))), (19, .int (nI ((cW v k).2))), (18, .int (nI jv)), (17, .int (nI ju)), (0, .ref b), (1, .ref (O 0 0)), (2, .ref ad), (3, .ref ae), (4, .int (nI rd)), (5, .int (celV L xs (25 + rd))), (6, .int (nI (sM (tA v)))), (7, .int (nI (sM (tB v)))), (8, .int (nI (sS (tA v)))), (9, .int (nI oa.2)), (10, .int (nI R0)), (11, .int (nI 1)), (12, .int (nI (mtC (cM v) (sM (tA v))))), (16, .int (nI k))]) X dL_law_689 (show 15 < 23 by decide) rfl ?_
              refine g_iload X 15 dL_law_691 rfl ?_
              refine g_if_eq (tgt := 828) X dL_law_693 (by decide) (fun c_693 => absurd c_693 (by decide)) (fun c_693 => ?_)
              refine g_iload X 1 dL_law_696 rfl ?_
              refine g_bipush (v := (-4)) X dL_law_698 rfl ?_
              refine g_icmp_ne (tgt := 735) X dL_law_700 (by decide) (fun c_700 => ?_) (fun c_700 => absurd c_700 (ng_eq (by omega) (by decide)))
              refine g_iload X 1 dL_law_735 rfl ?_
              refine g_if_le (tgt := 828) X dL_law_737 (by decide) (fun c_737 => by exfalso; have f_ : (cW v k).2 ≤ 0 := n_le (by omega) (by omega) c_737; omega) (fun c_737 => ?_)
              refine g_iload X 1 dL_law_740 rfl ?_
              refine g_iconst (v := (nI 4)) X dL_law_742 rfl ?_
              refine g_icmp_ge (tgt := 828) X dL_law_743 (by decide) (fun c_743 => by exfalso; have f_ : 4 ≤ (cW v k).2 := n_le (by omega) (by omega) c_743; omega) (fun c_743 => ?_)
              refine g_iload X 3 dL_law_746 rfl ?_
              refine g_if_lt (tgt := 828) X dL_law_748 (by decide) (fun c_748 => absurd c_748 (nI_pos (by omega))) (fun c_748 => ?_)
              refine g_iload X 2 dL_law_751 rfl ?_
              refine g_if_lt (tgt := 828) X dL_law_753 (by decide) (fun c_753 => absurd c_753 (nI_pos (by omega))) (fun c_753 => ?_)
              refine g_aload_n X 5 dL_law_756 rfl ?_
              refine g_iload X 17 dL_law_757 rfl ?_
              refine g_iconst (v := (nI 0)) X dL_law_759 rfl ?_
              refine k_told X hd.rv cs_L_112 rfl (Nat.le_of_ble_eq_true rfl) dL_law_760 (fun z => ?_) hcs
              rw [tol_at hd.rv (show k < sS (tA v) by omega) (by omega), if_pos (show 0 < (cW v k).2 ∧ 0 ≤ (cW v k).2 by omega), y0, fu]
              refine g_iload X 3 dL_law_763 rfl ?_
              refine g_icmp_ne (tgt := 828) X dL_law_765 (by decide) (fun c_765 => absurd rfl c_765) (fun c_765 => ?_)
              refine g_aload_n X 5 dL_law_768 rfl ?_
              refine g_iload X 17 dL_law_769 rfl ?_
              refine g_iload X 1 dL_law_771 rfl ?_
              refine k_told X hd.rv cs_L_112 rfl (Nat.le_of_ble_eq_true rfl) dL_law_773 (fun z => ?_) hcs
              rw [tol_at hd.rv (show k < sS (tA v) by omega) (by omega), if_pos (show 0 < (cW v k).2 ∧ (cW v k).2 ≤ (cW v k).2 by omega), y1, fv]
              refine g_iload X 2 dL_law_776 rfl ?_
              refine g_icmp_ne (tgt := 828) X dL_law_778 (by decide) (fun c_778 => absurd rfl c_778) (fun c_778 => ?_)
              refine g_aload_n X 5 dL_law_781 rfl ?_
              refine g_iload X 17 dL_law_782 rfl ?_
              refine g_iload X 1 dL_law_784 rfl ?_
              refine g_iconst (v := (nI 1)) X dL_law_786 rfl ?_
              refine g_iaddN X dL_law_787 ?_
              refine k_told X hd.rv cs_L_112 rfl (Nat.le_of_ble_eq_true rfl) dL_law_788 (fun z => ?_) hcs
              rw [tol_at hd.rv (show k < sS (tA v) by omega) (by omega), if_neg (show ¬ (0 < (cW v k).2 ∧ (cW v k).2 + 1 ≤ (cW v k).2) by omega)]
              refine g_bipush (v := (-4)) X dL_law_791 rfl ?_
              refine g_icmp_ne (tgt := 828) X dL_law_793 (by decide) (fun c_793 => absurd (by decide) c_793) (fun c_793 => ?_)
              have J_831 : ∀ (z : ScrT) , GG E (m_L nm0) (GL p ev s0 m b below meth c) cells slots (wL E O Q ad ae v w f oa ok ta tk d e z) [(0, .ref b), (1, .ref (O 0 0)), (2, .ref ad), (3, .ref ae), (4, .int (nI rd)), (5, .int (celV L xs (25 + rd))), (6, .int (nI (sM (tA v)))), (7, .int (nI (sM (tB v)))), (8, .int (nI (sS (tA v)))), (9, .int (nI oa.2)), (10, .int (nI R0)), (12, .int (nI (mtC (cM v) (sM (tA v))))), (15, .int (nI ((toC v k) + 1))), (16, .int (nI k)), (17, .int (nI ju)), (18, .int (nI jv)), (19, .int (nI ((cW v k).2))), (11, .int (nI 1))] 831 [] := by
                intro z
                refine g_iconst (v := (nI 0)) X dL_law_831 rfl ?_
                refine g_istore (lv' := [(20, .int (nI 0)), (0, .ref b), (1, .ref (O 0 0)), (2, .ref ad), (3, .ref ae), (4, .int (nI rd)), (5, .int (celV L xs (25 + rd))), (6, .int (nI (sM (tA v)))), (7, .int (nI (sM (tB v)))), (8, .int (nI (sS (tA v)))), (9, .int (nI oa.2)), (10, .int (nI R0)), (12, .int (nI (mtC (cM v) (sM (tA v))))), (15, .int (nI ((toC v k) + 1))), (16, .int (nI k)), (17, .int (nI ju)), (18, .int (nI jv)), (19, .int (nI ((cW v k).2))), (11, .int (nI 1))]) X dL_law_832 (show 20 < 23 by decide) rfl ?_
                refine g_iconst (v := (nI 0)) X dL_law_834 rfl ?_
                refine g_istore (lv' := [(21, .int (nI 0)), (20, .int (nI 0)), (0, .ref b), (1, .ref (O 0 0)), (2, .ref ad), (3, .ref ae), (4, .int (nI rd)), (5, .int (celV L xs (25 + rd))), (6, .int (nI (sM (tA v)))), (7, .int (nI (sM (tB v)))), (8, .int (nI (sS (tA v)))), (9, .int (nI oa.2)), (10, .int (nI R0)), (12, .int (nI (mtC (cM v) (sM (tA v))))), (15, .int (nI ((toC v k) + 1))), (16, .int (nI k)), (17, .int (nI ju)), (18, .int (nI jv)), (19, .int (nI ((cW v k).2))), (11, .int (nI 1))]) X dL_law_835 (show 21 < 23 by decide) rfl ?_
                have L_837 : ∀ (n_837 : Nat) (j : Nat) (z : ScrT) (hj : j ≤ (cW v k).2) (hm_837 : (cW v k).2 - j < n_837) (x_20 : Int32) (ex_20 : x_20 = (nmJ v k j)) (x_21 : Int32) (ex_21 : x_21 = (nI j)), GG E (m_L nm0) (GL p ev s0 m b below meth c) cells slots (wL E O Q ad ae v w f oa ok ta tk d e z) [(0, .ref b), (1, .ref (O 0 0)), (2, .ref ad), (3, .ref ae), (4, .int (nI rd)), (5, .int (celV L xs (25 + rd))), (6, .int (nI (sM (tA v)))), (7, .int (nI (sM (tB v)))), (8, .int (nI (sS (tA v)))), (9, .int (nI oa.2)), (10, .int (nI R0)), (11, .int (nI 1)), (12, .int (nI (mtC (cM v) (sM (tA v))))), (15, .int (nI ((toC v k) + 1))), (16, .int (nI k)), (17, .int (nI ju)), (18, .int (nI jv)), (19, .int (nI ((cW v k).2))), (20, .int x_20), (21, .int x_21)] 837 [] := by
                  intro n_837
                  induction n_837 with
                  | zero => intro j z hj hm_837; exact absurd hm_837 (Nat.not_lt_zero _)
                  | succ n_837 ih_837 =>
                    intro j z hj hm_837 x_20 ex_20 x_21 ex_21
                    subst ex_20
                    subst ex_21
                    refine g_iload X 19 dL_law_837 rfl ?_
                    refine g_iload X 17 dL_law_839 rfl ?_
                    refine g_icmp_ge (tgt := 911) X dL_law_841 (by decide) (fun c_841 => ?_) (fun c_841 => ?_)
                    · have f_c_841 : (cW v k).2 ≤ j := n_le (by omega) (by omega) c_841
                      have fn_c_841 := Nat.not_lt.mpr f_c_841
                      have hjn : j = (cW v k).2 := by omega
                      refine g_iload X 11 dL_law_911 rfl ?_
                      refine g_if_eq (tgt := 976) X dL_law_913 (by decide) (fun c_913 => absurd c_913 (by decide)) (fun c_913 => ?_)
                      refine g_iload X 17 dL_law_916 rfl ?_
                      refine g_iconst (v := (nI 1)) X dL_law_918 rfl ?_
                      refine g_icmp_ne (tgt := 944) X dL_law_919 (by decide) (fun c_919 => ?_) (fun c_919 => ?_)
                      · have f_c_919 : ¬ (cW v k).2 = 1 := n_ne (by omega) (by omega) c_919
                        refine g_iload X 17 dL_law_944 rfl ?_
                        refine g_iconst (v := (nI 1)) X dL_law_946 rfl ?_
                        refine g_icmp_eq (tgt := 972) X dL_law_947 (by decide) (fun c_947 => by exfalso; have f_ : (cW v k).2 = 1 := n_eq (by omega) (by omega) c_947; omega) (fun c_947 => ?_)
                        refine g_iload X 15 dL_law_950 rfl ?_
                        refine g_if_lt (tgt := 972) X dL_law_952 (by decide) (fun c_952 => absurd c_952 (nI_pos (by omega))) (fun c_952 => ?_)
                        refine g_iload X 16 dL_law_955 rfl ?_
                        refine g_if_lt (tgt := 972) X dL_law_957 (by decide) (fun c_957 => absurd c_957 (nI_pos (by omega))) (fun c_957 => ?_)
                        refine g_aload_n X 3 dL_law_960 rfl ?_
                        refine g_iconst (v := (nI 1)) X dL_law_961 rfl ?_
                        refine g_iload X 15 dL_law_962 rfl ?_
                        refine g_iload X 16 dL_law_964 rfl ?_
                        refine k_stL X (g := 1) (n := ssV v 1) (by decide) (hd.ok.ss 1) (hd.2.1 1 (by decide)).2 cs_L_37 rfl (Nat.le_of_ble_eq_true rfl) dL_law_966 ?_ hcs
                        have hno := way_no hd hW fu fv hju hjv (by omega)
                        refine g_if_ge (tgt := 976) X dL_law_969 (by decide) (fun c_969 => absurd c_969 (by rw [i_le, i_0]; rw [i_lt, i_0] at hno; omega)) (fun c_969 => ?_)
                        refine g_iconst (v := (nI 1)) X dL_law_972 rfl ?_
                        refine g_goto (tgt := 977) X dL_law_973 (by decide) ?_
                        refine g_istore (lv' := [(11, .int (nI 1)), (0, .ref b), (1, .ref (O 0 0)), (2, .ref ad), (3, .ref ae), (4, .int (nI rd)), (5, .int (celV L xs (25 + rd))), (6, .int (nI (sM (tA v)))), (7, .int (nI (sM (tB v)))), (8, .int (nI (sS (tA v)))), (9, .int (nI oa.2)), (10, .int (nI R0)), (12, .int (nI (mtC (cM v) (sM (tA v))))), (15, .int (nI ((toC v k) + 1))), (16, .int (nI k)), (17, .int (nI ju)), (18, .int (nI jv)), (19, .int (nI ((cW v k).2))), (20, .int (nmJ v k j)), (21, .int (nI j))]) X dL_law_977 (show 11 < 23 by decide) rfl ?_
                        refine g_iincN (lv' := [(16, .int (nI (k + 1))), (11, .int (nI 1)), (0, .ref b), (1, .ref (O 0 0)), (2, .ref ad), (3, .ref ae), (4, .int (nI rd)), (5, .int (celV L xs (25 + rd))), (6, .int (nI (sM (tA v)))), (7, .int (nI (sM (tB v)))), (8, .int (nI (sS (tA v)))), (9, .int (nI oa.2)), (10, .int (nI R0)), (12, .int (nI (mtC (cM v) (sM (tA v))))), (15, .int (nI ((toC v k) + 1))), (17, .int (nI ju)), (18, .int (nI jv)), (19, .int (nI ((cW v k).2))), (20, .int (nmJ v k j)), (21, .int (nI j))]) X 14 dL_law_979 rfl (show 16 < 23 by decide) rfl ?_
                        refine g_goto (tgt := 630) X dL_law_982 (by decide) ?_
                        refine GG.lv [2, 3, 4, 5, 6, 7, 8, 9, 10, 11, 12, 1, 13, 14, 0] rfl ?_
                        exact ih_630 (k + 1) z (by omega) (by omega) (nI ((toC v k) + 1)) (by exact toC_t (by omega)) (nI (k + 1)) (by rfl)
                      · have f_c_919 : (cW v k).2 = 1 := n_eq (by omega) (by omega) c_919
                        refine g_aload_n X 1 dL_law_922 rfl ?_
                        refine g_iconst (v := (nI 0)) X dL_law_923 rfl ?_
                        refine g_iload X 14 dL_law_924 rfl ?_
                        refine g_iconst (v := (nI 2)) X dL_law_926 rfl ?_
                        refine k_street X hv cs_L_54 rfl (Nat.le_of_ble_eq_true rfl) dL_law_927 ?_ hcs
                        rw [s2_]
                        refine g_if_ne (tgt := 944) X dL_law_930 (by decide) (fun c_930 => ?_) (fun c_930 => ?_)
                        · skip
                          refine g_iload X 17 dL_law_944 rfl ?_
                          refine g_iconst (v := (nI 1)) X dL_law_946 rfl ?_
                          refine g_icmp_eq (tgt := 972) X dL_law_947 (by decide) (fun c_947 => ?_) (fun c_947 => by exfalso; have f_ : ¬ (cW v k).2 = 1 := n_ne (by omega) (by omega) c_947; omega)
                          refine g_iconst (v := (nI 1)) X dL_law_972 rfl ?_
                          refine g_goto (tgt := 977) X dL_law_973 (by decide) ?_
                          refine g_istore (lv' := [(11, .int (nI 1)), (0, .ref b), (1, .ref (O 0 0)), (2, .ref ad), (3, .ref ae), (4, .int (nI rd)), (5, .int (celV L xs (25 + rd))), (6, .int (nI (sM (tA v)))), (7, .int (nI (sM (tB v)))), (8, .int (nI (sS (tA v)))), (9, .int (nI oa.2)), (10, .int (nI R0)), (12, .int (nI (mtC (cM v) (sM (tA v))))), (15, .int (nI ((toC v k) + 1))), (16, .int (nI k)), (17, .int (nI ju)), (18, .int (nI jv)), (19, .int (nI ((cW v k).2))), (20, .int (nmJ v k j)), (21, .int (nI j))]) X dL_law_977 (show 11 < 23 by decide) rfl ?_
                          refine g_iincN (lv' := [(16, .int (nI (k + 1))), (11, .int (nI 1)), (0, .ref b), (1, .ref (O 0 0)), (2, .ref ad), (3, .ref ae), (4, .int (nI rd)), (5, .int (celV L xs (25 + rd))), (6, .int (nI (sM (tA v)))), (7, .int (nI (sM (tB v)))), (8, .int (nI (sS (tA v)))), (9, .int (nI oa.2)), (10, .int (nI R0)), (12, .int (nI (mtC (cM v) (sM (tA v))))), (15, .int (nI ((toC v k) + 1))), (17, .int (nI ju)), (18, .int (nI jv)), (19, .int (nI ((cW v k).2))), (20, .int (nmJ v k j)), (21, .int (nI j))]) X 14 dL_law_979 rfl (show 16 < 23 by decide) rfl ?_
                          refine g_goto (tgt := 630) X dL_law_982 (by decide) ?_
                          refine GG.lv [2, 3, 4, 5, 6, 7, 8, 9, 10, 11, 12, 1, 13, 14, 0] rfl ?_
                          exact ih_630 (k + 1) z (by omega) (by omega) (nI ((toC v k) + 1)) (by exact toC_t (by omega)) (nI (k + 1)) (by rfl)
                        · skip
                          refine g_aload_n X 1 dL_law_933 rfl ?_
                          refine g_iload X 14 dL_law_934 rfl ?_
                          refine k_named X hd.rv cs_L_114 rfl (Nat.le_of_ble_eq_true rfl) dL_law_936 (fun z => ?_) hcs
                          rw [nam_1 hd.rv (show k < sS (tA v) by omega) (by omega) c_930]
                          refine g_iload X 18 dL_law_939 rfl ?_
                          refine g_icmp_ne (tgt := 976) X dL_law_941 (by decide) (fun c_941 => absurd (nmJ_1 (by omega)) c_941) (fun c_941 => ?_)
                          refine g_iload X 17 dL_law_944 rfl ?_
                          refine g_iconst (v := (nI 1)) X dL_law_946 rfl ?_
                          refine g_icmp_eq (tgt := 972) X dL_law_947 (by decide) (fun c_947 => ?_) (fun c_947 => by exfalso; have f_ : ¬ (cW v k).2 = 1 := n_ne (by omega) (by omega) c_947; omega)
                          refine g_iconst (v := (nI 1)) X dL_law_972 rfl ?_
                          refine g_goto (tgt := 977) X dL_law_973 (by decide) ?_
                          refine g_istore (lv' := [(11, .int (nI 1)), (0, .ref b), (1, .ref (O 0 0)), (2, .ref ad), (3, .ref ae), (4, .int (nI rd)), (5, .int (celV L xs (25 + rd))), (6, .int (nI (sM (tA v)))), (7, .int (nI (sM (tB v)))), (8, .int (nI (sS (tA v)))), (9, .int (nI oa.2)), (10, .int (nI R0)), (12, .int (nI (mtC (cM v) (sM (tA v))))), (15, .int (nI ((toC v k) + 1))), (16, .int (nI k)), (17, .int (nI ju)), (18, .int (nI jv)), (19, .int (nI ((cW v k).2))), (20, .int (nmJ v k j)), (21, .int (nI j))]) X dL_law_977 (show 11 < 23 by decide) rfl ?_
                          refine g_iincN (lv' := [(16, .int (nI (k + 1))), (11, .int (nI 1)), (0, .ref b), (1, .ref (O 0 0)), (2, .ref ad), (3, .ref ae), (4, .int (nI rd)), (5, .int (celV L xs (25 + rd))), (6, .int (nI (sM (tA v)))), (7, .int (nI (sM (tB v)))), (8, .int (nI (sS (tA v)))), (9, .int (nI oa.2)), (10, .int (nI R0)), (12, .int (nI (mtC (cM v) (sM (tA v))))), (15, .int (nI ((toC v k) + 1))), (17, .int (nI ju)), (18, .int (nI jv)), (19, .int (nI ((cW v k).2))), (20, .int (nmJ v k j)), (21, .int (nI j))]) X 14 dL_law_979 rfl (show 16 < 23 by decide) rfl ?_
                          refine g_goto (tgt := 630) X dL_law_982 (by decide) ?_
                          refine GG.lv [2, 3, 4, 5, 6, 7, 8, 9, 10, 11, 12, 1, 13, 14, 0] rfl ?_
                          exact ih_630 (k + 1) z (by omega) (by omega) (nI ((toC v k) + 1)) (by exact toC_t (by omega)) (nI (k + 1)) (by rfl)
                    · have f_c_841 : j < (cW v k).2 := n_nle (by omega) (by omega) c_841
                      have fn_c_841 := Nat.not_le.mpr f_c_841
                      refine g_aload_n X 3 dL_law_844 rfl ?_
                      refine g_iconst (v := (nI 1)) X dL_law_845 rfl ?_
                      refine g_aload_n X 1 dL_law_846 rfl ?_
                      refine g_iload X 14 dL_law_847 rfl ?_
                      refine g_iload X 19 dL_law_849 rfl ?_
                      refine k_told X hd.rv cs_L_112 rfl (Nat.le_of_ble_eq_true rfl) dL_law_851 (fun z => ?_) hcs
                      rw [tol_at hd.rv (show k < sS (tA v) by omega) (by omega), if_pos (show 0 < (cW v k).2 ∧ j ≤ (cW v k).2 by omega)]
                      refine g_aload_n X 1 dL_law_854 rfl ?_
                      refine g_iload X 14 dL_law_855 rfl ?_
                      refine g_iload X 19 dL_law_857 rfl ?_
                      refine g_iconst (v := (nI 1)) X dL_law_859 rfl ?_
                      refine g_iaddN X dL_law_860 ?_
                      refine k_told X hd.rv cs_L_112 rfl (Nat.le_of_ble_eq_true rfl) dL_law_861 (fun z => ?_) hcs
                      rw [tol_at hd.rv (show k < sS (tA v) by omega) (by omega), if_pos (show 0 < (cW v k).2 ∧ j + 1 ≤ (cW v k).2 by omega)]
                      refine k_stL X (g := 1) (n := ssV v 1) (by decide) (hd.ok.ss 1) (hd.2.1 1 (by decide)).2 cs_L_37 rfl (Nat.le_of_ble_eq_true rfl) dL_law_864 ?_ hcs
                      have hsv1 := hv.ss 1
                      obtain ⟨sx, hsx, esx, enx⟩ := way_st hd (show j < (cW v k).2 by omega)
                      rw [esx]
                      refine g_istore (lv' := [(22, .int (nI sx)), (0, .ref b), (1, .ref (O 0 0)), (2, .ref ad), (3, .ref ae), (4, .int (nI rd)), (5, .int (celV L xs (25 + rd))), (6, .int (nI (sM (tA v)))), (7, .int (nI (sM (tB v)))), (8, .int (nI (sS (tA v)))), (9, .int (nI oa.2)), (10, .int (nI R0)), (11, .int (nI 1)), (12, .int (nI (mtC (cM v) (sM (tA v))))), (15, .int (nI ((toC v k) + 1))), (16, .int (nI k)), (17, .int (nI ju)), (18, .int (nI jv)), (19, .int (nI ((cW v k).2))), (20, .int (nmJ v k j)), (21, .int (nI j))]) X dL_law_867 (show 22 < 23 by decide) rfl ?_
                      refine g_iload X 12 dL_law_869 rfl ?_
                      refine g_if_eq (tgt := 883) X dL_law_871 (by decide) (fun c_871 => absurd c_871 (by decide)) (fun c_871 => ?_)
                      refine g_iload X 0 dL_law_874 rfl ?_
                      refine g_if_lt (tgt := 883) X dL_law_876 (by decide) (fun c_876 => absurd c_876 (nI_pos (by omega))) (fun c_876 => ?_)
                      refine g_iconst (v := (nI 1)) X dL_law_879 rfl ?_
                      refine g_goto (tgt := 884) X dL_law_880 (by decide) ?_
                      refine g_istore (lv' := [(11, .int (nI 1)), (22, .int (nI sx)), (0, .ref b), (1, .ref (O 0 0)), (2, .ref ad), (3, .ref ae), (4, .int (nI rd)), (5, .int (celV L xs (25 + rd))), (6, .int (nI (sM (tA v)))), (7, .int (nI (sM (tB v)))), (8, .int (nI (sS (tA v)))), (9, .int (nI oa.2)), (10, .int (nI R0)), (12, .int (nI (mtC (cM v) (sM (tA v))))), (15, .int (nI ((toC v k) + 1))), (16, .int (nI k)), (17, .int (nI ju)), (18, .int (nI jv)), (19, .int (nI ((cW v k).2))), (20, .int (nmJ v k j)), (21, .int (nI j))]) X dL_law_884 (show 11 < 23 by decide) rfl ?_
                      refine g_iload X 1 dL_law_886 rfl ?_
                      refine g_if_lt (tgt := 902) X dL_law_888 (by decide) (fun c_888 => absurd c_888 (nI_pos (by omega))) (fun c_888 => ?_)
                      refine g_aload_n X 3 dL_law_891 rfl ?_
                      refine g_iconst (v := (nI 1)) X dL_law_892 rfl ?_
                      refine g_iload X 1 dL_law_893 rfl ?_
                      refine g_iconst (v := (nI 2)) X dL_law_895 rfl ?_
                      refine k_street X hv cs_L_54 rfl (Nat.le_of_ble_eq_true rfl) dL_law_896 ?_ hcs
                      rw [enx]
                      refine g_goto (tgt := 903) X dL_law_899 (by decide) ?_
                      refine g_istore (lv' := [(20, .int (nmW (tB v) (cW v k) j)), (11, .int (nI 1)), (22, .int (nI sx)), (0, .ref b), (1, .ref (O 0 0)), (2, .ref ad), (3, .ref ae), (4, .int (nI rd)), (5, .int (celV L xs (25 + rd))), (6, .int (nI (sM (tA v)))), (7, .int (nI (sM (tB v)))), (8, .int (nI (sS (tA v)))), (9, .int (nI oa.2)), (10, .int (nI R0)), (12, .int (nI (mtC (cM v) (sM (tA v))))), (15, .int (nI ((toC v k) + 1))), (16, .int (nI k)), (17, .int (nI ju)), (18, .int (nI jv)), (19, .int (nI ((cW v k).2))), (21, .int (nI j))]) X dL_law_903 (show 20 < 23 by decide) rfl ?_
                      refine g_iincN (lv' := [(21, .int (nI (j + 1))), (20, .int (nmW (tB v) (cW v k) j)), (11, .int (nI 1)), (22, .int (nI sx)), (0, .ref b), (1, .ref (O 0 0)), (2, .ref ad), (3, .ref ae), (4, .int (nI rd)), (5, .int (celV L xs (25 + rd))), (6, .int (nI (sM (tA v)))), (7, .int (nI (sM (tB v)))), (8, .int (nI (sS (tA v)))), (9, .int (nI oa.2)), (10, .int (nI R0)), (12, .int (nI (mtC (cM v) (sM (tA v))))), (15, .int (nI ((toC v k) + 1))), (16, .int (nI k)), (17, .int (nI ju)), (18, .int (nI jv)), (19, .int (nI ((cW v k).2)))]) X 20 dL_law_905 rfl (show 21 < 23 by decide) rfl ?_
                      refine g_goto (tgt := 837) X dL_law_908 (by decide) ?_
                      refine GG.lv [4, 5, 6, 7, 8, 9, 10, 11, 12, 13, 14, 2, 15, 16, 17, 18, 19, 20, 1, 0] rfl ?_
                      exact ih_837 (j + 1) z (by omega) (by omega) (nmW (tB v) (cW v k) j) (by exact nmJ_s v k j) (nI (j + 1)) (by rfl)
                refine GG.lv [2, 3, 4, 5, 6, 7, 8, 9, 10, 11, 12, 19, 13, 14, 15, 16, 17, 18, 1, 0] rfl ?_
                exact L_837 ((cW v k).2 + 1) 0 z (by omega) (by omega) (nI 0) (by exact nmJ_0 v k) (nI 0) (by rfl)
              refine g_aload_n X 5 dL_law_796 rfl ?_
              refine g_iconst (v := (nI 0)) X dL_law_797 rfl ?_
              refine g_iload X 17 dL_law_798 rfl ?_
              refine g_iconst (v := (nI 2)) X dL_law_800 rfl ?_
              refine k_street X hv cs_L_54 rfl (Nat.le_of_ble_eq_true rfl) dL_law_801 ?_ hcs
              rw [s2_]
              refine g_if_eq (tgt := 824) X dL_law_804 (by decide) (fun c_804 => ?_) (fun c_804 => ?_)
              · skip
                refine g_iconst (v := (nI 1)) X dL_law_824 rfl ?_
                refine g_goto (tgt := 829) X dL_law_825 (by decide) ?_
                refine g_istore (lv' := [(11, .int (nI 1)), (15, .int (nI ((toC v k) + 1))), (19, .int (nI ((cW v k).2))), (18, .int (nI jv)), (17, .int (nI ju)), (0, .ref b), (1, .ref (O 0 0)), (2, .ref ad), (3, .ref ae), (4, .int (nI rd)), (5, .int (celV L xs (25 + rd))), (6, .int (nI (sM (tA v)))), (7, .int (nI (sM (tB v)))), (8, .int (nI (sS (tA v)))), (9, .int (nI oa.2)), (10, .int (nI R0)), (12, .int (nI (mtC (cM v) (sM (tA v))))), (16, .int (nI k))]) X dL_law_829 (show 11 < 23 by decide) rfl ?_
                refine GG.lv [5, 6, 7, 8, 9, 10, 11, 12, 13, 14, 15, 16, 1, 17, 4, 3, 2, 0] rfl ?_
                exact J_831 z
              · skip
                refine g_aload_n X 5 dL_law_807 rfl ?_
                refine g_iload X 17 dL_law_808 rfl ?_
                refine k_named X hd.rv cs_L_114 rfl (Nat.le_of_ble_eq_true rfl) dL_law_810 (fun z => ?_) hcs
                rw [nam_n hd.rv (show k < sS (tA v) by omega) c_804]
                refine g_aload_n X 5 dL_law_813 rfl ?_
                refine g_iconst (v := (nI 0)) X dL_law_814 rfl ?_
                refine g_iload X 17 dL_law_815 rfl ?_
                refine g_iconst (v := (nI 2)) X dL_law_817 rfl ?_
                refine k_street X hv cs_L_54 rfl (Nat.le_of_ble_eq_true rfl) dL_law_818 ?_ hcs
                rw [s2_]
                refine g_icmp_ne (tgt := 828) X dL_law_821 (by decide) (fun c_821 => absurd rfl c_821) (fun c_821 => ?_)
                refine g_iconst (v := (nI 1)) X dL_law_824 rfl ?_
                refine g_goto (tgt := 829) X dL_law_825 (by decide) ?_
                refine g_istore (lv' := [(11, .int (nI 1)), (15, .int (nI ((toC v k) + 1))), (19, .int (nI ((cW v k).2))), (18, .int (nI jv)), (17, .int (nI ju)), (0, .ref b), (1, .ref (O 0 0)), (2, .ref ad), (3, .ref ae), (4, .int (nI rd)), (5, .int (celV L xs (25 + rd))), (6, .int (nI (sM (tA v)))), (7, .int (nI (sM (tB v)))), (8, .int (nI (sS (tA v)))), (9, .int (nI oa.2)), (10, .int (nI R0)), (12, .int (nI (mtC (cM v) (sM (tA v))))), (16, .int (nI k))]) X dL_law_829 (show 11 < 23 by decide) rfl ?_
                refine GG.lv [5, 6, 7, 8, 9, 10, 11, 12, 13, 14, 15, 16, 1, 17, 4, 3, 2, 0] rfl ?_
                exact J_831 z
  refine GG.lv [2, 3, 4, 5, 6, 7, 8, 9, 10, 11, 12, 13, 14, 1, 0] rfl ?_
  exact L_630 (sS (tA v) + 1) 0 z (by omega) (by omega) (nI 0) (by rfl) (nI 0) (by rfl)
end LAW
