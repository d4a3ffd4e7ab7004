set_option maxHeartbeats 4000000 in
set_option maxRecDepth 100000 in
theorem c_X10_day (E : GE) (a : Nat → Nat) (s : MD0) (mm : Nat → Nat) (ss : Nat → Nat) (kd : Nat → Int32) (xo : Nat → Int32) (yo : Nat → Int32) (fr : Nat → Int32) (tt : Nat → Int32) (nm : Nat → Int32) (be : Nat → Int32) (nx : Nat → Int32) (mt : Nat → Int32) (asd : Nat → Int32) (z : Int32) (n : Int32) (q : Int32) (hmm : ∀ g, g < 2 → mm g ≤ 8) (hss : ∀ g, g < 2 → ss g ≤ 8) (hE : okE ss fr tt) (hN : dN0 s ≤ 3) (hmp : ∀ g, g < 2 → 1 ≤ mm g) : CT E m_X10_day [.ref (a 0), .int z, .int n, .int q] ([wMd E a s, wAn E (a 2) 2 mm, wAn E (a 3) 2 ss, wAr E (a 4) 16 kd, wAr E (a 5) 16 xo, wAr E (a 6) 16 yo, wAr E (a 7) 16 fr, wAr E (a 8) 16 tt, wAr E (a 9) 16 nm, wAr E (a 15) 64 be, wAr E (a 16) 64 nx, wAr E (a 17) 16 mt, wAr E (a 14) 102 asd].flatten) (some (.int (if dayA z n q then (if q = 0 then nI (rCnt (rMts false (rBelAll (dR s) (dN0 s) mm ss kd ((rDyN mm z.toNatClampNeg (xo, yo) n.toNatClampNeg).1) ((rDyN mm z.toNatClampNeg (xo, yo) n.toNatClampNeg).2) fr tt (be, nx)).1 mt) (mm 0)) else nI (rTuS mm (rDyN mm z.toNatClampNeg (xo, yo) n.toNatClampNeg).1 (rDyN mm z.toNatClampNeg (xo, yo) n.toNatClampNeg).2 (rMts false (rBelAll (dR s) (dN0 s) mm ss kd ((rDyN mm z.toNatClampNeg (xo, yo) n.toNatClampNeg).1) ((rDyN mm z.toNatClampNeg (xo, yo) n.toNatClampNeg).2) fr tt (be, nx)).1 mt) 512)) else -1))) ([wMd E a s, wAn E (a 2) 2 (if dayA z n q then tkF mm mm 2 else mm), wAn E (a 3) 2 (if dayA z n q then tkF ss ss 2 else ss), wAr E (a 4) 16 (if dayA z n q then tkF kd kd 16 else kd), wAr E (a 5) 16 (if dayA z n q then tkF xo (rDyN mm z.toNatClampNeg (xo, yo) n.toNatClampNeg).1 16 else xo), wAr E (a 6) 16 (if dayA z n q then tkF yo (rDyN mm z.toNatClampNeg (xo, yo) n.toNatClampNeg).2 16 else yo), wAr E (a 7) 16 (if dayA z n q then tkF fr fr 16 else fr), wAr E (a 8) 16 (if dayA z n q then tkF tt tt 16 else tt), wAr E (a 9) 16 (if dayA z n q then tkF nm nm 16 else nm), wAr E (a 15) 64 (if dayA z n q then (rBelAll (dR s) (dN0 s) mm ss kd ((rDyN mm z.toNatClampNeg (xo, yo) n.toNatClampNeg).1) ((rDyN mm z.toNatClampNeg (xo, yo) n.toNatClampNeg).2) fr tt (be, nx)).1 else be), wAr E (a 16) 64 (if dayA z n q then (rBelAll (dR s) (dN0 s) mm ss kd ((rDyN mm z.toNatClampNeg (xo, yo) n.toNatClampNeg).1) ((rDyN mm z.toNatClampNeg (xo, yo) n.toNatClampNeg).2) fr tt (be, nx)).2 else nx), wAr E (a 17) 16 (if dayA z n q then rMts false (rBelAll (dR s) (dN0 s) mm ss kd ((rDyN mm z.toNatClampNeg (xo, yo) n.toNatClampNeg).1) ((rDyN mm z.toNatClampNeg (xo, yo) n.toNatClampNeg).2) fr tt (be, nx)).1 mt else mt), wAr E (a 14) 102 (if dayA z n q then lyF (snp (dR s, dN0 s, mm, ss, kd, xo, yo, fr, tt, nm)) asd 0 else asd)].flatten) := by
  refine CT.intro (by decide +kernel) (Nat.le_of_ble_eq_true rfl) (fun Γ X hx => ?_)
  refine GG.lv [0, 1, 2, 3] (lv' := [(0, .ref (a 0)), (1, .int z), (2, .int n), (3, .int q)]) rfl ?_
  have hm0 := hmm 0 (by decide)
  have hm1 := hmm 1 (by decide)
  have hs0 := hss 0 (by decide)
  have hs1 := hss 1 (by decide)
  refine g_iload_n X 1 dX10_day_0 rfl ?_
  refine g_iconst (v := (nI 0)) X dX10_day_1 rfl ?_
  refine g_sipush (v := (nI 9999)) X dX10_day_2 rfl ?_
  refine g_callSP (st2 := [.int (b2i (inR z (nI 0) (nI 9999)))]) (ws' := [wMd E a s, wAn E (a 2) 2 mm, wAn E (a 3) 2 ss, wAr E (a 4) 16 kd, wAr E (a 5) 16 xo, wAr E (a 6) 16 yo, wAr E (a 7) 16 fr, wAr E (a 8) 16 tt, wAr E (a 9) 16 nm, wAr E (a 15) 64 be, wAr E (a 16) 64 nx, wAr E (a 17) 16 mt, wAr E (a 14) 102 asd].flatten) (wr := [wMd E a s, wAn E (a 2) 2 mm, wAn E (a 3) 2 ss, wAr E (a 4) 16 kd, wAr E (a 5) 16 xo, wAr E (a 6) 16 yo, wAr E (a 7) 16 fr, wAr E (a 8) 16 tt, wAr E (a 9) 16 nm, wAr E (a 15) 64 be, wAr E (a 16) 64 nx, wAr E (a 17) 16 mt, wAr E (a 14) 102 asd].flatten) X (c_X10_in E z (nI 0) (nI 9999)) cs_X10_84 rfl (List.Perm.refl _) rfl (List.Perm.refl _) rfl rfl (Nat.le_of_ble_eq_true rfl) dX10_day_5 rfl ?_
  refine g_bif_eq (tgt := 30) X dX10_day_8 (by decide) (fun c_8 => ?_) (fun c_8 => ?_)
  · refine g_iconst (v := (-1)) X dX10_day_30 rfl ?_
    exact g_iretv (r := (-1)) X hx rfl (by simp only [dayA, c_8, decide_true, decide_false, not_true_eq_false, not_false_eq_true, Bool.true_and, Bool.false_and, Bool.and_true, Bool.and_false, Bool.true_or, Bool.false_or, Bool.or_true, Bool.or_false, and_true, true_and, and_false, false_and, or_true, true_or, or_false, false_or, if_true, if_false, Bool.false_eq_true, decide_eq_true_eq]) (by simp only [dayA, c_8, decide_true, decide_false, not_true_eq_false, not_false_eq_true, Bool.true_and, Bool.false_and, Bool.and_true, Bool.and_false, Bool.true_or, Bool.false_or, Bool.or_true, Bool.or_false, and_true, true_and, and_false, false_and, or_true, true_or, or_false, false_or, if_true, if_false, Bool.false_eq_true, decide_eq_true_eq]) dX10_day_31
  · refine g_iload_n X 2 dX10_day_11 rfl ?_
    refine g_iconst (v := (nI 1)) X dX10_day_12 rfl ?_
    refine g_bipush (v := (nI 20)) X dX10_day_13 rfl ?_
    refine g_callSP (st2 := [.int (b2i (inR n (nI 1) (nI 20)))]) (ws' := [wMd E a s, wAn E (a 2) 2 mm, wAn E (a 3) 2 ss, wAr E (a 4) 16 kd, wAr E (a 5) 16 xo, wAr E (a 6) 16 yo, wAr E (a 7) 16 fr, wAr E (a 8) 16 tt, wAr E (a 9) 16 nm, wAr E (a 15) 64 be, wAr E (a 16) 64 nx, wAr E (a 17) 16 mt, wAr E (a 14) 102 asd].flatten) (wr := [wMd E a s, wAn E (a 2) 2 mm, wAn E (a 3) 2 ss, wAr E (a 4) 16 kd, wAr E (a 5) 16 xo, wAr E (a 6) 16 yo, wAr E (a 7) 16 fr, wAr E (a 8) 16 tt, wAr E (a 9) 16 nm, wAr E (a 15) 64 be, wAr E (a 16) 64 nx, wAr E (a 17) 16 mt, wAr E (a 14) 102 asd].flatten) X (c_X10_in E n (nI 1) (nI 20)) cs_X10_84 rfl (List.Perm.refl _) rfl (List.Perm.refl _) rfl rfl (Nat.le_of_ble_eq_true rfl) dX10_day_15 rfl ?_
    refine g_bif_eq (tgt := 30) X dX10_day_18 (by decide) (fun c_18 => ?_) (fun c_18 => ?_)
    · refine g_iconst (v := (-1)) X dX10_day_30 rfl ?_
      exact g_iretv (r := (-1)) X hx rfl (by simp only [dayA, c_8, c_18, decide_true, decide_false, not_true_eq_false, not_false_eq_true, Bool.true_and, Bool.false_and, Bool.and_true, Bool.and_false, Bool.true_or, Bool.false_or, Bool.or_true, Bool.or_false, and_true, true_and, and_false, false_and, or_true, true_or, or_false, false_or, if_true, if_false, Bool.false_eq_true, decide_eq_true_eq]) (by simp only [dayA, c_8, c_18, decide_true, decide_false, not_true_eq_false, not_false_eq_true, Bool.true_and, Bool.false_and, Bool.and_true, Bool.and_false, Bool.true_or, Bool.false_or, Bool.or_true, Bool.or_false, and_true, true_and, and_false, false_and, or_true, true_or, or_false, false_or, if_true, if_false, Bool.false_eq_true, decide_eq_true_eq]) dX10_day_31
    · refine g_iload_n X 3 dX10_day_21 rfl ?_
      refine g_iconst (v := (nI 0)) X dX10_day_22 rfl ?_
      refine g_iconst (v := (nI 1)) X dX10_day_23 rfl ?_
      refine g_callSP (st2 := [.int (b2i (inR q (nI 0) (nI 1)))]) (ws' := [wMd E a s, wAn E (a 2) 2 mm, wAn E (a 3) 2 ss, wAr E (a 4) 16 kd, wAr E (a 5) 16 xo, wAr E (a 6) 16 yo, wAr E (a 7) 16 fr, wAr E (a 8) 16 tt, wAr E (a 9) 16 nm, wAr E (a 15) 64 be, wAr E (a 16) 64 nx, wAr E (a 17) 16 mt, wAr E (a 14) 102 asd].flatten) (wr := [wMd E a s, wAn E (a 2) 2 mm, wAn E (a 3) 2 ss, wAr E (a 4) 16 kd, wAr E (a 5) 16 xo, wAr E (a 6) 16 yo, wAr E (a 7) 16 fr, wAr E (a 8) 16 tt, wAr E (a 9) 16 nm, wAr E (a 15) 64 be, wAr E (a 16) 64 nx, wAr E (a 17) 16 mt, wAr E (a 14) 102 asd].flatten) X (c_X10_in E q (nI 0) (nI 1)) cs_X10_84 rfl (List.Perm.refl _) rfl (List.Perm.refl _) rfl rfl (Nat.le_of_ble_eq_true rfl) dX10_day_24 rfl ?_
      refine g_bif_ne (tgt := 32) X dX10_day_27 (by decide) (fun c_27 => ?_) (fun c_27 => ?_)
      · obtain ⟨z1, hz1, rfl⟩ := inR_nI c_8 (by decide)
        obtain ⟨n1, hn0, hn1, rfl⟩ := inR_nI1 c_18 (by decide)
        refine g_aload_n X 0 dX10_day_32 rfl ?_
        refine g_aload_n X 0 dX10_day_33 rfl ?_
        refine g_getf (v := .ref (a 14)) X fs_X10_47 0 rfl rfl dX10_day_34 ?_
        refine g_iconst (v := (nI 0)) X dX10_day_37 rfl ?_
        refine g_callV (st2 := []) (S' := [wMd E a s, wAn E (a 2) 2 mm, wAn E (a 3) 2 ss, wAr E (a 4) 16 kd, wAr E (a 5) 16 xo, wAr E (a 6) 16 yo, wAr E (a 7) 16 fr, wAr E (a 8) 16 tt, wAr E (a 9) 16 nm, wAr E (a 15) 64 be, wAr E (a 16) 64 nx, wAr E (a 17) 16 mt, wAr E (a 14) 102 (lyF (snp (dR s, dN0 s, mm, ss, kd, xo, yo, fr, tt, nm)) asd 0)]) (q0 := 0) X (c_X10_lays E a s mm ss kd xo yo fr tt nm (a 14) 102 asd 0 (by first | assumption | omega | exact Nat.zero_le _) (by first | assumption | omega | exact Nat.zero_le _)) cs_X10_110 rfl [0, 1, 2, 3, 4, 5, 6, 7, 8, 12] [9, 10, 11] 13 rfl rfl (by decide) [wAr E (a 15) 64 be, wAr E (a 16) 64 nx, wAr E (a 17) 16 mt] rfl rfl rfl rfl (by simp only [List.map_cons, List.map_nil, fsAn, fsAr, fsMd]) rfl rfl rfl rfl (Nat.le_of_ble_eq_true rfl) dX10_day_38 rfl ?_
        refine g_iconst (v := (nI 0)) X dX10_day_41 rfl ?_
        refine g_istore (lv' := [(4, .int (nI 0)), (0, .ref (a 0)), (1, .int (nI z1)), (2, .int (nI n1)), (3, .int q)]) X dX10_day_42 (by decide) rfl ?_
        have L_44 : ∀ (n_44 : Nat) (k : Nat) (hk : k ≤ n1) (hm_44 : n1 - k < n_44) (x_4 : Int32) (ex_4 : x_4 = (nI k)) (u_0 : Nat → Int32) (eu_0 : u_0 = (rDyN mm z1 (xo, yo) k).1) (u_1 : Nat → Int32) (eu_1 : u_1 = (rDyN mm z1 (xo, yo) k).2), GG E m_X10_day Γ 0 0 ([wMd E a s, wAn E (a 2) 2 mm, wAn E (a 3) 2 ss, wAr E (a 4) 16 kd, wAr E (a 5) 16 u_0, wAr E (a 6) 16 u_1, wAr E (a 7) 16 fr, wAr E (a 8) 16 tt, wAr E (a 9) 16 nm, wAr E (a 15) 64 be, wAr E (a 16) 64 nx, wAr E (a 17) 16 mt, wAr E (a 14) 102 (lyF (snp (dR s, dN0 s, mm, ss, kd, xo, yo, fr, tt, nm)) asd 0)].flatten) [(0, .ref (a 0)), (1, .int (nI z1)), (2, .int (nI n1)), (3, .int q), (4, .int x_4)] 44 [] := by
          intro n_44
          induction n_44 with
          | zero => intro k hk hm_44; exact absurd hm_44 (Nat.not_lt_zero _)
          | succ n_44 ih_44 =>
            intro k hk hm_44 x_4 ex_4 u_0 eu_0 u_1 eu_1
            subst ex_4
            subst eu_0
            subst eu_1
            refine g_iload X 4 dX10_day_44 rfl ?_
            refine g_iload_n X 2 dX10_day_46 rfl ?_
            refine g_icmp_ge (tgt := 143) X dX10_day_47 (by decide) (fun c_47 => ?_) (fun c_47 => ?_)
            · have f_c_47 : n1 ≤ k := n_le (by omega) (by omega) c_47
              have fn_c_47 := Nat.not_lt.mpr f_c_47
              refine g_aload_n X 0 dX10_day_143 rfl ?_
              refine g_callV (st2 := []) (S' := [wMd E a s, wAn E (a 2) 2 mm, wAn E (a 3) 2 ss, wAr E (a 4) 16 kd, wAr E (a 5) 16 ((rDyN mm z1 (xo, yo) k).1), wAr E (a 6) 16 ((rDyN mm z1 (xo, yo) k).2), wAr E (a 7) 16 fr, wAr E (a 8) 16 tt, wAr E (a 9) 16 nm, wAr E (a 15) 64 ((rBelAll (dR s) (dN0 s) mm ss kd ((rDyN mm z1 (xo, yo) k).1) ((rDyN mm z1 (xo, yo) k).2) fr tt (be, nx)).1), wAr E (a 16) 64 ((rBelAll (dR s) (dN0 s) mm ss kd ((rDyN mm z1 (xo, yo) k).1) ((rDyN mm z1 (xo, yo) k).2) fr tt (be, nx)).2), wAr E (a 17) 16 (rMts false (rBelAll (dR s) (dN0 s) mm ss kd ((rDyN mm z1 (xo, yo) k).1) ((rDyN mm z1 (xo, yo) k).2) fr tt (be, nx)).1 mt), wAr E (a 14) 102 (lyF (snp (dR s, dN0 s, mm, ss, kd, xo, yo, fr, tt, nm)) asd 0)]) (q0 := 0) X (c_X10_setMatches E a s mm ss kd ((rDyN mm z1 (xo, yo) k).1) ((rDyN mm z1 (xo, yo) k).2) fr tt be nx mt (by first | assumption | omega | exact Nat.zero_le _) (by first | assumption | omega | exact Nat.zero_le _) (by first | assumption | omega | exact Nat.zero_le _) (by first | assumption | omega | exact Nat.zero_le _)) cs_X10_156 rfl [0, 1, 2, 3, 4, 5, 6, 7, 9, 10, 11] [8, 12] 13 rfl rfl (by decide) [wAr E (a 9) 16 nm, wAr E (a 14) 102 (lyF (snp (dR s, dN0 s, mm, ss, kd, xo, yo, fr, tt, nm)) asd 0)] rfl rfl rfl rfl (by simp only [List.map_cons, List.map_nil, fsAn, fsAr, fsMd]) rfl rfl rfl rfl (Nat.le_of_ble_eq_true rfl) dX10_day_144 rfl ?_
              refine g_iload_n X 3 dX10_day_147 rfl ?_
              refine g_if_ne (tgt := 158) X dX10_day_148 (by decide) (fun c_148 => ?_) (fun c_148 => ?_)
              · refine g_aload_n X 0 dX10_day_158 rfl ?_
                refine g_callVr (st2 := [.int (nI (rTuS mm ((rDyN mm z1 (xo, yo) k).1) ((rDyN mm z1 (xo, yo) k).2) (rMts false (rBelAll (dR s) (dN0 s) mm ss kd ((rDyN mm z1 (xo, yo) k).1) ((rDyN mm z1 (xo, yo) k).2) fr tt (be, nx)).1 mt) 512))]) (q0 := 0) X (c_X10_turnedMany E a s mm ((rDyN mm z1 (xo, yo) k).1) ((rDyN mm z1 (xo, yo) k).2) (rMts false (rBelAll (dR s) (dN0 s) mm ss kd ((rDyN mm z1 (xo, yo) k).1) ((rDyN mm z1 (xo, yo) k).2) fr tt (be, nx)).1 mt) (by first | assumption | omega | exact Nat.zero_le _) (okMt4_rMts _ _ _)) cs_X10_219 rfl [0, 1, 4, 5, 11] [2, 3, 6, 7, 8, 9, 10, 12] 13 rfl (by decide) rfl rfl rfl rfl rfl (Nat.le_of_ble_eq_true rfl) dX10_day_159 rfl ?_
                refine g_istore (lv' := [(4, .int (nI (rTuS mm ((rDyN mm z1 (xo, yo) k).1) ((rDyN mm z1 (xo, yo) k).2) (rMts false (rBelAll (dR s) (dN0 s) mm ss kd ((rDyN mm z1 (xo, yo) k).1) ((rDyN mm z1 (xo, yo) k).2) fr tt (be, nx)).1 mt) 512))), (0, .ref (a 0)), (1, .int (nI z1)), (2, .int (nI n1)), (3, .int q)]) X dX10_day_162 (by decide) rfl ?_
                refine g_aload_n X 1 dX10_day_164 rfl ?_
                refine g_aload_n X 1 dX10_day_165 rfl ?_
                refine g_getf (v := .ref (a 14)) X fs_X10_47 0 rfl rfl dX10_day_166 ?_
                refine g_iconst (v := (nI 0)) X dX10_day_169 rfl ?_
                refine g_callV (st2 := []) (S' := [wMd E a ((dR s), (dN0 s), dU s, dK s, dP s, dX s, dY s, dS s, dA s, dQ s), wAn E (a 2) 2 (tkF mm mm 2), wAn E (a 3) 2 (tkF ss ss 2), wAr E (a 4) 16 (tkF kd kd 16), wAr E (a 5) 16 (tkF xo ((rDyN mm z1 (xo, yo) k).1) 16), wAr E (a 6) 16 (tkF yo ((rDyN mm z1 (xo, yo) k).2) 16), wAr E (a 7) 16 (tkF fr fr 16), wAr E (a 8) 16 (tkF tt tt 16), wAr E (a 9) 16 (tkF nm nm 16), wAr E (a 15) 64 ((rBelAll (dR s) (dN0 s) mm ss kd ((rDyN mm z1 (xo, yo) k).1) ((rDyN mm z1 (xo, yo) k).2) fr tt (be, nx)).1), wAr E (a 16) 64 ((rBelAll (dR s) (dN0 s) mm ss kd ((rDyN mm z1 (xo, yo) k).1) ((rDyN mm z1 (xo, yo) k).2) fr tt (be, nx)).2), wAr E (a 17) 16 (rMts false (rBelAll (dR s) (dN0 s) mm ss kd ((rDyN mm z1 (xo, yo) k).1) ((rDyN mm z1 (xo, yo) k).2) fr tt (be, nx)).1 mt), wAr E (a 14) 102 (lyF (snp (dR s, dN0 s, mm, ss, kd, xo, yo, fr, tt, nm)) asd 0)]) (q0 := 0) X (c_X10_takes E a s mm ss kd ((rDyN mm z1 (xo, yo) k).1) ((rDyN mm z1 (xo, yo) k).2) fr tt nm (a 14) 102 (lyF (snp (dR s, dN0 s, mm, ss, kd, xo, yo, fr, tt, nm)) asd 0) 0 (dR s, dN0 s, mm, ss, kd, xo, yo, fr, tt, nm) (by first | assumption | omega | exact Nat.zero_le _) (by first | assumption | omega | exact Nat.zero_le _) (okSn_ly _ _ _)) cs_X10_125 rfl [0, 1, 2, 3, 4, 5, 6, 7, 8, 12] [9, 10, 11] 13 rfl rfl (by decide) [wAr E (a 15) 64 ((rBelAll (dR s) (dN0 s) mm ss kd ((rDyN mm z1 (xo, yo) k).1) ((rDyN mm z1 (xo, yo) k).2) fr tt (be, nx)).1), wAr E (a 16) 64 ((rBelAll (dR s) (dN0 s) mm ss kd ((rDyN mm z1 (xo, yo) k).1) ((rDyN mm z1 (xo, yo) k).2) fr tt (be, nx)).2), wAr E (a 17) 16 (rMts false (rBelAll (dR s) (dN0 s) mm ss kd ((rDyN mm z1 (xo, yo) k).1) ((rDyN mm z1 (xo, yo) k).2) fr tt (be, nx)).1 mt)] rfl rfl rfl rfl (by simp only [List.map_cons, List.map_nil, fsAn, fsAr, fsMd]) rfl rfl rfl rfl (Nat.le_of_ble_eq_true rfl) dX10_day_170 rfl ?_
                refine g_iload X 0 dX10_day_173 rfl ?_
                exact g_iretv (r := (nI (rTuS mm ((rDyN mm z1 (xo, yo) k).1) ((rDyN mm z1 (xo, yo) k).2) (rMts false (rBelAll (dR s) (dN0 s) mm ss kd ((rDyN mm z1 (xo, yo) k).1) ((rDyN mm z1 (xo, yo) k).2) fr tt (be, nx)).1 mt) 512))) X hx rfl (by rw [show n1 = k by omega] at c_18 ⊢; simp only [dayA, c_8, c_18, c_27, c_47, f_c_47, fn_c_47, c_148, nI_clamp (show z1 < 2 ^ 31 by omega), nI_clamp (show k < 2 ^ 31 by omega), decide_true, decide_false, not_true_eq_false, not_false_eq_true, Bool.true_and, Bool.false_and, Bool.and_true, Bool.and_false, Bool.true_or, Bool.false_or, Bool.or_true, Bool.or_false, and_true, true_and, and_false, false_and, or_true, true_or, or_false, false_or, if_true, if_false, Bool.false_eq_true, decide_eq_true_eq]) (by rw [show n1 = k by omega] at c_18 ⊢; simp only [dayA, c_8, c_18, c_27, c_47, f_c_47, fn_c_47, c_148, nI_clamp (show z1 < 2 ^ 31 by omega), nI_clamp (show k < 2 ^ 31 by omega), decide_true, decide_false, not_true_eq_false, not_false_eq_true, Bool.true_and, Bool.false_and, Bool.and_true, Bool.and_false, Bool.true_or, Bool.false_or, Bool.or_true, Bool.or_false, and_true, true_and, and_false, false_and, or_true, true_or, or_false, false_or, if_true, if_false, Bool.false_eq_true, decide_eq_true_eq]) dX10_day_175
              · subst c_148
                refine g_aload_n X 0 dX10_day_151 rfl ?_
                refine g_callVr (st2 := [.int (nI (rCnt (rMts false (rBelAll (dR s) (dN0 s) mm ss kd ((rDyN mm z1 (xo, yo) k).1) ((rDyN mm z1 (xo, yo) k).2) fr tt (be, nx)).1 mt) (mm 0)))]) (q0 := 0) X (c_X10_matchedMany E a s mm (rMts false (rBelAll (dR s) (dN0 s) mm ss kd ((rDyN mm z1 (xo, yo) k).1) ((rDyN mm z1 (xo, yo) k).2) fr tt (be, nx)).1 mt) (by first | assumption | omega | exact Nat.zero_le _)) cs_X10_216 rfl [0, 1, 11] [2, 3, 4, 5, 6, 7, 8, 9, 10, 12] 13 rfl (by decide) rfl rfl rfl rfl rfl (Nat.le_of_ble_eq_true rfl) dX10_day_152 rfl ?_
                refine g_goto (tgt := 162) X dX10_day_155 (by decide) ?_
                refine g_istore (lv' := [(4, .int (nI (rCnt (rMts false (rBelAll (dR s) (dN0 s) mm ss kd ((rDyN mm z1 (xo, yo) k).1) ((rDyN mm z1 (xo, yo) k).2) fr tt (be, nx)).1 mt) (mm 0)))), (0, .ref (a 0)), (1, .int (nI z1)), (2, .int (nI n1)), (3, .int 0)]) X dX10_day_162 (by decide) rfl ?_
                refine g_aload_n X 1 dX10_day_164 rfl ?_
                refine g_aload_n X 1 dX10_day_165 rfl ?_
                refine g_getf (v := .ref (a 14)) X fs_X10_47 0 rfl rfl dX10_day_166 ?_
                refine g_iconst (v := (nI 0)) X dX10_day_169 rfl ?_
                refine g_callV (st2 := []) (S' := [wMd E a ((dR s), (dN0 s), dU s, dK s, dP s, dX s, dY s, dS s, dA s, dQ s), wAn E (a 2) 2 (tkF mm mm 2), wAn E (a 3) 2 (tkF ss ss 2), wAr E (a 4) 16 (tkF kd kd 16), wAr E (a 5) 16 (tkF xo ((rDyN mm z1 (xo, yo) k).1) 16), wAr E (a 6) 16 (tkF yo ((rDyN mm z1 (xo, yo) k).2) 16), wAr E (a 7) 16 (tkF fr fr 16), wAr E (a 8) 16 (tkF tt tt 16), wAr E (a 9) 16 (tkF nm nm 16), wAr E (a 15) 64 ((rBelAll (dR s) (dN0 s) mm ss kd ((rDyN mm z1 (xo, yo) k).1) ((rDyN mm z1 (xo, yo) k).2) fr tt (be, nx)).1), wAr E (a 16) 64 ((rBelAll (dR s) (dN0 s) mm ss kd ((rDyN mm z1 (xo, yo) k).1) ((rDyN mm z1 (xo, yo) k).2) fr tt (be, nx)).2), wAr E (a 17) 16 (rMts false (rBelAll (dR s) (dN0 s) mm ss kd ((rDyN mm z1 (xo, yo) k).1) ((rDyN mm z1 (xo, yo) k).2) fr tt (be, nx)).1 mt), wAr E (a 14) 102 (lyF (snp (dR s, dN0 s, mm, ss, kd, xo, yo, fr, tt, nm)) asd 0)]) (q0 := 0) X (c_X10_takes E a s mm ss kd ((rDyN mm z1 (xo, yo) k).1) ((rDyN mm z1 (xo, yo) k).2) fr tt nm (a 14) 102 (lyF (snp (dR s, dN0 s, mm, ss, kd, xo, yo, fr, tt, nm)) asd 0) 0 (dR s, dN0 s, mm, ss, kd, xo, yo, fr, tt, nm) (by first | assumption | omega | exact Nat.zero_le _) (by first | assumption | omega | exact Nat.zero_le _) (okSn_ly _ _ _)) cs_X10_125 rfl [0, 1, 2, 3, 4, 5, 6, 7, 8, 12] [9, 10, 11] 13 rfl rfl (by decide) [wAr E (a 15) 64 ((rBelAll (dR s) (dN0 s) mm ss kd ((rDyN mm z1 (xo, yo) k).1) ((rDyN mm z1 (xo, yo) k).2) fr tt (be, nx)).1), wAr E (a 16) 64 ((rBelAll (dR s) (dN0 s) mm ss kd ((rDyN mm z1 (xo, yo) k).1) ((rDyN mm z1 (xo, yo) k).2) fr tt (be, nx)).2), wAr E (a 17) 16 (rMts false (rBelAll (dR s) (dN0 s) mm ss kd ((rDyN mm z1 (xo, yo) k).1) ((rDyN mm z1 (xo, yo) k).2) fr tt (be, nx)).1 mt)] rfl rfl rfl rfl (by simp only [List.map_cons, List.map_nil, fsAn, fsAr, fsMd]) rfl rfl rfl rfl (Nat.le_of_ble_eq_true rfl) dX10_day_170 rfl ?_
                refine g_iload X 0 dX10_day_173 rfl ?_
                exact g_iretv (r := (nI (rCnt (rMts false (rBelAll (dR s) (dN0 s) mm ss kd ((rDyN mm z1 (xo, yo) k).1) ((rDyN mm z1 (xo, yo) k).2) fr tt (be, nx)).1 mt) (mm 0)))) X hx rfl (by rw [show n1 = k by omega] at c_18 ⊢; simp only [dayA, c_8, c_18, c_27, c_47, f_c_47, fn_c_47, nI_clamp (show z1 < 2 ^ 31 by omega), nI_clamp (show k < 2 ^ 31 by omega), decide_true, decide_false, not_true_eq_false, not_false_eq_true, Bool.true_and, Bool.false_and, Bool.and_true, Bool.and_false, Bool.true_or, Bool.false_or, Bool.or_true, Bool.or_false, and_true, true_and, and_false, false_and, or_true, true_or, or_false, false_or, if_true, if_false, Bool.false_eq_true, decide_eq_true_eq]) (by rw [show n1 = k by omega] at c_18 ⊢; simp only [dayA, c_8, c_18, c_27, c_47, f_c_47, fn_c_47, nI_clamp (show z1 < 2 ^ 31 by omega), nI_clamp (show k < 2 ^ 31 by omega), decide_true, decide_false, not_true_eq_false, not_false_eq_true, Bool.true_and, Bool.false_and, Bool.and_true, Bool.and_false, Bool.true_or, Bool.false_or, Bool.or_true, Bool.or_false, and_true, true_and, and_false, false_and, or_true, true_or, or_false, false_or, if_true, if_false, Bool.false_eq_true, decide_eq_true_eq]) dX10_day_175
            · have f_c_47 : k < n1 := n_nle (by omega) (by omega) c_47
              have fn_c_47 := Nat.not_le.mpr f_c_47
              refine g_ldc2 (v := 7919) X dX10_day_50 ks_X10_232 ?_
              refine g_iload_n X 1 dX10_day_53 rfl ?_
              refine g_i2l X dX10_day_54 ?_
              refine g_lmul X dX10_day_55 ?_
              refine g_ldc2 (v := 6151) X dX10_day_56 ks_X10_234 ?_
              refine g_iload X 4 dX10_day_59 rfl ?_
              refine g_i2l X dX10_day_61 ?_
              refine g_lmul X dX10_day_62 ?_
              refine g_ladd X dX10_day_63 ?_
              refine g_lconst (v := 1) X dX10_day_64 rfl ?_
              refine g_ladd X dX10_day_65 ?_
              refine g_lstore (lv' := [(5, .long (((7919 * ((nI z1).toInt64)) + (6151 * ((nI k).toInt64))) + 1)), (0, .ref (a 0)), (1, .int (nI z1)), (2, .int (nI n1)), (3, .int q), (4, .int (nI k))]) X dX10_day_66 (by decide) rfl ?_
              refine g_lload X 0 dX10_day_68 rfl ?_
              refine g_lload X 0 dX10_day_70 rfl ?_
              refine g_lmul X dX10_day_72 ?_
              refine g_ldc2 (v := 65521) X dX10_day_73 ks_X10_236 ?_
              refine g_lrem X dX10_day_76 (by decide) ?_
              refine g_l2i X dX10_day_77 ?_
              rw [dN_eq (z := z1) (k := k) (by omega) (by omega) (x := ((7919 * (nI z1).toInt64) + (6151 * (nI k).toInt64)) + 1) (by rw [nI_l (by omega), nI_l (by omega), show (7919 : Int64) = lN 7919 from rfl, show (6151 : Int64) = lN 6151 from rfl, lN_mul, lN_mul, lN_add, lN_1])]
              have hd := dN_lt z1 k
              have hme := hmp (dN z1 k % 2) (Nat.mod_lt _ (by decide))
              have hm8 := hmm (dN z1 k % 2) (Nat.mod_lt _ (by decide))
              have hml := Nat.mod_lt (dN z1 k / 2) (show mm (dN z1 k % 2) > 0 by omega)
              refine g_istore (lv' := [(7, .int (nI (dN z1 k))), (5, .long (((7919 * ((nI z1).toInt64)) + (6151 * ((nI k).toInt64))) + 1)), (0, .ref (a 0)), (1, .int (nI z1)), (2, .int (nI n1)), (3, .int q), (4, .int (nI k))]) X dX10_day_78 (by decide) rfl ?_
              refine g_iload X 0 dX10_day_80 rfl ?_
              refine g_iconst (v := (nI 2)) X dX10_day_82 rfl ?_
              refine g_iremN X (by omega) (by omega) (by omega) dX10_day_83 ?_
              refine g_istore (lv' := [(8, .int (nI ((dN z1 k) % 2))), (7, .int (nI (dN z1 k))), (5, .long (((7919 * ((nI z1).toInt64)) + (6151 * ((nI k).toInt64))) + 1)), (0, .ref (a 0)), (1, .int (nI z1)), (2, .int (nI n1)), (3, .int q), (4, .int (nI k))]) X dX10_day_84 (by decide) rfl ?_
              refine g_bipush (v := (nI 8)) X dX10_day_86 rfl ?_
              refine g_iload X 0 dX10_day_88 rfl ?_
              refine g_imulN X dX10_day_90 ?_
              refine g_iload X 1 dX10_day_91 rfl ?_
              refine g_iconst (v := (nI 2)) X dX10_day_93 rfl ?_
              refine g_idivN X (by omega) (by omega) (by omega) dX10_day_94 ?_
              refine g_aload_n X 3 dX10_day_95 rfl ?_
              refine g_getf (v := .ref (a 2)) X fs_X10_16 0 rfl rfl dX10_day_96 ?_
              refine g_iload X 0 dX10_day_99 rfl ?_
              refine g_anld (f := mm) X 1 rfl ((dN z1 k) % 2) (ix_nI (by omega) (by decide)) dX10_day_101 ?_
              refine g_iremN X (by omega) (by omega) (by omega) dX10_day_102 ?_
              refine g_iaddN X dX10_day_103 ?_
              refine g_istore (lv' := [(9, .int (nI ((8 * ((dN z1 k) % 2)) + (((dN z1 k) / 2) % (mm ((dN z1 k) % 2)))))), (8, .int (nI ((dN z1 k) % 2))), (7, .int (nI (dN z1 k))), (5, .long (((7919 * ((nI z1).toInt64)) + (6151 * ((nI k).toInt64))) + 1)), (0, .ref (a 0)), (1, .int (nI z1)), (2, .int (nI n1)), (3, .int q), (4, .int (nI k))]) X dX10_day_104 (by decide) rfl ?_
              refine g_aload_n X 4 dX10_day_106 rfl ?_
              refine g_getf (v := .ref (a 5)) X fs_X10_26 0 rfl rfl dX10_day_107 ?_
              refine g_iload X 0 dX10_day_110 rfl ?_
              refine g_iload X 2 dX10_day_112 rfl ?_
              refine g_bipush (v := (nI 16)) X dX10_day_114 rfl ?_
              refine g_idivN X (by omega) (by omega) (by omega) dX10_day_116 ?_
              refine g_bipush (v := (nI 61)) X dX10_day_117 rfl ?_
              refine g_iremN X (by omega) (by omega) (by omega) dX10_day_119 ?_
              refine g_iast (ws' := [wMd E a s, wAn E (a 2) 2 mm, wAn E (a 3) 2 ss, wAr E (a 4) 16 kd, wAr E (a 5) 16 (upd ((rDyN mm z1 (xo, yo) k).1) ((8 * ((dN z1 k) % 2)) + (((dN z1 k) / 2) % (mm ((dN z1 k) % 2)))) (nI (((dN z1 k) / 16) % 61))), wAr E (a 6) 16 ((rDyN mm z1 (xo, yo) k).2), wAr E (a 7) 16 fr, wAr E (a 8) 16 tt, wAr E (a 9) 16 nm, wAr E (a 15) 64 be, wAr E (a 16) 64 nx, wAr E (a 17) 16 mt, wAr E (a 14) 102 (lyF (snp (dR s, dN0 s, mm, ss, kd, xo, yo, fr, tt, nm)) asd 0)].flatten) X 4 rfl ((8 * ((dN z1 k) % 2)) + (((dN z1 k) / 2) % (mm ((dN z1 k) % 2)))) (ix_nI (by omega) (by decide)) rfl dX10_day_120 ?_
              refine g_aload_n X 4 dX10_day_121 rfl ?_
              refine g_getf (v := .ref (a 6)) X fs_X10_29 0 rfl rfl dX10_day_122 ?_
              refine g_iload X 0 dX10_day_125 rfl ?_
              refine g_iload X 2 dX10_day_127 rfl ?_
              refine g_sipush (v := (nI 256)) X dX10_day_129 rfl ?_
              refine g_idivN X (by omega) (by omega) (by omega) dX10_day_132 ?_
              refine g_bipush (v := (nI 61)) X dX10_day_133 rfl ?_
              refine g_iremN X (by omega) (by omega) (by omega) dX10_day_135 ?_
              refine g_iast (ws' := [wMd E a s, wAn E (a 2) 2 mm, wAn E (a 3) 2 ss, wAr E (a 4) 16 kd, wAr E (a 5) 16 (upd ((rDyN mm z1 (xo, yo) k).1) ((8 * ((dN z1 k) % 2)) + (((dN z1 k) / 2) % (mm ((dN z1 k) % 2)))) (nI (((dN z1 k) / 16) % 61))), wAr E (a 6) 16 (upd ((rDyN mm z1 (xo, yo) k).2) ((8 * ((dN z1 k) % 2)) + (((dN z1 k) / 2) % (mm ((dN z1 k) % 2)))) (nI (((dN z1 k) / 256) % 61))), wAr E (a 7) 16 fr, wAr E (a 8) 16 tt, wAr E (a 9) 16 nm, wAr E (a 15) 64 be, wAr E (a 16) 64 nx, wAr E (a 17) 16 mt, wAr E (a 14) 102 (lyF (snp (dR s, dN0 s, mm, ss, kd, xo, yo, fr, tt, nm)) asd 0)].flatten) X 5 rfl ((8 * ((dN z1 k) % 2)) + (((dN z1 k) / 2) % (mm ((dN z1 k) % 2)))) (ix_nI (by omega) (by decide)) rfl dX10_day_136 ?_
              refine g_iincN (lv' := [(4, .int (nI (k + 1))), (9, .int (nI ((8 * ((dN z1 k) % 2)) + (((dN z1 k) / 2) % (mm ((dN z1 k) % 2)))))), (8, .int (nI ((dN z1 k) % 2))), (7, .int (nI (dN z1 k))), (5, .long (((7919 * ((nI z1).toInt64)) + (6151 * ((nI k).toInt64))) + 1)), (0, .ref (a 0)), (1, .int (nI z1)), (2, .int (nI n1)), (3, .int q)]) X 8 dX10_day_137 rfl (by decide) rfl ?_
              refine g_goto (tgt := 44) X dX10_day_140 (by decide) ?_
              refine GG.lv [5, 6, 7, 8, 0] rfl ?_
              exact ih_44 (k + 1) (by omega) (by omega) (nI (k + 1)) (by rfl) (upd ((rDyN mm z1 (xo, yo) k).1) ((8 * ((dN z1 k) % 2)) + (((dN z1 k) / 2) % (mm ((dN z1 k) % 2)))) (nI (((dN z1 k) / 16) % 61))) (by rfl) (upd ((rDyN mm z1 (xo, yo) k).2) ((8 * ((dN z1 k) % 2)) + (((dN z1 k) / 2) % (mm ((dN z1 k) % 2)))) (nI (((dN z1 k) / 256) % 61))) (by rfl)
        refine GG.lv [1, 2, 3, 4, 0] rfl ?_
        exact L_44 (n1 + 1) 0 (by omega) (by omega) (nI 0) (by rfl) xo (by rfl) yo (by rfl)
      · refine g_iconst (v := (-1)) X dX10_day_30 rfl ?_
        exact g_iretv (r := (-1)) X hx rfl (by simp only [dayA, c_8, c_18, c_27, decide_true, decide_false, not_true_eq_false, not_false_eq_true, Bool.true_and, Bool.false_and, Bool.and_true, Bool.and_false, Bool.true_or, Bool.false_or, Bool.or_true, Bool.or_false, and_true, true_and, and_false, false_and, or_true, true_or, or_false, false_or, if_true, if_false, Bool.false_eq_true, decide_eq_true_eq]) (by simp only [dayA, c_8, c_18, c_27, decide_true, decide_false, not_true_eq_false, not_false_eq_true, Bool.true_and, Bool.false_and, Bool.and_true, Bool.and_false, Bool.true_or, Bool.false_or, Bool.or_true, Bool.or_false, and_true, true_and, and_false, false_and, or_true, true_or, or_false, false_or, if_true, if_false, Bool.false_eq_true, decide_eq_true_eq]) dX10_day_31
