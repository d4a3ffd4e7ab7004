/-! ===== the law's own walk ===== -/
def m_L (nm : String) : MD := (⟨RL, nm, "([I)Z"⟩, cL_law, 23, ret, room_1)
abbrev GL (p : Program) (ev : Env) (s0 : State) (m : MethodId) (b : Nat) (below : List Frame) (meth : Method) (c : Code) : GC := (p, ev, s0, m, #[Value.ref b], below, meth, c, (fun q => s0.heap.size ≤ q), lw_Z below #[Value.ref b] s0)
section LAW
variable {E : GE} {nm0 : String} {p : Program} {ev : Env} {s0 : State} {m : MethodId} {b : Nat} {below : List Frame} {meth : Method} {c : Code} {O : Nat → Nat → Nat} {Q : Nat → Nat → Nat → Nat} {ad ae cells slots L : Nat} {xs : Nat → Int32} {v : TV} {w : TXT} {f : Nat → Int32} {oa : PO} {ok : PO} {ta : Nat → TV} {tk : Nat → TV} {d : Nat → Int32} {e : Nat → Int32}
set_option maxHeartbeats 4000000 in
set_option maxRecDepth 100000 in
theorem lw_s1 (X : CX E (m_L nm0) (GL p ev s0 m b below meth c)) (hX : SC (GL p ev s0 m b below meth c) b L xs) (hL : L < 2 ^ 31) (hcs : cells ≤ 600000 ∧ slots ≤ 7302250) {z : ScrT} (rd R0 : Nat) (hrd : rd < 6) (hd : DE v d e) (hR : tR v = nI R0) (hR1 : 1 ≤ R0) (hR2 : R0 ≤ 20) (k : ∀ z : ScrT, GG E (m_L nm0) (GL p ev s0 m b below meth c) cells slots (wL E O Q ad ae v w f oa ok ta tk d e z) [(0, .ref b), (1, .ref (O 0 0)), (2, .ref ad), (3, .ref ae), (4, .int (nI rd)), (5, .int (celV L xs (25 + rd))), (6, .int (nI (sM (tA v)))), (7, .int (nI (sM (tB v)))), (8, .int (nI (sS (tA v)))), (9, .int (nI oa.2)), (10, .int (nI R0)), (11, .int (nI 1)), (12, .int (nI (mtC (cM v) (sM (tA v))))), (13, .int (loneI (cM v) (sM (tA v))))] 521 []) : GG E (m_L nm0) (GL p ev s0 m b below meth c) cells slots (wL E O Q ad ae v w f oa ok ta tk d e z) [(0, .ref b), (1, .ref (O 0 0)), (2, .ref ad), (3, .ref ae), (4, .int (nI rd))] 40 [] := by
  have hv : okT v := hd.ok
  have h8a := hv.1.1
  have h8b := hv.2.1.1
  have h8s := hv.1.2
  have h8t := hv.2.1.2
  have h1a := hd.1.2.1
  have h1b := hd.1.2.2
  refine g_aload_n X 0 dL_law_40 rfl ?_
  refine g_bipush (v := (nI 25)) X dL_law_41 rfl ?_
  refine g_iload X 4 dL_law_43 rfl ?_
  refine g_iaddN X dL_law_45 ?_
  refine g_callXP (wc := []) (wr := wL E O Q ad ae v w f oa ok ta tk d e z) X hX (c_L_cell E b L xs hL (25 + rd) (by omega)) cs_L_21 rfl (List.Perm.refl _) rfl rfl (Nat.le_of_ble_eq_true rfl) dL_law_46 hcs (fun v0 w0 h0 => ?_)
  obtain ⟨rfl, rfl⟩ := h0
  refine GG.eq (ws' := wL E O Q ad ae v w f oa ok ta tk d e z) (st' := [.int (celV L xs (25 + rd))]) (List.append_nil _) rfl ?_
  refine g_istore (lv' := [(5, .int (celV L xs (25 + rd))), (0, .ref b), (1, .ref (O 0 0)), (2, .ref ad), (3, .ref ae), (4, .int (nI rd))]) X dL_law_49 (show 5 < 23 by decide) rfl ?_
  refine g_aload_n X 2 dL_law_51 rfl ?_
  refine g_iconst (v := (nI 0)) X dL_law_52 rfl ?_
  refine k_count X cs_L_47 rfl (Nat.le_of_ble_eq_true rfl) dL_law_53 ?_ hcs
  rw [cq_0]
  refine g_istore (lv' := [(6, .int (nI (sM (tA v)))), (5, .int (celV L xs (25 + rd))), (0, .ref b), (1, .ref (O 0 0)), (2, .ref ad), (3, .ref ae), (4, .int (nI rd))]) X dL_law_56 (show 6 < 23 by decide) rfl ?_
  refine g_aload_n X 3 dL_law_58 rfl ?_
  refine g_iconst (v := (nI 1)) X dL_law_59 rfl ?_
  refine k_count X cs_L_47 rfl (Nat.le_of_ble_eq_true rfl) dL_law_60 ?_ hcs
  rw [cq_1]
  refine g_istore (lv' := [(7, .int (nI (sM (tB v)))), (6, .int (nI (sM (tA v)))), (5, .int (celV L xs (25 + rd))), (0, .ref b), (1, .ref (O 0 0)), (2, .ref ad), (3, .ref ae), (4, .int (nI rd))]) X dL_law_63 (show 7 < 23 by decide) rfl ?_
  refine g_aload_n X 4 dL_law_65 rfl ?_
  refine g_iconst (v := (nI 2)) X dL_law_66 rfl ?_
  refine k_count X cs_L_47 rfl (Nat.le_of_ble_eq_true rfl) dL_law_67 ?_ hcs
  rw [cq_2]
  refine g_istore (lv' := [(8, .int (nI (sS (tA v)))), (7, .int (nI (sM (tB v)))), (6, .int (nI (sM (tA v)))), (5, .int (celV L xs (25 + rd))), (0, .ref b), (1, .ref (O 0 0)), (2, .ref ad), (3, .ref ae), (4, .int (nI rd))]) X dL_law_70 (show 8 < 23 by decide) rfl ?_
  refine g_aload_n X 5 dL_law_72 rfl ?_
  refine g_bipush (v := (nI 6)) X dL_law_73 rfl ?_
  refine k_count X cs_L_47 rfl (Nat.le_of_ble_eq_true rfl) dL_law_75 ?_ hcs
  rw [cq_6]
  refine g_istore (lv' := [(9, .int (nI oa.2)), (8, .int (nI (sS (tA v)))), (7, .int (nI (sM (tB v)))), (6, .int (nI (sM (tA v)))), (5, .int (celV L xs (25 + rd))), (0, .ref b), (1, .ref (O 0 0)), (2, .ref ad), (3, .ref ae), (4, .int (nI rd))]) X dL_law_78 (show 9 < 23 by decide) rfl ?_
  refine g_aload_n X 6 dL_law_80 rfl ?_
  refine g_iconst (v := (nI 4)) X dL_law_81 rfl ?_
  refine k_count X cs_L_47 rfl (Nat.le_of_ble_eq_true rfl) dL_law_82 ?_ hcs
  rw [cq_4, hR]
  refine g_istore (lv' := [(10, .int (nI R0)), (9, .int (nI oa.2)), (8, .int (nI (sS (tA v)))), (7, .int (nI (sM (tB v)))), (6, .int (nI (sM (tA v)))), (5, .int (celV L xs (25 + rd))), (0, .ref b), (1, .ref (O 0 0)), (2, .ref ad), (3, .ref ae), (4, .int (nI rd))]) X dL_law_85 (show 10 < 23 by decide) rfl ?_
  refine g_iload X 4 dL_law_87 rfl ?_
  refine g_if_le (tgt := 110) X dL_law_89 (by decide) (fun c_89 => by exfalso; have f_ : sM (tA v) ≤ 0 := n_le (by omega) (by omega) c_89; omega) (fun c_89 => ?_)
  refine g_iload X 3 dL_law_92 rfl ?_
  refine g_if_le (tgt := 110) X dL_law_94 (by decide) (fun c_94 => by exfalso; have f_ : sM (tB v) ≤ 0 := n_le (by omega) (by omega) c_94; omega) (fun c_94 => ?_)
  refine g_aload_n X 7 dL_law_97 rfl ?_
  refine g_aload_n X 8 dL_law_98 rfl ?_
  refine g_aload_n X 9 dL_law_99 rfl ?_
  refine k_alike X hd cs_L_95 rfl (Nat.le_of_ble_eq_true rfl) dL_law_100 ?_ hcs
  rw [show b2i true = nI 1 from rfl]
  refine g_if_eq (tgt := 110) X dL_law_103 (by decide) (fun c_103 => absurd c_103 (by decide)) (fun c_103 => ?_)
  refine g_iconst (v := (nI 1)) X dL_law_106 rfl ?_
  refine g_goto (tgt := 111) X dL_law_107 (by decide) ?_
  refine g_istore (lv' := [(11, .int (nI 1)), (10, .int (nI R0)), (9, .int (nI oa.2)), (8, .int (nI (sS (tA v)))), (7, .int (nI (sM (tB v)))), (6, .int (nI (sM (tA v)))), (5, .int (celV L xs (25 + rd))), (0, .ref b), (1, .ref (O 0 0)), (2, .ref ad), (3, .ref ae), (4, .int (nI rd))]) X dL_law_111 (show 11 < 23 by decide) rfl ?_
  refine g_iconst (v := (nI 0)) X dL_law_113 rfl ?_
  refine g_istore (lv' := [(12, .int (nI 0)), (11, .int (nI 1)), (10, .int (nI R0)), (9, .int (nI oa.2)), (8, .int (nI (sS (tA v)))), (7, .int (nI (sM (tB v)))), (6, .int (nI (sM (tA v)))), (5, .int (celV L xs (25 + rd))), (0, .ref b), (1, .ref (O 0 0)), (2, .ref ad), (3, .ref ae), (4, .int (nI rd))]) X dL_law_114 (show 12 < 23 by decide) rfl ?_
  refine g_iconst (v := (nI 0)) X dL_law_116 rfl ?_
  refine g_istore (lv' := [(13, .int (nI 0)), (12, .int (nI 0)), (11, .int (nI 1)), (10, .int (nI R0)), (9, .int (nI oa.2)), (8, .int (nI (sS (tA v)))), (7, .int (nI (sM (tB v)))), (6, .int (nI (sM (tA v)))), (5, .int (celV L xs (25 + rd))), (0, .ref b), (1, .ref (O 0 0)), (2, .ref ad), (3, .ref ae), (4, .int (nI rd))]) X dL_law_117 (show 13 < 23 by decide) rfl ?_
  refine g_iconst (v := (nI 0)) X dL_law_119 rfl ?_
  refine g_istore (lv' := [(14, .int (nI 0)), (13, .int (nI 0)), (12, .int (nI 0)), (11, .int (nI 1)), (10, .int (nI R0)), (9, .int (nI oa.2)), (8, .int (nI (sS (tA v)))), (7, .int (nI (sM (tB v)))), (6, .int (nI (sM (tA v)))), (5, .int (celV L xs (25 + rd))), (0, .ref b), (1, .ref (O 0 0)), (2, .ref ad), (3, .ref ae), (4, .int (nI rd))]) X dL_law_120 (show 14 < 23 by decide) rfl ?_
  have L_122 : ∀ (n_122 : Nat) (i : Nat) (z : ScrT) (hi : i ≤ sM (tA v)) (hm_122 : sM (tA v) - i < n_122) (x_12 : Int32) (ex_12 : x_12 = (nI (mtC (cM v) i))) (x_13 : Int32) (ex_13 : x_13 = (loneI (cM v) i)) (x_14 : Int32) (ex_14 : x_14 = (nI i)), GG E (m_L nm0) (GL p ev s0 m b below meth c) cells slots (wL E O Q ad ae v w f oa ok ta tk d e z) [(0, .ref b), (1, .ref (O 0 0)), (2, .ref ad), (3, .ref ae), (4, .int (nI rd)), (5, .int (celV L xs (25 + rd))), (6, .int (nI (sM (tA v)))), (7, .int (nI (sM (tB v)))), (8, .int (nI (sS (tA v)))), (9, .int (nI oa.2)), (10, .int (nI R0)), (11, .int (nI 1)), (12, .int x_12), (13, .int x_13), (14, .int x_14)] 122 [] := by
    intro n_122
    induction n_122 with
    | zero => intro i z hi hm_122; exact absurd hm_122 (Nat.not_lt_zero _)
    | succ n_122 ih_122 =>
      intro i z hi hm_122 x_12 ex_12 x_13 ex_13 x_14 ex_14
      subst ex_12
      subst ex_13
      subst ex_14
      refine g_iload X 14 dL_law_122 rfl ?_
      refine g_iload X 6 dL_law_124 rfl ?_
      refine g_icmp_ge (tgt := 521) X dL_law_126 (by decide) (fun c_126 => ?_) (fun c_126 => ?_)
      · have f_c_126 : sM (tA v) ≤ i := n_le (by omega) (by omega) c_126
        have fn_c_126 := Nat.not_lt.mpr f_c_126
        obtain rfl : i = sM (tA v) := by omega
        refine GG.lv [0, 1, 2, 3, 4, 5, 6, 7, 8, 9, 10, 11, 12, 13] rfl ?_
        exact k z 
      · have f_c_126 : i < sM (tA v) := n_nle (by omega) (by omega) c_126
        have fn_c_126 := Nat.not_le.mpr f_c_126
        refine g_aload_n X 1 dL_law_129 rfl ?_
        refine g_iconst (v := (nI 0)) X dL_law_130 rfl ?_
        refine g_iload X 14 dL_law_131 rfl ?_
        refine k_match X hd.rv cs_L_99 rfl (Nat.le_of_ble_eq_true rfl) dL_law_133 (fun z => ?_) hcs
        rcases mt_or hd.rv (show i < sM (tA v) by omega) with ⟨e0, f0⟩ | ⟨j, hj, e0, f0, e1, g1, c1, hc1, hc2, e2⟩
        · rw [e0]
          refine g_istore (lv' := [(15, .int (-4)), (0, .ref b), (1, .ref (O 0 0)), (2, .ref ad), (3, .ref ae), (4, .int (nI rd)), (5, .int (celV L xs (25 + rd))), (6, .int (nI (sM (tA v)))), (7, .int (nI (sM (tB v)))), (8, .int (nI (sS (tA v)))), (9, .int (nI oa.2)), (10, .int (nI R0)), (11, .int (nI 1)), (12, .int (nI (mtC (cM v) i))), (13, .int (loneI (cM v) i)), (14, .int (nI i))]) X dL_law_136 (show 15 < 23 by decide) rfl ?_
          refine g_iload X 13 dL_law_138 rfl ?_
          refine g_iload X 0 dL_law_140 rfl ?_
          refine g_if_lt (tgt := 149) X dL_law_142 (by decide) (fun c_142 => ?_) (fun c_142 => absurd (by decide) c_142)
          refine g_iconst (v := (nI 0)) X dL_law_149 rfl ?_
          refine g_iaddN X dL_law_150 ?_
          refine g_istore (lv' := [(12, .int (nI ((mtC (cM v) i) + 0))), (15, .int (-4)), (0, .ref b), (1, .ref (O 0 0)), (2, .ref ad), (3, .ref ae), (4, .int (nI rd)), (5, .int (celV L xs (25 + rd))), (6, .int (nI (sM (tA v)))), (7, .int (nI (sM (tB v)))), (8, .int (nI (sS (tA v)))), (9, .int (nI oa.2)), (10, .int (nI R0)), (11, .int (nI 1)), (13, .int (loneI (cM v) i)), (14, .int (nI i))]) X dL_law_151 (show 12 < 23 by decide) rfl ?_
          refine g_iload X 14 dL_law_153 rfl ?_
          refine g_iload X 1 dL_law_155 rfl ?_
          refine g_if_lt (tgt := 164) X dL_law_157 (by decide) (fun c_157 => ?_) (fun c_157 => absurd (by decide) c_157)
          refine g_iconst (v := (nI 1)) X dL_law_164 rfl ?_
          refine g_iload X 15 dL_law_165 rfl ?_
          refine g_ishl X dL_law_167 ?_
          refine g_ior X dL_law_168 ?_
          refine g_istore (lv' := [(13, .int ((loneI (cM v) i) ||| ((nI 1) <<< ((nI i) &&& 31)))), (12, .int (nI ((mtC (cM v) i) + 0))), (15, .int (-4)), (0, .ref b), (1, .ref (O 0 0)), (2, .ref ad), (3, .ref ae), (4, .int (nI rd)), (5, .int (celV L xs (25 + rd))), (6, .int (nI (sM (tA v)))), (7, .int (nI (sM (tB v)))), (8, .int (nI (sS (tA v)))), (9, .int (nI oa.2)), (10, .int (nI R0)), (11, .int (nI 1)), (14, .int (nI i))]) X dL_law_169 (show 13 < 23 by decide) rfl ?_
          refine g_iload X 14 dL_law_171 rfl ?_
          refine g_if_eq (tgt := 249) X dL_law_173 (by decide) (fun c_173 => absurd c_173 (by decide)) (fun c_173 => ?_)
          refine g_aload_n X 4 dL_law_176 rfl ?_
          refine g_iconst (v := (nI 0)) X dL_law_177 rfl ?_
          refine g_iload X 15 dL_law_178 rfl ?_
          refine g_iconst (v := (nI 3)) X dL_law_180 rfl ?_
          refine k_meeting X hv cs_L_50 rfl (Nat.le_of_ble_eq_true rfl) dL_law_181 ?_ hcs
          rw [me3 hd.rv (by decide) (show i < sM (tA v) by omega)]
          have hz0 := (zRe_eq hd.rv 0 i).2
          refine g_if_lt (tgt := 249) X dL_law_184 (by decide) (fun c_184 => absurd c_184 (nI_pos (by omega))) (fun c_184 => ?_)
          refine g_aload_n X 4 dL_law_187 rfl ?_
          refine g_iconst (v := (nI 0)) X dL_law_188 rfl ?_
          refine g_iload X 15 dL_law_189 rfl ?_
          refine g_iconst (v := (nI 3)) X dL_law_191 rfl ?_
          refine k_meeting X hv cs_L_50 rfl (Nat.le_of_ble_eq_true rfl) dL_law_192 ?_ hcs
          rw [me3 hd.rv (by decide) (show i < sM (tA v) by omega)]
          refine g_bipush (v := (nI 20)) X dL_law_195 rfl ?_
          refine g_icmp_gt (tgt := 249) X dL_law_197 (by decide) (fun c_197 => by exfalso; have f_ : 20 < zRe v 0 i := n_lt (by omega) (by omega) c_197; omega) (fun c_197 => ?_)
          refine g_iload X 2 dL_law_200 rfl ?_
          refine g_if_ge (tgt := 215) X dL_law_202 (by decide) (fun c_202 => absurd c_202 (by decide)) (fun c_202 => ?_)
          refine g_iload X 2 dL_law_205 rfl ?_
          refine g_bipush (v := (-4)) X dL_law_207 rfl ?_
          refine g_icmp_ne (tgt := 249) X dL_law_209 (by decide) (fun c_209 => absurd (by decide) c_209) (fun c_209 => ?_)
          refine g_goto (tgt := 245) X dL_law_212 (by decide) ?_
          refine g_iconst (v := (nI 1)) X dL_law_245 rfl ?_
          refine g_goto (tgt := 250) X dL_law_246 (by decide) ?_
          refine g_istore (lv' := [(11, .int (nI 1)), (13, .int ((loneI (cM v) i) ||| ((nI 1) <<< ((nI i) &&& 31)))), (12, .int (nI ((mtC (cM v) i) + 0))), (15, .int (-4)), (0, .ref b), (1, .ref (O 0 0)), (2, .ref ad), (3, .ref ae), (4, .int (nI rd)), (5, .int (celV L xs (25 + rd))), (6, .int (nI (sM (tA v)))), (7, .int (nI (sM (tB v)))), (8, .int (nI (sS (tA v)))), (9, .int (nI oa.2)), (10, .int (nI R0)), (14, .int (nI i))]) X dL_law_250 (show 11 < 23 by decide) rfl ?_
          refine g_iconst (v := (nI 0)) X dL_law_252 rfl ?_
          refine g_istore (lv' := [(16, .int (nI 0)), (11, .int (nI 1)), (13, .int ((loneI (cM v) i) ||| ((nI 1) <<< ((nI i) &&& 31)))), (12, .int (nI ((mtC (cM v) i) + 0))), (15, .int (-4)), (0, .ref b), (1, .ref (O 0 0)), (2, .ref ad), (3, .ref ae), (4, .int (nI rd)), (5, .int (celV L xs (25 + rd))), (6, .int (nI (sM (tA v)))), (7, .int (nI (sM (tB v)))), (8, .int (nI (sS (tA v)))), (9, .int (nI oa.2)), (10, .int (nI R0)), (14, .int (nI i))]) X dL_law_253 (show 16 < 23 by decide) rfl ?_
          have L_255 : ∀ (n_255 : Nat) (k : Nat) (z : ScrT) (hk : k ≤ sM (tB v)) (hm_255 : sM (tB v) - k < n_255) (x_16 : Int32) (ex_16 : x_16 = (nI k)), GG E (m_L nm0) (GL p ev s0 m b below meth c) cells slots (wL E O Q ad ae v w f oa ok ta tk d e z) [(0, .ref b), (1, .ref (O 0 0)), (2, .ref ad), (3, .ref ae), (4, .int (nI rd)), (5, .int (celV L xs (25 + rd))), (6, .int (nI (sM (tA v)))), (7, .int (nI (sM (tB v)))), (8, .int (nI (sS (tA v)))), (9, .int (nI oa.2)), (10, .int (nI R0)), (11, .int (nI 1)), (12, .int (nI ((mtC (cM v) i) + 0))), (13, .int ((loneI (cM v) i) ||| ((nI 1) <<< ((nI i) &&& 31)))), (14, .int (nI i)), (15, .int (-4)), (16, .int x_16)] 255 [] := by
            intro n_255
            induction n_255 with
            | zero => intro k z hk hm_255; exact absurd hm_255 (Nat.not_lt_zero _)
            | succ n_255 ih_255 =>
              intro k z hk hm_255 x_16 ex_16
              subst ex_16
              refine g_iload X 16 dL_law_255 rfl ?_
              refine g_iload X 7 dL_law_257 rfl ?_
              refine g_icmp_ge (tgt := 399) X dL_law_259 (by decide) (fun c_259 => ?_) (fun c_259 => ?_)
              · have f_c_259 : sM (tB v) ≤ k := n_le (by omega) (by omega) c_259
                have fn_c_259 := Nat.not_lt.mpr f_c_259
                refine g_iload X 15 dL_law_399 rfl ?_
                refine g_if_lt (tgt := 483) X dL_law_401 (by decide) (fun c_401 => ?_) (fun c_401 => absurd (by decide) c_401)
                refine g_iload X 11 dL_law_483 rfl ?_
                refine g_if_eq (tgt := 512) X dL_law_485 (by decide) (fun c_485 => absurd c_485 (by decide)) (fun c_485 => ?_)
                refine g_aload_n X 1 dL_law_488 rfl ?_
                refine g_iload X 14 dL_law_489 rfl ?_
                refine g_iconst (v := (nI 1)) X dL_law_491 rfl ?_
                refine k_comes X hd.rv cs_L_105 rfl (Nat.le_of_ble_eq_true rfl) dL_law_492 (fun z => ?_) hcs
                obtain ⟨⟨n1, p1, p2, en1⟩, ⟨n3, p3, p4, en3⟩⟩ := com_pos hd.rv (show i < sM (tA v) by omega)
                rw [en1]
                refine g_if_le (tgt := 512) X dL_law_495 (by decide) (fun c_495 => by exfalso; have f_ : n1 ≤ 0 := n_le (by omega) (by omega) c_495; omega) (fun c_495 => ?_)
                refine g_aload_n X 1 dL_law_498 rfl ?_
                refine g_iload X 14 dL_law_499 rfl ?_
                refine g_iconst (v := (nI 3)) X dL_law_501 rfl ?_
                refine k_comes X hd.rv cs_L_105 rfl (Nat.le_of_ble_eq_true rfl) dL_law_502 (fun z => ?_) hcs
                rw [en3]
                refine g_if_le (tgt := 512) X dL_law_505 (by decide) (fun c_505 => by exfalso; have f_ : n3 ≤ 0 := n_le (by omega) (by omega) c_505; omega) (fun c_505 => ?_)
                refine g_iconst (v := (nI 1)) X dL_law_508 rfl ?_
                refine g_goto (tgt := 513) X dL_law_509 (by decide) ?_
                refine g_istore (lv' := [(11, .int (nI 1)), (0, .ref b), (1, .ref (O 0 0)), (2, .ref ad), (3, .ref ae), (4, .int (nI rd)), (5, .int (celV L xs (25 + rd))), (6, .int (nI (sM (tA v)))), (7, .int (nI (sM (tB v)))), (8, .int (nI (sS (tA v)))), (9, .int (nI oa.2)), (10, .int (nI R0)), (12, .int (nI ((mtC (cM v) i) + 0))), (13, .int ((loneI (cM v) i) ||| ((nI 1) <<< ((nI i) &&& 31)))), (14, .int (nI i)), (15, .int (-4)), (16, .int (nI k))]) X dL_law_513 (show 11 < 23 by decide) rfl ?_
                refine g_iincN (lv' := [(14, .int (nI (i + 1))), (11, .int (nI 1)), (0, .ref b), (1, .ref (O 0 0)), (2, .ref ad), (3, .ref ae), (4, .int (nI rd)), (5, .int (celV L xs (25 + rd))), (6, .int (nI (sM (tA v)))), (7, .int (nI (sM (tB v)))), (8, .int (nI (sS (tA v)))), (9, .int (nI oa.2)), (10, .int (nI R0)), (12, .int (nI ((mtC (cM v) i) + 0))), (13, .int ((loneI (cM v) i) ||| ((nI 1) <<< ((nI i) &&& 31)))), (15, .int (-4)), (16, .int (nI k))]) X 14 dL_law_515 rfl (show 14 < 23 by decide) rfl ?_
                refine g_goto (tgt := 122) X dL_law_518 (by decide) ?_
                refine GG.lv [2, 3, 4, 5, 6, 7, 8, 9, 10, 11, 12, 1, 13, 14, 0] rfl ?_
                exact ih_122 (i + 1) z (by omega) (by omega) (nI ((mtC (cM v) i) + 0)) (by exact mtC_f f0) ((loneI (cM v) i) ||| ((nI 1) <<< ((nI i) &&& 31))) (by exact lone_t (by omega) f0) (nI (i + 1)) (by rfl)
              · have f_c_259 : k < sM (tB v) := n_nle (by omega) (by omega) c_259
                have fn_c_259 := Nat.not_le.mpr f_c_259
                refine g_aload_n X 1 dL_law_262 rfl ?_
                refine g_iload X 14 dL_law_263 rfl ?_
                refine g_iload X 16 dL_law_265 rfl ?_
                refine k_belief X hd.rv cs_L_102 rfl (Nat.le_of_ble_eq_true rfl) dL_law_267 (fun z => ?_) hcs
                obtain ⟨r, dd, r1, r2, hdd, eR, eD, hbe⟩ := be_or hd.rv (show i < sM (tA v) by omega) (show k < sM (tB v) by omega)
                rcases hbe with ⟨b0, bz, bl⟩ | ⟨cb, cb1, cb2, b0, bc, bl, -⟩
                · rw [b0]
                  refine g_istore (lv' := [(17, .int (-4)), (0, .ref b), (1, .ref (O 0 0)), (2, .ref ad), (3, .ref ae), (4, .int (nI rd)), (5, .int (celV L xs (25 + rd))), (6, .int (nI (sM (tA v)))), (7, .int (nI (sM (tB v)))), (8, .int (nI (sS (tA v)))), (9, .int (nI oa.2)), (10, .int (nI R0)), (11, .int (nI 1)), (12, .int (nI ((mtC (cM v) i) + 0))), (13, .int ((loneI (cM v) i) ||| ((nI 1) <<< ((nI i) &&& 31)))), (14, .int (nI i)), (15, .int (-4)), (16, .int (nI k))]) X dL_law_270 (show 17 < 23 by decide) rfl ?_
                  refine g_aload_n X 2 dL_law_272 rfl ?_
                  refine g_iconst (v := (nI 0)) X dL_law_273 rfl ?_
                  refine g_iload X 15 dL_law_274 rfl ?_
                  refine g_iconst (v := (nI 3)) X dL_law_276 rfl ?_
                  refine k_meeting X hv cs_L_50 rfl (Nat.le_of_ble_eq_true rfl) dL_law_277 ?_ hcs
                  rw [me3 hd.rv (by decide) (show i < sM (tA v) by omega)]
                  refine g_istore (lv' := [(18, .int (nI (zRe v 0 i))), (17, .int (-4)), (0, .ref b), (1, .ref (O 0 0)), (2, .ref ad), (3, .ref ae), (4, .int (nI rd)), (5, .int (celV L xs (25 + rd))), (6, .int (nI (sM (tA v)))), (7, .int (nI (sM (tB v)))), (8, .int (nI (sS (tA v)))), (9, .int (nI oa.2)), (10, .int (nI R0)), (11, .int (nI 1)), (12, .int (nI ((mtC (cM v) i) + 0))), (13, .int ((loneI (cM v) i) ||| ((nI 1) <<< ((nI i) &&& 31)))), (14, .int (nI i)), (15, .int (-4)), (16, .int (nI k))]) X dL_law_280 (show 18 < 23 by decide) rfl ?_
                  refine g_aload_n X 3 dL_law_282 rfl ?_
                  refine g_iconst (v := (nI 1)) X dL_law_283 rfl ?_
                  refine g_iload X 18 dL_law_284 rfl ?_
                  refine g_iconst (v := (nI 3)) X dL_law_286 rfl ?_
                  refine k_meeting X hv cs_L_50 rfl (Nat.le_of_ble_eq_true rfl) dL_law_287 ?_ hcs
                  rw [me3 hd.rv (by decide) (show k < sM (tB v) by omega)]
                  have hz1 := (zRe_eq hd.rv 1 k).2
                  refine g_istore (lv' := [(19, .int (nI (zRe v 1 k))), (18, .int (nI (zRe v 0 i))), (17, .int (-4)), (0, .ref b), (1, .ref (O 0 0)), (2, .ref ad), (3, .ref ae), (4, .int (nI rd)), (5, .int (celV L xs (25 + rd))), (6, .int (nI (sM (tA v)))), (7, .int (nI (sM (tB v)))), (8, .int (nI (sS (tA v)))), (9, .int (nI oa.2)), (10, .int (nI R0)), (11, .int (nI 1)), (12, .int (nI ((mtC (cM v) i) + 0))), (13, .int ((loneI (cM v) i) ||| ((nI 1) <<< ((nI i) &&& 31)))), (14, .int (nI i)), (15, .int (-4)), (16, .int (nI k))]) X dL_law_290 (show 19 < 23 by decide) rfl ?_
                  refine g_iload X 1 dL_law_292 rfl ?_
                  refine g_iload X 0 dL_law_294 rfl ?_
                  refine g_icmp_ge (tgt := 304) X dL_law_296 (by decide) (fun c_296 => ?_) (fun c_296 => ?_)
                  · have f_c_296 : zRe v 1 k ≤ zRe v 0 i := n_le (by omega) (by omega) c_296
                    have fn_c_296 := Nat.not_lt.mpr f_c_296
                    refine g_iload X 0 dL_law_304 rfl ?_
                    have hLm : min (zRe v 0 i) (zRe v 1 k) = zRe v 1 k := by omega
                    rw [hLm] at bl
                    have hLL : zRe v 1 k * zRe v 1 k ≤ 400 := Nat.le_trans (Nat.mul_le_mul (show zRe v 1 k ≤ 20 by omega) (show zRe v 1 k ≤ 20 by omega)) (by decide)
                    refine g_istore (lv' := [(20, .int (nI (zRe v 1 k))), (19, .int (nI (zRe v 1 k))), (18, .int (nI (zRe v 0 i))), (17, .int (-4)), (0, .ref b), (1, .ref (O 0 0)), (2, .ref ad), (3, .ref ae), (4, .int (nI rd)), (5, .int (celV L xs (25 + rd))), (6, .int (nI (sM (tA v)))), (7, .int (nI (sM (tB v)))), (8, .int (nI (sS (tA v)))), (9, .int (nI oa.2)), (10, .int (nI R0)), (11, .int (nI 1)), (12, .int (nI ((mtC (cM v) i) + 0))), (13, .int ((loneI (cM v) i) ||| ((nI 1) <<< ((nI i) &&& 31)))), (14, .int (nI i)), (15, .int (-4)), (16, .int (nI k))]) X dL_law_306 (show 20 < 23 by decide) rfl ?_
                    refine g_iload X 15 dL_law_308 rfl ?_
                    refine g_if_eq (tgt := 390) X dL_law_310 (by decide) (fun c_310 => absurd c_310 (by decide)) (fun c_310 => ?_)
                    refine g_iload X 3 dL_law_313 rfl ?_
                    refine g_bipush (v := (-4)) X dL_law_315 rfl ?_
                    refine g_icmp_ne (tgt := 324) X dL_law_317 (by decide) (fun c_317 => absurd (by decide) c_317) (fun c_317 => ?_)
                    refine g_iconst (v := (nI 1)) X dL_law_320 rfl ?_
                    refine g_goto (tgt := 325) X dL_law_321 (by decide) ?_
                    refine g_aload_n X 6 dL_law_325 rfl ?_
                    refine g_iload X 18 dL_law_326 rfl ?_
                    refine g_bipush (v := (nI 8)) X dL_law_328 rfl ?_
                    refine g_iload X 20 dL_law_330 rfl ?_
                    refine g_iaddN X dL_law_332 ?_
                    refine k_distance X (a := i) (b := 8 + k) (by omega) (by omega) cs_L_86 rfl (Nat.le_of_ble_eq_true rfl) dL_law_333 ?_ hcs
                    rw [(dis_eq hd (show i < sM (tA v) by omega) (show k < sM (tB v) by omega)).trans eD]
                    refine g_iload X 0 dL_law_336 rfl ?_
                    refine g_iload X 0 dL_law_338 rfl ?_
                    refine g_imulN X dL_law_340 ?_
                    refine g_icmp_le (tgt := 348) X dL_law_341 (by decide) (fun c_341 => by exfalso; have f_ : dd ≤ (zRe v 1 k) * (zRe v 1 k) := n_le (by omega) (by omega) c_341; omega) (fun c_341 => ?_)
                    refine g_iconst (v := (nI 1)) X dL_law_344 rfl ?_
                    refine g_goto (tgt := 349) X dL_law_345 (by decide) ?_
                    refine g_icmp_ne (tgt := 390) X dL_law_349 (by decide) (fun c_349 => absurd (by decide) c_349) (fun c_349 => ?_)
                    refine g_iload X 3 dL_law_352 rfl ?_
                    refine g_bipush (v := (-4)) X dL_law_354 rfl ?_
                    refine g_icmp_eq (tgt := 364) X dL_law_356 (by decide) (fun c_356 => ?_) (fun c_356 => absurd (by decide) c_356)
                    refine g_iload X 3 dL_law_364 rfl ?_
                    refine g_bipush (v := (-4)) X dL_law_366 rfl ?_
                    refine g_icmp_eq (tgt := 386) X dL_law_368 (by decide) (fun c_368 => ?_) (fun c_368 => absurd (by decide) c_368)
                    refine g_iconst (v := (nI 1)) X dL_law_386 rfl ?_
                    refine g_goto (tgt := 391) X dL_law_387 (by decide) ?_
                    refine g_istore (lv' := [(11, .int (nI 1)), (20, .int (nI (zRe v 1 k))), (19, .int (nI (zRe v 1 k))), (18, .int (nI (zRe v 0 i))), (17, .int (-4)), (0, .ref b), (1, .ref (O 0 0)), (2, .ref ad), (3, .ref ae), (4, .int (nI rd)), (5, .int (celV L xs (25 + rd))), (6, .int (nI (sM (tA v)))), (7, .int (nI (sM (tB v)))), (8, .int (nI (sS (tA v)))), (9, .int (nI oa.2)), (10, .int (nI R0)), (12, .int (nI ((mtC (cM v) i) + 0))), (13, .int ((loneI (cM v) i) ||| ((nI 1) <<< ((nI i) &&& 31)))), (14, .int (nI i)), (15, .int (-4)), (16, .int (nI k))]) X dL_law_391 (show 11 < 23 by decide) rfl ?_
                    refine g_iincN (lv' := [(16, .int (nI (k + 1))), (11, .int (nI 1)), (20, .int (nI (zRe v 1 k))), (19, .int (nI (zRe v 1 k))), (18, .int (nI (zRe v 0 i))), (17, .int (-4)), (0, .ref b), (1, .ref (O 0 0)), (2, .ref ad), (3, .ref ae), (4, .int (nI rd)), (5, .int (celV L xs (25 + rd))), (6, .int (nI (sM (tA v)))), (7, .int (nI (sM (tB v)))), (8, .int (nI (sS (tA v)))), (9, .int (nI oa.2)), (10, .int (nI R0)), (12, .int (nI ((mtC (cM v) i) + 0))), (13, .int ((loneI (cM v) i) ||| ((nI 1) <<< ((nI i) &&& 31)))), (14, .int (nI i)), (15, .int (-4))]) X 20 dL_law_393 rfl (show 16 < 23 by decide) rfl ?_
                    refine g_goto (tgt := 255) X dL_law_396 (by decide) ?_
                    refine GG.lv [6, 7, 8, 9, 10, 11, 12, 13, 14, 15, 16, 1, 17, 18, 19, 20, 0] rfl ?_
                    exact ih_255 (k + 1) z (by omega) (by omega) (nI (k + 1)) (by rfl)
                  · have f_c_296 : zRe v 0 i < zRe v 1 k := n_nle (by omega) (by omega) c_296
                    have fn_c_296 := Nat.not_le.mpr f_c_296
                    refine g_iload X 1 dL_law_299 rfl ?_
                    refine g_goto (tgt := 306) X dL_law_301 (by decide) ?_
                    have hLm : min (zRe v 0 i) (zRe v 1 k) = zRe v 0 i := by omega
                    rw [hLm] at bl
                    have hLL : zRe v 0 i * zRe v 0 i ≤ 400 := Nat.le_trans (Nat.mul_le_mul (show zRe v 0 i ≤ 20 by omega) (show zRe v 0 i ≤ 20 by omega)) (by decide)
                    refine g_istore (lv' := [(20, .int (nI (zRe v 0 i))), (19, .int (nI (zRe v 1 k))), (18, .int (nI (zRe v 0 i))), (17, .int (-4)), (0, .ref b), (1, .ref (O 0 0)), (2, .ref ad), (3, .ref ae), (4, .int (nI rd)), (5, .int (celV L xs (25 + rd))), (6, .int (nI (sM (tA v)))), (7, .int (nI (sM (tB v)))), (8, .int (nI (sS (tA v)))), (9, .int (nI oa.2)), (10, .int (nI R0)), (11, .int (nI 1)), (12, .int (nI ((mtC (cM v) i) + 0))), (13, .int ((loneI (cM v) i) ||| ((nI 1) <<< ((nI i) &&& 31)))), (14, .int (nI i)), (15, .int (-4)), (16, .int (nI k))]) X dL_law_306 (show 20 < 23 by decide) rfl ?_
                    refine g_iload X 15 dL_law_308 rfl ?_
                    refine g_if_eq (tgt := 390) X dL_law_310 (by decide) (fun c_310 => absurd c_310 (by decide)) (fun c_310 => ?_)
                    refine g_iload X 3 dL_law_313 rfl ?_
                    refine g_bipush (v := (-4)) X dL_law_315 rfl ?_
                    refine g_icmp_ne (tgt := 324) X dL_law_317 (by decide) (fun c_317 => absurd (by decide) c_317) (fun c_317 => ?_)
                    refine g_iconst (v := (nI 1)) X dL_law_320 rfl ?_
                    refine g_goto (tgt := 325) X dL_law_321 (by decide) ?_
                    refine g_aload_n X 6 dL_law_325 rfl ?_
                    refine g_iload X 18 dL_law_326 rfl ?_
                    refine g_bipush (v := (nI 8)) X dL_law_328 rfl ?_
                    refine g_iload X 20 dL_law_330 rfl ?_
                    refine g_iaddN X dL_law_332 ?_
                    refine k_distance X (a := i) (b := 8 + k) (by omega) (by omega) cs_L_86 rfl (Nat.le_of_ble_eq_true rfl) dL_law_333 ?_ hcs
                    rw [(dis_eq hd (show i < sM (tA v) by omega) (show k < sM (tB v) by omega)).trans eD]
                    refine g_iload X 0 dL_law_336 rfl ?_
                    refine g_iload X 0 dL_law_338 rfl ?_
                    refine g_imulN X dL_law_340 ?_
                    refine g_icmp_le (tgt := 348) X dL_law_341 (by decide) (fun c_341 => by exfalso; have f_ : dd ≤ (zRe v 0 i) * (zRe v 0 i) := n_le (by omega) (by omega) c_341; omega) (fun c_341 => ?_)
                    refine g_iconst (v := (nI 1)) X dL_law_344 rfl ?_
                    refine g_goto (tgt := 349) X dL_law_345 (by decide) ?_
                    refine g_icmp_ne (tgt := 390) X dL_law_349 (by decide) (fun c_349 => absurd (by decide) c_349) (fun c_349 => ?_)
                    refine g_iload X 3 dL_law_352 rfl ?_
                    refine g_bipush (v := (-4)) X dL_law_354 rfl ?_
                    refine g_icmp_eq (tgt := 364) X dL_law_356 (by decide) (fun c_356 => ?_) (fun c_356 => absurd (by decide) c_356)
                    refine g_iload X 3 dL_law_364 rfl ?_
                    refine g_bipush (v := (-4)) X dL_law_366 rfl ?_
                    refine g_icmp_eq (tgt := 386) X dL_law_368 (by decide) (fun c_368 => ?_) (fun c_368 => absurd (by decide) c_368)
                    refine g_iconst (v := (nI 1)) X dL_law_386 rfl ?_
                    refine g_goto (tgt := 391) X dL_law_387 (by decide) ?_
                    refine g_istore (lv' := [(11, .int (nI 1)), (20, .int (nI (zRe v 0 i))), (19, .int (nI (zRe v 1 k))), (18, .int (nI (zRe v 0 i))), (17, .int (-4)), (0, .ref b), (1, .ref (O 0 0)), (2, .ref ad), (3, .ref ae), (4, .int (nI rd)), (5, .int (celV L xs (25 + rd))), (6, .int (nI (sM (tA v)))), (7, .int (nI (sM (tB v)))), (8, .int (nI (sS (tA v)))), (9, .int (nI oa.2)), (10, .int (nI R0)), (12, .int (nI ((mtC (cM v) i) + 0))), (13, .int ((loneI (cM v) i) ||| ((nI 1) <<< ((nI i) &&& 31)))), (14, .int (nI i)), (15, .int (-4)), (16, .int (nI k))]) X dL_law_391 (show 11 < 23 by decide) rfl ?_
                    refine g_iincN (lv' := [(16, .int (nI (k + 1))), (11, .int (nI 1)), (20, .int (nI (zRe v 0 i))), (19, .int (nI (zRe v 1 k))), (18, .int (nI (zRe v 0 i))), (17, .int (-4)), (0, .ref b), (1, .ref (O 0 0)), (2, .ref ad), (3, .ref ae), (4, .int (nI rd)), (5, .int (celV L xs (25 + rd))), (6, .int (nI (sM (tA v)))), (7, .int (nI (sM (tB v)))), (8, .int (nI (sS (tA v)))), (9, .int (nI oa.2)), (10, .int (nI R0)), (12, .int (nI ((mtC (cM v) i) + 0))), (13, .int ((loneI (cM v) i) ||| ((nI 1) <<< ((nI i) &&& 31)))), (14, .int (nI i)), (15, .int (-4))]) X 20 dL_law_393 rfl (show 16 < 23 by decide) rfl ?_
                    refine g_goto (tgt := 255) X dL_law_396 (by decide) ?_
                    refine GG.lv [6, 7, 8, 9, 10, 11, 12, 13, 14, 15, 16, 1, 17, 18, 19, 20, 0] rfl ?_
                    exact ih_255 (k + 1) z (by omega) (by omega) (nI (k + 1)) (by rfl)
                · rw [b0]
                  refine g_istore (lv' := [(17, .int (nI cb)), (0, .ref b), (1, .ref (O 0 0)), (2, .ref ad), (3, .ref ae), (4, .int (nI rd)), (5, .int (celV L xs (25 + rd))), (6, .int (nI (sM (tA v)))), (7, .int (nI (sM (tB v)))), (8, .int (nI (sS (tA v)))), (9, .int (nI oa.2)), (10, .int (nI R0)), (11, .int (nI 1)), (12, .int (nI ((mtC (cM v) i) + 0))), (13, .int ((loneI (cM v) i) ||| ((nI 1) <<< ((nI i) &&& 31)))), (14, .int (nI i)), (15, .int (-4)), (16, .int (nI k))]) X dL_law_270 (show 17 < 23 by decide) rfl ?_
                  refine g_aload_n X 2 dL_law_272 rfl ?_
                  refine g_iconst (v := (nI 0)) X dL_law_273 rfl ?_
                  refine g_iload X 15 dL_law_274 rfl ?_
                  refine g_iconst (v := (nI 3)) X dL_law_276 rfl ?_
                  refine k_meeting X hv cs_L_50 rfl (Nat.le_of_ble_eq_true rfl) dL_law_277 ?_ hcs
                  rw [me3 hd.rv (by decide) (show i < sM (tA v) by omega)]
                  refine g_istore (lv' := [(18, .int (nI (zRe v 0 i))), (17, .int (nI cb)), (0, .ref b), (1, .ref (O 0 0)), (2, .ref ad), (3, .ref ae), (4, .int (nI rd)), (5, .int (celV L xs (25 + rd))), (6, .int (nI (sM (tA v)))), (7, .int (nI (sM (tB v)))), (8, .int (nI (sS (tA v)))), (9, .int (nI oa.2)), (10, .int (nI R0)), (11, .int (nI 1)), (12, .int (nI ((mtC (cM v) i) + 0))), (13, .int ((loneI (cM v) i) ||| ((nI 1) <<< ((nI i) &&& 31)))), (14, .int (nI i)), (15, .int (-4)), (16, .int (nI k))]) X dL_law_280 (show 18 < 23 by decide) rfl ?_
                  refine g_aload_n X 3 dL_law_282 rfl ?_
                  refine g_iconst (v := (nI 1)) X dL_law_283 rfl ?_
                  refine g_iload X 18 dL_law_284 rfl ?_
                  refine g_iconst (v := (nI 3)) X dL_law_286 rfl ?_
                  refine k_meeting X hv cs_L_50 rfl (Nat.le_of_ble_eq_true rfl) dL_law_287 ?_ hcs
                  rw [me3 hd.rv (by decide) (show k < sM (tB v) by omega)]
                  have hz1 := (zRe_eq hd.rv 1 k).2
                  refine g_istore (lv' := [(19, .int (nI (zRe v 1 k))), (18, .int (nI (zRe v 0 i))), (17, .int (nI cb)), (0, .ref b), (1, .ref (O 0 0)), (2, .ref ad), (3, .ref ae), (4, .int (nI rd)), (5, .int (celV L xs (25 + rd))), (6, .int (nI (sM (tA v)))), (7, .int (nI (sM (tB v)))), (8, .int (nI (sS (tA v)))), (9, .int (nI oa.2)), (10, .int (nI R0)), (11, .int (nI 1)), (12, .int (nI ((mtC (cM v) i) + 0))), (13, .int ((loneI (cM v) i) ||| ((nI 1) <<< ((nI i) &&& 31)))), (14, .int (nI i)), (15, .int (-4)), (16, .int (nI k))]) X dL_law_290 (show 19 < 23 by decide) rfl ?_
                  refine g_iload X 1 dL_law_292 rfl ?_
                  refine g_iload X 0 dL_law_294 rfl ?_
                  refine g_icmp_ge (tgt := 304) X dL_law_296 (by decide) (fun c_296 => ?_) (fun c_296 => ?_)
                  · have f_c_296 : zRe v 1 k ≤ zRe v 0 i := n_le (by omega) (by omega) c_296
                    have fn_c_296 := Nat.not_lt.mpr f_c_296
                    refine g_iload X 0 dL_law_304 rfl ?_
                    have hLm : min (zRe v 0 i) (zRe v 1 k) = zRe v 1 k := by omega
                    rw [hLm] at bl
                    have hLL : zRe v 1 k * zRe v 1 k ≤ 400 := Nat.le_trans (Nat.mul_le_mul (show zRe v 1 k ≤ 20 by omega) (show zRe v 1 k ≤ 20 by omega)) (by decide)
                    refine g_istore (lv' := [(20, .int (nI (zRe v 1 k))), (19, .int (nI (zRe v 1 k))), (18, .int (nI (zRe v 0 i))), (17, .int (nI cb)), (0, .ref b), (1, .ref (O 0 0)), (2, .ref ad), (3, .ref ae), (4, .int (nI rd)), (5, .int (celV L xs (25 + rd))), (6, .int (nI (sM (tA v)))), (7, .int (nI (sM (tB v)))), (8, .int (nI (sS (tA v)))), (9, .int (nI oa.2)), (10, .int (nI R0)), (11, .int (nI 1)), (12, .int (nI ((mtC (cM v) i) + 0))), (13, .int ((loneI (cM v) i) ||| ((nI 1) <<< ((nI i) &&& 31)))), (14, .int (nI i)), (15, .int (-4)), (16, .int (nI k))]) X dL_law_306 (show 20 < 23 by decide) rfl ?_
                    refine g_iload X 15 dL_law_308 rfl ?_
                    refine g_if_eq (tgt := 390) X dL_law_310 (by decide) (fun c_310 => absurd c_310 (by decide)) (fun c_310 => ?_)
                    refine g_iload X 3 dL_law_313 rfl ?_
                    refine g_bipush (v := (-4)) X dL_law_315 rfl ?_
                    refine g_icmp_ne (tgt := 324) X dL_law_317 (by decide) (fun c_317 => ?_) (fun c_317 => absurd c_317 (ng_eq (by omega) (by decide)))
                    refine g_iconst (v := (nI 0)) X dL_law_324 rfl ?_
                    refine g_aload_n X 6 dL_law_325 rfl ?_
                    refine g_iload X 18 dL_law_326 rfl ?_
                    refine g_bipush (v := (nI 8)) X dL_law_328 rfl ?_
                    refine g_iload X 20 dL_law_330 rfl ?_
                    refine g_iaddN X dL_law_332 ?_
                    refine k_distance X (a := i) (b := 8 + k) (by omega) (by omega) cs_L_86 rfl (Nat.le_of_ble_eq_true rfl) dL_law_333 ?_ hcs
                    rw [(dis_eq hd (show i < sM (tA v) by omega) (show k < sM (tB v) by omega)).trans eD]
                    refine g_iload X 0 dL_law_336 rfl ?_
                    refine g_iload X 0 dL_law_338 rfl ?_
                    refine g_imulN X dL_law_340 ?_
                    refine g_icmp_le (tgt := 348) X dL_law_341 (by decide) (fun c_341 => ?_) (fun c_341 => by exfalso; have f_ : (zRe v 1 k) * (zRe v 1 k) < dd := n_nle (by omega) (by omega) c_341; omega)
                    refine g_iconst (v := (nI 0)) X dL_law_348 rfl ?_
                    refine g_icmp_ne (tgt := 390) X dL_law_349 (by decide) (fun c_349 => absurd (by decide) c_349) (fun c_349 => ?_)
                    refine g_iload X 3 dL_law_352 rfl ?_
                    refine g_bipush (v := (-4)) X dL_law_354 rfl ?_
                    refine g_icmp_eq (tgt := 364) X dL_law_356 (by decide) (fun c_356 => absurd c_356 (ng_eq (by omega) (by decide))) (fun c_356 => ?_)
                    refine g_iload X 3 dL_law_359 rfl ?_
                    refine g_if_le (tgt := 390) X dL_law_361 (by decide) (fun c_361 => by exfalso; have f_ : cb ≤ 0 := n_le (by omega) (by omega) c_361; omega) (fun c_361 => ?_)
                    refine g_iload X 3 dL_law_364 rfl ?_
                    refine g_bipush (v := (-4)) X dL_law_366 rfl ?_
                    refine g_icmp_eq (tgt := 386) X dL_law_368 (by decide) (fun c_368 => absurd c_368 (ng_eq (by omega) (by decide))) (fun c_368 => ?_)
                    refine g_iload X 19 dL_law_371 rfl ?_
                    refine g_if_ge (tgt := 386) X dL_law_373 (by decide) (fun c_373 => absurd c_373 (by decide)) (fun c_373 => ?_)
                    refine g_aload_n X 5 dL_law_376 rfl ?_
                    refine g_iconst (v := (nI 1)) X dL_law_377 rfl ?_
                    refine g_iload X 20 dL_law_378 rfl ?_
                    refine k_match X hd.rv cs_L_99 rfl (Nat.le_of_ble_eq_true rfl) dL_law_380 (fun z => ?_) hcs
                    rcases nt_or hd.rv (show k < sM (tB v) by omega) with ⟨q0, q1⟩ | ⟨i2, hi2, q0, q1⟩
                    · exact absurd (cM_max (show i < 8 by omega) (show k < 8 by omega) f0 q1) (by rw [show (mkB v p00).1 i k = nI cb from bc]; exact nI_nle (by omega) (by omega))
                    · rw [q0]
                      refine g_if_lt (tgt := 390) X dL_law_383 (by decide) (fun c_383 => absurd c_383 (nI_pos (by omega))) (fun c_383 => ?_)
                      refine g_iconst (v := (nI 1)) X dL_law_386 rfl ?_
                      refine g_goto (tgt := 391) X dL_law_387 (by decide) ?_
                      refine g_istore (lv' := [(11, .int (nI 1)), (20, .int (nI (zRe v 1 k))), (19, .int (nI (zRe v 1 k))), (18, .int (nI (zRe v 0 i))), (17, .int (nI cb)), (0, .ref b), (1, .ref (O 0 0)), (2, .ref ad), (3, .ref ae), (4, .int (nI rd)), (5, .int (celV L xs (25 + rd))), (6, .int (nI (sM (tA v)))), (7, .int (nI (sM (tB v)))), (8, .int (nI (sS (tA v)))), (9, .int (nI oa.2)), (10, .int (nI R0)), (12, .int (nI ((mtC (cM v) i) + 0))), (13, .int ((loneI (cM v) i) ||| ((nI 1) <<< ((nI i) &&& 31)))), (14, .int (nI i)), (15, .int (-4)), (16, .int (nI k))]) X dL_law_391 (show 11 < 23 by decide) rfl ?_
                      refine g_iincN (lv' := [(16, .int (nI (k + 1))), (11, .int (nI 1)), (20, .int (nI (zRe v 1 k))), (19, .int (nI (zRe v 1 k))), (18, .int (nI (zRe v 0 i))), (17, .int (nI cb)), (0, .ref b), (1, .ref (O 0 0)), (2, .ref ad), (3, .ref ae), (4, .int (nI rd)), (5, .int (celV L xs (25 + rd))), (6, .int (nI (sM (tA v)))), (7, .int (nI (sM (tB v)))), (8, .int (nI (sS (tA v)))), (9, .int (nI oa.2)), (10, .int (nI R0)), (12, .int (nI ((mtC (cM v) i) + 0))), (13, .int ((loneI (cM v) i) ||| ((nI 1) <<< ((nI i) &&& 31)))), (14, .int (nI i)), (15, .int (-4))]) X 20 dL_law_393 rfl (show 16 < 23 by decide) rfl ?_
                      refine g_goto (tgt := 255) X dL_law_396 (by decide) ?_
                      refine GG.lv [6, 7, 8, 9, 10, 11, 12, 13, 14, 15, 16, 1, 17, 18, 19, 20, 0] rfl ?_
                      exact ih_255 (k + 1) z (by omega) (by omega) (nI (k + 1)) (by rfl)
                  · have f_c_296 : zRe v 0 i < zRe v 1 k := n_nle (by omega) (by omega) c_296
                    have fn_c_296 := Nat.not_le.mpr f_c_296
                    refine g_iload X 1 dL_law_299 rfl ?_
                    refine g_goto (tgt := 306) X dL_law_301 (by decide) ?_
                    have hLm : min (zRe v 0 i) (zRe v 1 k) = zRe v 0 i := by omega
                    rw [hLm] at bl
                    have hLL : zRe v 0 i * zRe v 0 i ≤ 400 := Nat.le_trans (Nat.mul_le_mul (show zRe v 0 i ≤ 20 by omega) (show zRe v 0 i ≤ 20 by omega)) (by decide)
                    refine g_istore (lv' := [(20, .int (nI (zRe v 0 i))), (19, .int (nI (zRe v 1 k))), (18, .int (nI (zRe v 0 i))), (17, .int (nI cb)), (0, .ref b), (1, .ref (O 0 0)), (2, .ref ad), (3, .ref ae), (4, .int (nI rd)), (5, .int (celV L xs (25 + rd))), (6, .int (nI (sM (tA v)))), (7, .int (nI (sM (tB v)))), (8, .int (nI (sS (tA v)))), (9, .int (nI oa.2)), (10, .int (nI R0)), (11, .int (nI 1)), (12, .int (nI ((mtC (cM v) i) + 0))), (13, .int ((loneI (cM v) i) ||| ((nI 1) <<< ((nI i) &&& 31)))), (14, .int (nI i)), (15, .int (-4)), (16, .int (nI k))]) X dL_law_306 (show 20 < 23 by decide) rfl ?_
                    refine g_iload X 15 dL_law_308 rfl ?_
                    refine g_if_eq (tgt := 390) X dL_law_310 (by decide) (fun c_310 => absurd c_310 (by decide)) (fun c_310 => ?_)
                    refine g_iload X 3 dL_law_313 rfl ?_
                    refine g_bipush (v := (-4)) X dL_law_315 rfl ?_
                    refine g_icmp_ne (tgt := 324) X dL_law_317 (by decide) (fun c_317 => ?_) (fun c_317 => absurd c_317 (ng_eq (by omega) (by decide)))
                    refine g_iconst (v := (nI 0)) X dL_law_324 rfl ?_
                    refine g_aload_n X 6 dL_law_325 rfl ?_
                    refine g_iload X 18 dL_law_326 rfl ?_
                    refine g_bipush (v := (nI 8)) X dL_law_328 rfl ?_
                    refine g_iload X 20 dL_law_330 rfl ?_
                    refine g_iaddN X dL_law_332 ?_
                    refine k_distance X (a := i) (b := 8 + k) (by omega) (by omega) cs_L_86 rfl (Nat.le_of_ble_eq_true rfl) dL_law_333 ?_ hcs
                    rw [(dis_eq hd (show i < sM (tA v) by omega) (show k < sM (tB v) by omega)).trans eD]
                    refine g_iload X 0 dL_law_336 rfl ?_
                    refine g_iload X 0 dL_law_338 rfl ?_
                    refine g_imulN X dL_law_340 ?_
                    refine g_icmp_le (tgt := 348) X dL_law_341 (by decide) (fun c_341 => ?_) (fun c_341 => by exfalso; have f_ : (zRe v 0 i) * (zRe v 0 i) < dd := n_nle (by omega) (by omega) c_341; omega)
                    refine g_iconst (v := (nI 0)) X dL_law_348 rfl ?_
                    refine g_icmp_ne (tgt := 390) X dL_law_349 (by decide) (fun c_349 => absurd (by decide) c_349) (fun c_349 => ?_)
                    refine g_iload X 3 dL_law_352 rfl ?_
                    refine g_bipush (v := (-4)) X dL_law_354 rfl ?_
                    refine g_icmp_eq (tgt := 364) X dL_law_356 (by decide) (fun c_356 => absurd c_356 (ng_eq (by omega) (by decide))) (fun c_356 => ?_)
                    refine g_iload X 3 dL_law_359 rfl ?_
                    refine g_if_le (tgt := 390) X dL_law_361 (by decide) (fun c_361 => by exfalso; have f_ : cb ≤ 0 := n_le (by omega) (by omega) c_361; omega) (fun c_361 => ?_)
                    refine g_iload X 3 dL_law_364 rfl ?_
                    refine g_bipush (v := (-4)) X dL_law_366 rfl ?_
                    refine g_icmp_eq (tgt := 386) X dL_law_368 (by decide) (fun c_368 => absurd c_368 (ng_eq (by omega) (by decide))) (fun c_368 => ?_)
                    refine g_iload X 19 dL_law_371 rfl ?_
                    refine g_if_ge (tgt := 386) X dL_law_373 (by decide) (fun c_373 => absurd c_373 (by decide)) (fun c_373 => ?_)
                    refine g_aload_n X 5 dL_law_376 rfl ?_
                    refine g_iconst (v := (nI 1)) X dL_law_377 rfl ?_
                    refine g_iload X 20 dL_law_378 rfl ?_
                    refine k_match X hd.rv cs_L_99 rfl (Nat.le_of_ble_eq_true rfl) dL_law_380 (fun z => ?_) hcs
                    rcases nt_or hd.rv (show k < sM (tB v) by omega) with ⟨q0, q1⟩ | ⟨i2, hi2, q0, q1⟩
                    · exact absurd (cM_max (show i < 8 by omega) (show k < 8 by omega) f0 q1) (by rw [show (mkB v p00).1 i k = nI cb from bc]; exact nI_nle (by omega) (by omega))
                    · rw [q0]
                      refine g_if_lt (tgt := 390) X dL_law_383 (by decide) (fun c_383 => absurd c_383 (nI_pos (by omega))) (fun c_383 => ?_)
                      refine g_iconst (v := (nI 1)) X dL_law_386 rfl ?_
                      refine g_goto (tgt := 391) X dL_law_387 (by decide) ?_
                      refine g_istore (lv' := [(11, .int (nI 1)), (20, .int (nI (zRe v 0 i))), (19, .int (nI (zRe v 1 k))), (18, .int (nI (zRe v 0 i))), (17, .int (nI cb)), (0, .ref b), (1, .ref (O 0 0)), (2, .ref ad), (3, .ref ae), (4, .int (nI rd)), (5, .int (celV L xs (25 + rd))), (6, .int (nI (sM (tA v)))), (7, .int (nI (sM (tB v)))), (8, .int (nI (sS (tA v)))), (9, .int (nI oa.2)), (10, .int (nI R0)), (12, .int (nI ((mtC (cM v) i) + 0))), (13, .int ((loneI (cM v) i) ||| ((nI 1) <<< ((nI i) &&& 31)))), (14, .int (nI i)), (15, .int (-4)), (16, .int (nI k))]) X dL_law_391 (show 11 < 23 by decide) rfl ?_
                      refine g_iincN (lv' := [(16, .int (nI (k + 1))), (11, .int (nI 1)), (20, .int (nI (zRe v 0 i))), (19, .int (nI (zRe v 1 k))), (18, .int (nI (zRe v 0 i))), (17, .int (nI cb)), (0, .ref b), (1, .ref (O 0 0)), (2, .ref ad), (3, .ref ae), (4, .int (nI rd)), (5, .int (celV L xs (25 + rd))), (6, .int (nI (sM (tA v)))), (7, .int (nI (sM (tB v)))), (8, .int (nI (sS (tA v)))), (9, .int (nI oa.2)), (10, .int (nI R0)), (12, .int (nI ((mtC (cM v) i) + 0))), (13, .int ((loneI (cM v) i) ||| ((nI 1) <<< ((nI i) &&& 31)))), (14, .int (nI i)), (15, .int (-4))]) X 20 dL_law_393 rfl (show 16 < 23 by decide) rfl ?_
                      refine g_goto (tgt := 255) X dL_law_396 (by decide) ?_
                      refine GG.lv [6, 7, 8, 9, 10, 11, 12, 13, 14, 15, 16, 1, 17, 18, 19, 20, 0] rfl ?_
                      exact ih_255 (k + 1) z (by omega) (by omega) (nI (k + 1)) (by rfl)
          refine GG.lv [5, 6, 7, 8, 9, 10, 11, 12, 13, 14, 15, 1, 3, 2, 16, 4, 0] rfl ?_
          exact L_255 (sM (tB v) + 1) 0 z (by omega) (by omega) (nI 0) (by rfl)
        · rw [e0]
          refine g_istore (lv' := [(15, .int (nI j)), (0, .ref b), (1, .ref (O 0 0)), (2, .ref ad), (3, .ref ae), (4, .int (nI rd)), (5, .int (celV L xs (25 + rd))), (6, .int (nI (sM (tA v)))), (7, .int (nI (sM (tB v)))), (8, .int (nI (sS (tA v)))), (9, .int (nI oa.2)), (10, .int (nI R0)), (11, .int (nI 1)), (12, .int (nI (mtC (cM v) i))), (13, .int (loneI (cM v) i)), (14, .int (nI i))]) X dL_law_136 (show 15 < 23 by decide) rfl ?_
          refine g_iload X 13 dL_law_138 rfl ?_
          refine g_iload X 0 dL_law_140 rfl ?_
          refine g_if_lt (tgt := 149) X dL_law_142 (by decide) (fun c_142 => absurd c_142 (nI_pos (by omega))) (fun c_142 => ?_)
          refine g_iconst (v := (nI 1)) X dL_law_145 rfl ?_
          refine g_goto (tgt := 150) X dL_law_146 (by decide) ?_
          refine g_iaddN X dL_law_150 ?_
          refine g_istore (lv' := [(12, .int (nI ((mtC (cM v) i) + 1))), (15, .int (nI j)), (0, .ref b), (1, .ref (O 0 0)), (2, .ref ad), (3, .ref ae), (4, .int (nI rd)), (5, .int (celV L xs (25 + rd))), (6, .int (nI (sM (tA v)))), (7, .int (nI (sM (tB v)))), (8, .int (nI (sS (tA v)))), (9, .int (nI oa.2)), (10, .int (nI R0)), (11, .int (nI 1)), (13, .int (loneI (cM v) i)), (14, .int (nI i))]) X dL_law_151 (show 12 < 23 by decide) rfl ?_
          refine g_iload X 14 dL_law_153 rfl ?_
          refine g_iload X 1 dL_law_155 rfl ?_
          refine g_if_lt (tgt := 164) X dL_law_157 (by decide) (fun c_157 => absurd c_157 (nI_pos (by omega))) (fun c_157 => ?_)
          refine g_iconst (v := (nI 0)) X dL_law_160 rfl ?_
          refine g_goto (tgt := 168) X dL_law_161 (by decide) ?_
          refine g_ior X dL_law_168 ?_
          refine g_istore (lv' := [(13, .int ((loneI (cM v) i) ||| (nI 0))), (12, .int (nI ((mtC (cM v) i) + 1))), (15, .int (nI j)), (0, .ref b), (1, .ref (O 0 0)), (2, .ref ad), (3, .ref ae), (4, .int (nI rd)), (5, .int (celV L xs (25 + rd))), (6, .int (nI (sM (tA v)))), (7, .int (nI (sM (tB v)))), (8, .int (nI (sS (tA v)))), (9, .int (nI oa.2)), (10, .int (nI R0)), (11, .int (nI 1)), (14, .int (nI i))]) X dL_law_169 (show 13 < 23 by decide) rfl ?_
          refine g_iload X 14 dL_law_171 rfl ?_
          refine g_if_eq (tgt := 249) X dL_law_173 (by decide) (fun c_173 => absurd c_173 (by decide)) (fun c_173 => ?_)
          refine g_aload_n X 4 dL_law_176 rfl ?_
          refine g_iconst (v := (nI 0)) X dL_law_177 rfl ?_
          refine g_iload X 15 dL_law_178 rfl ?_
          refine g_iconst (v := (nI 3)) X dL_law_180 rfl ?_
          refine k_meeting X hv cs_L_50 rfl (Nat.le_of_ble_eq_true rfl) dL_law_181 ?_ hcs
          rw [me3 hd.rv (by decide) (show i < sM (tA v) by omega)]
          have hz0 := (zRe_eq hd.rv 0 i).2
          refine g_if_lt (tgt := 249) X dL_law_184 (by decide) (fun c_184 => absurd c_184 (nI_pos (by omega))) (fun c_184 => ?_)
          refine g_aload_n X 4 dL_law_187 rfl ?_
          refine g_iconst (v := (nI 0)) X dL_law_188 rfl ?_
          refine g_iload X 15 dL_law_189 rfl ?_
          refine g_iconst (v := (nI 3)) X dL_law_191 rfl ?_
          refine k_meeting X hv cs_L_50 rfl (Nat.le_of_ble_eq_true rfl) dL_law_192 ?_ hcs
          rw [me3 hd.rv (by decide) (show i < sM (tA v) by omega)]
          refine g_bipush (v := (nI 20)) X dL_law_195 rfl ?_
          refine g_icmp_gt (tgt := 249) X dL_law_197 (by decide) (fun c_197 => by exfalso; have f_ : 20 < zRe v 0 i := n_lt (by omega) (by omega) c_197; omega) (fun c_197 => ?_)
          refine g_iload X 2 dL_law_200 rfl ?_
          refine g_if_ge (tgt := 215) X dL_law_202 (by decide) (fun c_202 => ?_) (fun c_202 => absurd (nI_pos' (by omega)) c_202)
          refine g_iload X 2 dL_law_215 rfl ?_
          refine g_iload X 10 dL_law_217 rfl ?_
          refine g_icmp_ge (tgt := 249) X dL_law_219 (by decide) (fun c_219 => by exfalso; have f_ : sM (tB v) ≤ j := n_le (by omega) (by omega) c_219; omega) (fun c_219 => ?_)
          refine g_aload_n X 4 dL_law_222 rfl ?_
          refine g_iconst (v := (nI 1)) X dL_law_223 rfl ?_
          refine g_iload X 2 dL_law_224 rfl ?_
          refine k_match X hd.rv cs_L_99 rfl (Nat.le_of_ble_eq_true rfl) dL_law_226 (fun z => ?_) hcs
          rw [e1]
          refine g_iload X 15 dL_law_229 rfl ?_
          refine g_icmp_ne (tgt := 249) X dL_law_231 (by decide) (fun c_231 => absurd rfl c_231) (fun c_231 => ?_)
          refine g_aload_n X 4 dL_law_234 rfl ?_
          refine g_iload X 15 dL_law_235 rfl ?_
          refine g_iload X 2 dL_law_237 rfl ?_
          refine k_belief X hd.rv cs_L_102 rfl (Nat.le_of_ble_eq_true rfl) dL_law_239 (fun z => ?_) hcs
          rw [e2]
          refine g_if_le (tgt := 249) X dL_law_242 (by decide) (fun c_242 => by exfalso; have f_ : c1 ≤ 0 := n_le (by omega) (by omega) c_242; omega) (fun c_242 => ?_)
          refine g_iconst (v := (nI 1)) X dL_law_245 rfl ?_
          refine g_goto (tgt := 250) X dL_law_246 (by decide) ?_
          refine g_istore (lv' := [(11, .int (nI 1)), (13, .int ((loneI (cM v) i) ||| (nI 0))), (12, .int (nI ((mtC (cM v) i) + 1))), (15, .int (nI j)), (0, .ref b), (1, .ref (O 0 0)), (2, .ref ad), (3, .ref ae), (4, .int (nI rd)), (5, .int (celV L xs (25 + rd))), (6, .int (nI (sM (tA v)))), (7, .int (nI (sM (tB v)))), (8, .int (nI (sS (tA v)))), (9, .int (nI oa.2)), (10, .int (nI R0)), (14, .int (nI i))]) X dL_law_250 (show 11 < 23 by decide) rfl ?_
          refine g_iconst (v := (nI 0)) X dL_law_252 rfl ?_
          refine g_istore (lv' := [(16, .int (nI 0)), (11, .int (nI 1)), (13, .int ((loneI (cM v) i) ||| (nI 0))), (12, .int (nI ((mtC (cM v) i) + 1))), (15, .int (nI j)), (0, .ref b), (1, .ref (O 0 0)), (2, .ref ad), (3, .ref ae), (4, .int (nI rd)), (5, .int (celV L xs (25 + rd))), (6, .int (nI (sM (tA v)))), (7, .int (nI (sM (tB v)))), (8, .int (nI (sS (tA v)))), (9, .int (nI oa.2)), (10, .int (nI R0)), (14, .int (nI i))]) X dL_law_253 (show 16 < 23 by decide) rfl ?_
          have L_255 : ∀ (n_255 : Nat) (k : Nat) (z : ScrT) (hk : k ≤ sM (tB v)) (hm_255 : sM (tB v) - k < n_255) (x_16 : Int32) (ex_16 : x_16 = (nI k)), GG E (m_L nm0) (GL p ev s0 m b below meth c) cells slots (wL E O Q ad ae v w f oa ok ta tk d e z) [(0, .ref b), (1, .ref (O 0 0)), (2, .ref ad), (3, .ref ae), (4, .int (nI rd)), (5, .int (celV L xs (25 + rd))), (6, .int (nI (sM (tA v)))), (7, .int (nI (sM (tB v)))), (8, .int (nI (sS (tA v)))), (9, .int (nI oa.2)), (10, .int (nI R0)), (11, .int (nI 1)), (12, .int (nI ((mtC (cM v) i) + 1))), (13, .int ((loneI (cM v) i) ||| (nI 0))), (14, .int (nI i)), (15, .int (nI j)), (16, .int x_16)] 255 [] := by
            intro n_255
            induction n_255 with
            | zero => intro k z hk hm_255; exact absurd hm_255 (Nat.not_lt_zero _)
            | succ n_255 ih_255 =>
              intro k z hk hm_255 x_16 ex_16
              subst ex_16
              refine g_iload X 16 dL_law_255 rfl ?_
              refine g_iload X 7 dL_law_257 rfl ?_
              refine g_icmp_ge (tgt := 399) X dL_law_259 (by decide) (fun c_259 => ?_) (fun c_259 => ?_)
              · have f_c_259 : sM (tB v) ≤ k := n_le (by omega) (by omega) c_259
                have fn_c_259 := Nat.not_lt.mpr f_c_259
                refine g_iload X 15 dL_law_399 rfl ?_
                refine g_if_lt (tgt := 483) X dL_law_401 (by decide) (fun c_401 => absurd c_401 (nI_pos (by omega))) (fun c_401 => ?_)
                refine g_iload X 11 dL_law_404 rfl ?_
                refine g_if_eq (tgt := 477) X dL_law_406 (by decide) (fun c_406 => absurd c_406 (by decide)) (fun c_406 => ?_)
                refine g_aload_n X 1 dL_law_409 rfl ?_
                refine g_iload X 14 dL_law_410 rfl ?_
                refine g_iconst (v := (nI 0)) X dL_law_412 rfl ?_
                refine k_comes X hd.rv cs_L_105 rfl (Nat.le_of_ble_eq_true rfl) dL_law_413 (fun z => ?_) hcs
                rw [(com_mt hd (show i < sM (tA v) by omega) hj f0).1]
                refine g_ldc (v := (nI 100000)) X dL_law_416 ks_L_108 ?_
                refine g_aload_n X 1 dL_law_418 rfl ?_
                refine g_iconst (v := (nI 1)) X dL_law_419 rfl ?_
                refine g_iload X 15 dL_law_420 rfl ?_
                refine g_iconst (v := (nI 1)) X dL_law_422 rfl ?_
                refine k_meeting X hv cs_L_50 rfl (Nat.le_of_ble_eq_true rfl) dL_law_423 ?_ hcs
                rw [al_mt hd (g := 1) (i := j) (q := 1) (by decide) hj (by decide)]
                refine g_iadd X dL_law_426 ?_
                refine g_icmp_ne (tgt := 477) X dL_law_427 (by decide) (fun c_427 => absurd rfl c_427) (fun c_427 => ?_)
                refine g_aload_n X 1 dL_law_430 rfl ?_
                refine g_iload X 14 dL_law_431 rfl ?_
                refine g_iconst (v := (nI 1)) X dL_law_433 rfl ?_
                refine k_comes X hd.rv cs_L_105 rfl (Nat.le_of_ble_eq_true rfl) dL_law_434 (fun z => ?_) hcs
                rw [(com_mt hd (show i < sM (tA v) by omega) hj f0).2.1]
                refine g_iconst (v := (nI 1)) X dL_law_437 rfl ?_
                refine g_icmp_ne (tgt := 477) X dL_law_438 (by decide) (fun c_438 => absurd (by decide) c_438) (fun c_438 => ?_)
                refine g_aload_n X 1 dL_law_441 rfl ?_
                refine g_iload X 14 dL_law_442 rfl ?_
                refine g_iconst (v := (nI 2)) X dL_law_444 rfl ?_
                refine k_comes X hd.rv cs_L_105 rfl (Nat.le_of_ble_eq_true rfl) dL_law_445 (fun z => ?_) hcs
                rw [(com_mt hd (show i < sM (tA v) by omega) hj f0).2.2.1]
                refine g_ldc (v := (nI 100000)) X dL_law_448 ks_L_108 ?_
                refine g_aload_n X 1 dL_law_450 rfl ?_
                refine g_iconst (v := (nI 1)) X dL_law_451 rfl ?_
                refine g_iload X 15 dL_law_452 rfl ?_
                refine g_iconst (v := (nI 2)) X dL_law_454 rfl ?_
                refine k_meeting X hv cs_L_50 rfl (Nat.le_of_ble_eq_true rfl) dL_law_455 ?_ hcs
                rw [al_mt hd (g := 1) (i := j) (q := 2) (by decide) hj (by decide)]
                refine g_iadd X dL_law_458 ?_
                refine g_icmp_ne (tgt := 477) X dL_law_459 (by decide) (fun c_459 => absurd rfl c_459) (fun c_459 => ?_)
                refine g_aload_n X 1 dL_law_462 rfl ?_
                refine g_iload X 14 dL_law_463 rfl ?_
                refine g_iconst (v := (nI 3)) X dL_law_465 rfl ?_
                refine k_comes X hd.rv cs_L_105 rfl (Nat.le_of_ble_eq_true rfl) dL_law_466 (fun z => ?_) hcs
                rw [(com_mt hd (show i < sM (tA v) by omega) hj f0).2.2.2]
                refine g_iconst (v := (nI 1)) X dL_law_469 rfl ?_
                refine g_icmp_ne (tgt := 477) X dL_law_470 (by decide) (fun c_470 => absurd (by decide) c_470) (fun c_470 => ?_)
                refine g_iconst (v := (nI 1)) X dL_law_473 rfl ?_
                refine g_goto (tgt := 478) X dL_law_474 (by decide) ?_
                refine g_istore (lv' := [(11, .int (nI 1)), (0, .ref b), (1, .ref (O 0 0)), (2, .ref ad), (3, .ref ae), (4, .int (nI rd)), (5, .int (celV L xs (25 + rd))), (6, .int (nI (sM (tA v)))), (7, .int (nI (sM (tB v)))), (8, .int (nI (sS (tA v)))), (9, .int (nI oa.2)), (10, .int (nI R0)), (12, .int (nI ((mtC (cM v) i) + 1))), (13, .int ((loneI (cM v) i) ||| (nI 0))), (14, .int (nI i)), (15, .int (nI j)), (16, .int (nI k))]) X dL_law_478 (show 11 < 23 by decide) rfl ?_
                refine g_goto (tgt := 515) X dL_law_480 (by decide) ?_
                refine g_iincN (lv' := [(14, .int (nI (i + 1))), (11, .int (nI 1)), (0, .ref b), (1, .ref (O 0 0)), (2, .ref ad), (3, .ref ae), (4, .int (nI rd)), (5, .int (celV L xs (25 + rd))), (6, .int (nI (sM (tA v)))), (7, .int (nI (sM (tB v)))), (8, .int (nI (sS (tA v)))), (9, .int (nI oa.2)), (10, .int (nI R0)), (12, .int (nI ((mtC (cM v) i) + 1))), (13, .int ((loneI (cM v) i) ||| (nI 0))), (15, .int (nI j)), (16, .int (nI k))]) X 14 dL_law_515 rfl (show 14 < 23 by decide) rfl ?_
                refine g_goto (tgt := 122) X dL_law_518 (by decide) ?_
                refine GG.lv [2, 3, 4, 5, 6, 7, 8, 9, 10, 11, 12, 1, 13, 14, 0] rfl ?_
                exact ih_122 (i + 1) z (by omega) (by omega) (nI ((mtC (cM v) i) + 1)) (by exact mtC_t (by rw [f0]; exact nI_ne_m1 (by omega))) ((loneI (cM v) i) ||| (nI 0)) (by exact lone_f (by omega) (by rw [f0]; exact nI_ne_m1 (by omega))) (nI (i + 1)) (by rfl)
              · have f_c_259 : k < sM (tB v) := n_nle (by omega) (by omega) c_259
                have fn_c_259 := Nat.not_le.mpr f_c_259
                refine g_aload_n X 1 dL_law_262 rfl ?_
                refine g_iload X 14 dL_law_263 rfl ?_
                refine g_iload X 16 dL_law_265 rfl ?_
                refine k_belief X hd.rv cs_L_102 rfl (Nat.le_of_ble_eq_true rfl) dL_law_267 (fun z => ?_) hcs
                obtain ⟨r, dd, r1, r2, hdd, eR, eD, hbe⟩ := be_or hd.rv (show i < sM (tA v) by omega) (show k < sM (tB v) by omega)
                rcases hbe with ⟨b0, bz, bl⟩ | ⟨cb, cb1, cb2, b0, bc, bl, -⟩
                · rw [b0]
                  refine g_istore (lv' := [(17, .int (-4)), (0, .ref b), (1, .ref (O 0 0)), (2, .ref ad), (3, .ref ae), (4, .int (nI rd)), (5, .int (celV L xs (25 + rd))), (6, .int (nI (sM (tA v)))), (7, .int (nI (sM (tB v)))), (8, .int (nI (sS (tA v)))), (9, .int (nI oa.2)), (10, .int (nI R0)), (11, .int (nI 1)), (12, .int (nI ((mtC (cM v) i) + 1))), (13, .int ((loneI (cM v) i) ||| (nI 0))), (14, .int (nI i)), (15, .int (nI j)), (16, .int (nI k))]) X dL_law_270 (show 17 < 23 by decide) rfl ?_
                  refine g_aload_n X 2 dL_law_272 rfl ?_
                  refine g_iconst (v := (nI 0)) X dL_law_273 rfl ?_
                  refine g_iload X 15 dL_law_274 rfl ?_
                  refine g_iconst (v := (nI 3)) X dL_law_276 rfl ?_
                  refine k_meeting X hv cs_L_50 rfl (Nat.le_of_ble_eq_true rfl) dL_law_277 ?_ hcs
                  rw [me3 hd.rv (by decide) (show i < sM (tA v) by omega)]
                  refine g_istore (lv' := [(18, .int (nI (zRe v 0 i))), (17, .int (-4)), (0, .ref b), (1, .ref (O 0 0)), (2, .ref ad), (3, .ref ae), (4, .int (nI rd)), (5, .int (celV L xs (25 + rd))), (6, .int (nI (sM (tA v)))), (7, .int (nI (sM (tB v)))), (8, .int (nI (sS (tA v)))), (9, .int (nI oa.2)), (10, .int (nI R0)), (11, .int (nI 1)), (12, .int (nI ((mtC (cM v) i) + 1))), (13, .int ((loneI (cM v) i) ||| (nI 0))), (14, .int (nI i)), (15, .int (nI j)), (16, .int (nI k))]) X dL_law_280 (show 18 < 23 by decide) rfl ?_
                  refine g_aload_n X 3 dL_law_282 rfl ?_
                  refine g_iconst (v := (nI 1)) X dL_law_283 rfl ?_
                  refine g_iload X 18 dL_law_284 rfl ?_
                  refine g_iconst (v := (nI 3)) X dL_law_286 rfl ?_
                  refine k_meeting X hv cs_L_50 rfl (Nat.le_of_ble_eq_true rfl) dL_law_287 ?_ hcs
                  rw [me3 hd.rv (by decide) (show k < sM (tB v) by omega)]
                  have hz1 := (zRe_eq hd.rv 1 k).2
                  refine g_istore (lv' := [(19, .int (nI (zRe v 1 k))), (18, .int (nI (zRe v 0 i))), (17, .int (-4)), (0, .ref b), (1, .ref (O 0 0)), (2, .ref ad), (3, .ref ae), (4, .int (nI rd)), (5, .int (celV L xs (25 + rd))), (6, .int (nI (sM (tA v)))), (7, .int (nI (sM (tB v)))), (8, .int (nI (sS (tA v)))), (9, .int (nI oa.2)), (10, .int (nI R0)), (11, .int (nI 1)), (12, .int (nI ((mtC (cM v) i) + 1))), (13, .int ((loneI (cM v) i) ||| (nI 0))), (14, .int (nI i)), (15, .int (nI j)), (16, .int (nI k))]) X dL_law_290 (show 19 < 23 by decide) rfl ?_
                  refine g_iload X 1 dL_law_292 rfl ?_
                  refine g_iload X 0 dL_law_294 rfl ?_
                  refine g_icmp_ge (tgt := 304) X dL_law_296 (by decide) (fun c_296 => ?_) (fun c_296 => ?_)
                  · have f_c_296 : zRe v 1 k ≤ zRe v 0 i := n_le (by omega) (by omega) c_296
                    have fn_c_296 := Nat.not_lt.mpr f_c_296
                    refine g_iload X 0 dL_law_304 rfl ?_
                    have hLm : min (zRe v 0 i) (zRe v 1 k) = zRe v 1 k := by omega
                    rw [hLm] at bl
                    have hLL : zRe v 1 k * zRe v 1 k ≤ 400 := Nat.le_trans (Nat.mul_le_mul (show zRe v 1 k ≤ 20 by omega) (show zRe v 1 k ≤ 20 by omega)) (by decide)
                    refine g_istore (lv' := [(20, .int (nI (zRe v 1 k))), (19, .int (nI (zRe v 1 k))), (18, .int (nI (zRe v 0 i))), (17, .int (-4)), (0, .ref b), (1, .ref (O 0 0)), (2, .ref ad), (3, .ref ae), (4, .int (nI rd)), (5, .int (celV L xs (25 + rd))), (6, .int (nI (sM (tA v)))), (7, .int (nI (sM (tB v)))), (8, .int (nI (sS (tA v)))), (9, .int (nI oa.2)), (10, .int (nI R0)), (11, .int (nI 1)), (12, .int (nI ((mtC (cM v) i) + 1))), (13, .int ((loneI (cM v) i) ||| (nI 0))), (14, .int (nI i)), (15, .int (nI j)), (16, .int (nI k))]) X dL_law_306 (show 20 < 23 by decide) rfl ?_
                    refine g_iload X 15 dL_law_308 rfl ?_
                    refine g_if_eq (tgt := 390) X dL_law_310 (by decide) (fun c_310 => absurd c_310 (by decide)) (fun c_310 => ?_)
                    refine g_iload X 3 dL_law_313 rfl ?_
                    refine g_bipush (v := (-4)) X dL_law_315 rfl ?_
                    refine g_icmp_ne (tgt := 324) X dL_law_317 (by decide) (fun c_317 => absurd (by decide) c_317) (fun c_317 => ?_)
                    refine g_iconst (v := (nI 1)) X dL_law_320 rfl ?_
                    refine g_goto (tgt := 325) X dL_law_321 (by decide) ?_
                    refine g_aload_n X 6 dL_law_325 rfl ?_
                    refine g_iload X 18 dL_law_326 rfl ?_
                    refine g_bipush (v := (nI 8)) X dL_law_328 rfl ?_
                    refine g_iload X 20 dL_law_330 rfl ?_
                    refine g_iaddN X dL_law_332 ?_
                    refine k_distance X (a := i) (b := 8 + k) (by omega) (by omega) cs_L_86 rfl (Nat.le_of_ble_eq_true rfl) dL_law_333 ?_ hcs
                    rw [(dis_eq hd (show i < sM (tA v) by omega) (show k < sM (tB v) by omega)).trans eD]
                    refine g_iload X 0 dL_law_336 rfl ?_
                    refine g_iload X 0 dL_law_338 rfl ?_
                    refine g_imulN X dL_law_340 ?_
                    refine g_icmp_le (tgt := 348) X dL_law_341 (by decide) (fun c_341 => by exfalso; have f_ : dd ≤ (zRe v 1 k) * (zRe v 1 k) := n_le (by omega) (by omega) c_341; omega) (fun c_341 => ?_)
                    refine g_iconst (v := (nI 1)) X dL_law_344 rfl ?_
                    refine g_goto (tgt := 349) X dL_law_345 (by decide) ?_
                    refine g_icmp_ne (tgt := 390) X dL_law_349 (by decide) (fun c_349 => absurd (by decide) c_349) (fun c_349 => ?_)
                    refine g_iload X 3 dL_law_352 rfl ?_
                    refine g_bipush (v := (-4)) X dL_law_354 rfl ?_
                    refine g_icmp_eq (tgt := 364) X dL_law_356 (by decide) (fun c_356 => ?_) (fun c_356 => absurd (by decide) c_356)
                    refine g_iload X 3 dL_law_364 rfl ?_
                    refine g_bipush (v := (-4)) X dL_law_366 rfl ?_
                    refine g_icmp_eq (tgt := 386) X dL_law_368 (by decide) (fun c_368 => ?_) (fun c_368 => absurd (by decide) c_368)
                    refine g_iconst (v := (nI 1)) X dL_law_386 rfl ?_
                    refine g_goto (tgt := 391) X dL_law_387 (by decide) ?_
                    refine g_istore (lv' := [(11, .int (nI 1)), (20, .int (nI (zRe v 1 k))), (19, .int (nI (zRe v 1 k))), (18, .int (nI (zRe v 0 i))), (17, .int (-4)), (0, .ref b), (1, .ref (O 0 0)), (2, .ref ad), (3, .ref ae), (4, .int (nI rd)), (5, .int (celV L xs (25 + rd))), (6, .int (nI (sM (tA v)))), (7, .int (nI (sM (tB v)))), (8, .int (nI (sS (tA v)))), (9, .int (nI oa.2)), (10, .int (nI R0)), (12, .int (nI ((mtC (cM v) i) + 1))), (13, .int ((loneI (cM v) i) ||| (nI 0))), (14, .int (nI i)), (15, .int (nI j)), (16, .int (nI k))]) X dL_law_391 (show 11 < 23 by decide) rfl ?_
                    refine g_iincN (lv' := [(16, .int (nI (k + 1))), (11, .int (nI 1)), (20, .int (nI (zRe v 1 k))), (19, .int (nI (zRe v 1 k))), (18, .int (nI (zRe v 0 i))), (17, .int (-4)), (0, .ref b), (1, .ref (O 0 0)), (2, .ref ad), (3, .ref ae), (4, .int (nI rd)), (5, .int (celV L xs (25 + rd))), (6, .int (nI (sM (tA v)))), (7, .int (nI (sM (tB v)))), (8, .int (nI (sS (tA v)))), (9, .int (nI oa.2)), (10, .int (nI R0)), (12, .int (nI ((mtC (cM v) i) + 1))), (13, .int ((loneI (cM v) i) ||| (nI 0))), (14, .int (nI i)), (15, .int (nI j))]) X 20 dL_law_393 rfl (show 16 < 23 by decide) rfl ?_
                    refine g_goto (tgt := 255) X dL_law_396 (by decide) ?_
                    refine GG.lv [6, 7, 8, 9, 10, 11, 12, 13, 14, 15, 16, 1, 17, 18, 19, 20, 0] rfl ?_
                    exact ih_255 (k + 1) z (by omega) (by omega) (nI (k + 1)) (by rfl)
                  · have f_c_296 : zRe v 0 i < zRe v 1 k := n_nle (by omega) (by omega) c_296
                    have fn_c_296 := Nat.not_le.mpr f_c_296
                    refine g_iload X 1 dL_law_299 rfl ?_
                    refine g_goto (tgt := 306) X dL_law_301 (by decide) ?_
                    have hLm : min (zRe v 0 i) (zRe v 1 k) = zRe v 0 i := by omega
                    rw [hLm] at bl
                    have hLL : zRe v 0 i * zRe v 0 i ≤ 400 := Nat.le_trans (Nat.mul_le_mul (show zRe v 0 i ≤ 20 by omega) (show zRe v 0 i ≤ 20 by omega)) (by decide)
                    refine g_istore (lv' := [(20, .int (nI (zRe v 0 i))), (19, .int (nI (zRe v 1 k))), (18, .int (nI (zRe v 0 i))), (17, .int (-4)), (0, .ref b), (1, .ref (O 0 0)), (2, .ref ad), (3, .ref ae), (4, .int (nI rd)), (5, .int (celV L xs (25 + rd))), (6, .int (nI (sM (tA v)))), (7, .int (nI (sM (tB v)))), (8, .int (nI (sS (tA v)))), (9, .int (nI oa.2)), (10, .int (nI R0)), (11, .int (nI 1)), (12, .int (nI ((mtC (cM v) i) + 1))), (13, .int ((loneI (cM v) i) ||| (nI 0))), (14, .int (nI i)), (15, .int (nI j)), (16, .int (nI k))]) X dL_law_306 (show 20 < 23 by decide) rfl ?_
                    refine g_iload X 15 dL_law_308 rfl ?_
                    refine g_if_eq (tgt := 390) X dL_law_310 (by decide) (fun c_310 => absurd c_310 (by decide)) (fun c_310 => ?_)
                    refine g_iload X 3 dL_law_313 rfl ?_
                    refine g_bipush (v := (-4)) X dL_law_315 rfl ?_
                    refine g_icmp_ne (tgt := 324) X dL_law_317 (by decide) (fun c_317 => absurd (by decide) c_317) (fun c_317 => ?_)
                    refine g_iconst (v := (nI 1)) X dL_law_320 rfl ?_
                    refine g_goto (tgt := 325) X dL_law_321 (by decide) ?_
                    refine g_aload_n X 6 dL_law_325 rfl ?_
                    refine g_iload X 18 dL_law_326 rfl ?_
                    refine g_bipush (v := (nI 8)) X dL_law_328 rfl ?_
                    refine g_iload X 20 dL_law_330 rfl ?_
                    refine g_iaddN X dL_law_332 ?_
                    refine k_distance X (a := i) (b := 8 + k) (by omega) (by omega) cs_L_86 rfl (Nat.le_of_ble_eq_true rfl) dL_law_333 ?_ hcs
                    rw [(dis_eq hd (show i < sM (tA v) by omega) (show k < sM (tB v) by omega)).trans eD]
                    refine g_iload X 0 dL_law_336 rfl ?_
                    refine g_iload X 0 dL_law_338 rfl ?_
                    refine g_imulN X dL_law_340 ?_
                    refine g_icmp_le (tgt := 348) X dL_law_341 (by decide) (fun c_341 => by exfalso; have f_ : dd ≤ (zRe v 0 i) * (zRe v 0 i) := n_le (by omega) (by omega) c_341; omega) (fun c_341 => ?_)
                    refine g_iconst (v := (nI 1)) X dL_law_344 rfl ?_
                    refine g_goto (tgt := 349) X dL_law_345 (by decide) ?_
                    refine g_icmp_ne (tgt := 390) X dL_law_349 (by decide) (fun c_349 => absurd (by decide) c_349) (fun c_349 => ?_)
                    refine g_iload X 3 dL_law_352 rfl ?_
                    refine g_bipush (v := (-4)) X dL_law_354 rfl ?_
                    refine g_icmp_eq (tgt := 364) X dL_law_356 (by decide) (fun c_356 => ?_) (fun c_356 => absurd (by decide) c_356)
                    refine g_iload X 3 dL_law_364 rfl ?_
                    refine g_bipush (v := (-4)) X dL_law_366 rfl ?_
                    refine g_icmp_eq (tgt := 386) X dL_law_368 (by decide) (fun c_368 => ?_) (fun c_368 => absurd (by decide) c_368)
                    refine g_iconst (v := (nI 1)) X dL_law_386 rfl ?_
                    refine g_goto (tgt := 391) X dL_law_387 (by decide) ?_
                    refine g_istore (lv' := [(11, .int (nI 1)), (20, .int (nI (zRe v 0 i))), (19, .int (nI (zRe v 1 k))), (18, .int (nI (zRe v 0 i))), (17, .int (-4)), (0, .ref b), (1, .ref (O 0 0)), (2, .ref ad), (3, .ref ae), (4, .int (nI rd)), (5, .int (celV L xs (25 + rd))), (6, .int (nI (sM (tA v)))), (7, .int (nI (sM (tB v)))), (8, .int (nI (sS (tA v)))), (9, .int (nI oa.2)), (10, .int (nI R0)), (12, .int (nI ((mtC (cM v) i) + 1))), (13, .int ((loneI (cM v) i) ||| (nI 0))), (14, .int (nI i)), (15, .int (nI j)), (16, .int (nI k))]) X dL_law_391 (show 11 < 23 by decide) rfl ?_
                    refine g_iincN (lv' := [(16, .int (nI (k + 1))), (11, .int (nI 1)), (20, .int (nI (zRe v 0 i))), (19, .int (nI (zRe v 1 k))), (18, .int (nI (zRe v 0 i))), (17, .int (-4)), (0, .ref b), (1, .ref (O 0 0)), (2, .ref ad), (3, .ref ae), (4, .int (nI rd)), (5, .int (celV L xs (25 + rd))), (6, .int (nI (sM (tA v)))), (7, .int (nI (sM (tB v)))), (8, .int (nI (sS (tA v)))), (9, .int (nI oa.2)), (10, .int (nI R0)), (12, .int (nI ((mtC (cM v) i) + 1))), (13, .int ((loneI (cM v) i) ||| (nI 0))), (14, .int (nI i)), (15, .int (nI j))]) X 20 dL_law_393 rfl (show 16 < 23 by decide) rfl ?_
                    refine g_goto (tgt := 255) X dL_law_396 (by decide) ?_
                    refine GG.lv [6, 7, 8, 9, 10, 11, 12, 13, 14, 15, 16, 1, 17, 18, 19, 20, 0] rfl ?_
                    exact ih_255 (k + 1) z (by omega) (by omega) (nI (k + 1)) (by rfl)
                · rw [b0]
                  refine g_istore (lv' := [(17, .int (nI cb)), (0, .ref b), (1, .ref (O 0 0)), (2, .ref ad), (3, .ref ae), (4, .int (nI rd)), (5, .int (celV L xs (25 + rd))), (6, .int (nI (sM (tA v)))), (7, .int (nI (sM (tB v)))), (8, .int (nI (sS (tA v)))), (9, .int (nI oa.2)), (10, .int (nI R0)), (11, .int (nI 1)), (12, .int (nI ((mtC (cM v) i) + 1))), (13, .int ((loneI (cM v) i) ||| (nI 0))), (14, .int (nI i)), (15, .int (nI j)), (16, .int (nI k))]) X dL_law_270 (show 17 < 23 by decide) rfl ?_
                  refine g_aload_n X 2 dL_law_272 rfl ?_
                  refine g_iconst (v := (nI 0)) X dL_law_273 rfl ?_
                  refine g_iload X 15 dL_law_274 rfl ?_
                  refine g_iconst (v := (nI 3)) X dL_law_276 rfl ?_
                  refine k_meeting X hv cs_L_50 rfl (Nat.le_of_ble_eq_true rfl) dL_law_277 ?_ hcs
                  rw [me3 hd.rv (by decide) (show i < sM (tA v) by omega)]
                  refine g_istore (lv' := [(18, .int (nI (zRe v 0 i))), (17, .int (nI cb)), (0, .ref b), (1, .ref (O 0 0)), (2, .ref ad), (3, .ref ae), (4, .int (nI rd)), (5, .int (celV L xs (25 + rd))), (6, .int (nI (sM (tA v)))), (7, .int (nI (sM (tB v)))), (8, .int (nI (sS (tA v)))), (9, .int (nI oa.2)), (10, .int (nI R0)), (11, .int (nI 1)), (12, .int (nI ((mtC (cM v) i) + 1))), (13, .int ((loneI (cM v) i) ||| (nI 0))), (14, .int (nI i)), (15, .int (nI j)), (16, .int (nI k))]) X dL_law_280 (show 18 < 23 by decide) rfl ?_
                  refine g_aload_n X 3 dL_law_282 rfl ?_
                  refine g_iconst (v := (nI 1)) X dL_law_283 rfl ?_
                  refine g_iload X 18 dL_law_284 rfl ?_
                  refine g_iconst (v := (nI 3)) X dL_law_286 rfl ?_
                  refine k_meeting X hv cs_L_50 rfl (Nat.le_of_ble_eq_true rfl) dL_law_287 ?_ hcs
                  rw [me3 hd.rv (by decide) (show k < sM (tB v) by omega)]
                  have hz1 := (zRe_eq hd.rv 1 k).2
                  refine g_istore (lv' := [(19, .int (nI (zRe v 1 k))), (18, .int (nI (zRe v 0 i))), (17, .int (nI cb)), (0, .ref b), (1, .ref (O 0 0)), (2, .ref ad), (3, .ref ae), (4, .int (nI rd)), (5, .int (celV L xs (25 + rd))), (6, .int (nI (sM (tA v)))), (7, .int (nI (sM (tB v)))), (8, .int (nI (sS (tA v)))), (9, .int (nI oa.2)), (10, .int (nI R0)), (11, .int (nI 1)), (12, .int (nI ((mtC (cM v) i) + 1))), (13, .int ((loneI (cM v) i) ||| (nI 0))), (14, .int (nI i)), (15, .int (nI j)), (16, .int (nI k))]) X dL_law_290 (show 19 < 23 by decide) rfl ?_
                  refine g_iload X 1 dL_law_292 rfl ?_
                  refine g_iload X 0 dL_law_294 rfl ?_
                  refine g_icmp_ge (tgt := 304) X dL_law_296 (by decide) (fun c_296 => ?_) (fun c_296 => ?_)
                  · have f_c_296 : zRe v 1 k ≤ zRe v 0 i := n_le (by omega) (by omega) c_296
                    have fn_c_296 := Nat.not_lt.mpr f_c_296
                    refine g_iload X 0 dL_law_304 rfl ?_
                    have hLm : min (zRe v 0 i) (zRe v 1 k) = zRe v 1 k := by omega
                    rw [hLm] at bl
                    have hLL : zRe v 1 k * zRe v 1 k ≤ 400 := Nat.le_trans (Nat.mul_le_mul (show zRe v 1 k ≤ 20 by omega) (show zRe v 1 k ≤ 20 by omega)) (by decide)
                    refine g_istore (lv' := [(20, .int (nI (zRe v 1 k))), (19, .int (nI (zRe v 1 k))), (18, .int (nI (zRe v 0 i))), (17, .int (nI cb)), (0, .ref b), (1, .ref (O 0 0)), (2, .ref ad), (3, .ref ae), (4, .int (nI rd)), (5, .int (celV L xs (25 + rd))), (6, .int (nI (sM (tA v)))), (7, .int (nI (sM (tB v)))), (8, .int (nI (sS (tA v)))), (9, .int (nI oa.2)), (10, .int (nI R0)), (11, .int (nI 1)), (12, .int (nI ((mtC (cM v) i) + 1))), (13, .int ((loneI (cM v) i) ||| (nI 0))), (14, .int (nI i)), (15, .int (nI j)), (16, .int (nI k))]) X dL_law_306 (show 20 < 23 by decide) rfl ?_
                    refine g_iload X 15 dL_law_308 rfl ?_
                    refine g_if_eq (tgt := 390) X dL_law_310 (by decide) (fun c_310 => absurd c_310 (by decide)) (fun c_310 => ?_)
                    refine g_iload X 3 dL_law_313 rfl ?_
                    refine g_bipush (v := (-4)) X dL_law_315 rfl ?_
                    refine g_icmp_ne (tgt := 324) X dL_law_317 (by decide) (fun c_317 => ?_) (fun c_317 => absurd c_317 (ng_eq (by omega) (by decide)))
                    refine g_iconst (v := (nI 0)) X dL_law_324 rfl ?_
                    refine g_aload_n X 6 dL_law_325 rfl ?_
                    refine g_iload X 18 dL_law_326 rfl ?_
                    refine g_bipush (v := (nI 8)) X dL_law_328 rfl ?_
                    refine g_iload X 20 dL_law_330 rfl ?_
                    refine g_iaddN X dL_law_332 ?_
                    refine k_distance X (a := i) (b := 8 + k) (by omega) (by omega) cs_L_86 rfl (Nat.le_of_ble_eq_true rfl) dL_law_333 ?_ hcs
                    rw [(dis_eq hd (show i < sM (tA v) by omega) (show k < sM (tB v) by omega)).trans eD]
                    refine g_iload X 0 dL_law_336 rfl ?_
                    refine g_iload X 0 dL_law_338 rfl ?_
                    refine g_imulN X dL_law_340 ?_
                    refine g_icmp_le (tgt := 348) X dL_law_341 (by decide) (fun c_341 => ?_) (fun c_341 => by exfalso; have f_ : (zRe v 1 k) * (zRe v 1 k) < dd := n_nle (by omega) (by omega) c_341; omega)
                    refine g_iconst (v := (nI 0)) X dL_law_348 rfl ?_
                    refine g_icmp_ne (tgt := 390) X dL_law_349 (by decide) (fun c_349 => absurd (by decide) c_349) (fun c_349 => ?_)
                    refine g_iload X 3 dL_law_352 rfl ?_
                    refine g_bipush (v := (-4)) X dL_law_354 rfl ?_
                    refine g_icmp_eq (tgt := 364) X dL_law_356 (by decide) (fun c_356 => absurd c_356 (ng_eq (by omega) (by decide))) (fun c_356 => ?_)
                    refine g_iload X 3 dL_law_359 rfl ?_
                    refine g_if_le (tgt := 390) X dL_law_361 (by decide) (fun c_361 => by exfalso; have f_ : cb ≤ 0 := n_le (by omega) (by omega) c_361; omega) (fun c_361 => ?_)
                    refine g_iload X 3 dL_law_364 rfl ?_
                    refine g_bipush (v := (-4)) X dL_law_366 rfl ?_
                    refine g_icmp_eq (tgt := 386) X dL_law_368 (by decide) (fun c_368 => absurd c_368 (ng_eq (by omega) (by decide))) (fun c_368 => ?_)
                    refine g_iload X 19 dL_law_371 rfl ?_
                    refine g_if_ge (tgt := 386) X dL_law_373 (by decide) (fun c_373 => ?_) (fun c_373 => absurd (nI_pos' (by omega)) c_373)
                    refine g_iconst (v := (nI 1)) X dL_law_386 rfl ?_
                    refine g_goto (tgt := 391) X dL_law_387 (by decide) ?_
                    refine g_istore (lv' := [(11, .int (nI 1)), (20, .int (nI (zRe v 1 k))), (19, .int (nI (zRe v 1 k))), (18, .int (nI (zRe v 0 i))), (17, .int (nI cb)), (0, .ref b), (1, .ref (O 0 0)), (2, .ref ad), (3, .ref ae), (4, .int (nI rd)), (5, .int (celV L xs (25 + rd))), (6, .int (nI (sM (tA v)))), (7, .int (nI (sM (tB v)))), (8, .int (nI (sS (tA v)))), (9, .int (nI oa.2)), (10, .int (nI R0)), (12, .int (nI ((mtC (cM v) i) + 1))), (13, .int ((loneI (cM v) i) ||| (nI 0))), (14, .int (nI i)), (15, .int (nI j)), (16, .int (nI k))]) X dL_law_391 (show 11 < 23 by decide) rfl ?_
                    refine g_iincN (lv' := [(16, .int (nI (k + 1))), (11, .int (nI 1)), (20, .int (nI (zRe v 1 k))), (19, .int (nI (zRe v 1 k))), (18, .int (nI (zRe v 0 i))), (17, .int (nI cb)), (0, .ref b), (1, .ref (O 0 0)), (2, .ref ad), (3, .ref ae), (4, .int (nI rd)), (5, .int (celV L xs (25 + rd))), (6, .int (nI (sM (tA v)))), (7, .int (nI (sM (tB v)))), (8, .int (nI (sS (tA v)))), (9, .int (nI oa.2)), (10, .int (nI R0)), (12, .int (nI ((mtC (cM v) i) + 1))), (13, .int ((loneI (cM v) i) ||| (nI 0))), (14, .int (nI i)), (15, .int (nI j))]) X 20 dL_law_393 rfl (show 16 < 23 by decide) rfl ?_
                    refine g_goto (tgt := 255) X dL_law_396 (by decide) ?_
                    refine GG.lv [6, 7, 8, 9, 10, 11, 12, 13, 14, 15, 16, 1, 17, 18, 19, 20, 0] rfl ?_
                    exact ih_255 (k + 1) z (by omega) (by omega) (nI (k + 1)) (by rfl)
                  · have f_c_296 : zRe v 0 i < zRe v 1 k := n_nle (by omega) (by omega) c_296
                    have fn_c_296 := Nat.not_le.mpr f_c_296
                    refine g_iload X 1 dL_law_299 rfl ?_
                    refine g_goto (tgt := 306) X dL_law_301 (by decide) ?_
                    have hLm : min (zRe v 0 i) (zRe v 1 k) = zRe v 0 i := by omega
                    rw [hLm] at bl
                    have hLL : zRe v 0 i * zRe v 0 i ≤ 400 := Nat.le_trans (Nat.mul_le_mul (show zRe v 0 i ≤ 20 by omega) (show zRe v 0 i ≤ 20 by omega)) (by decide)
                    refine g_istore (lv' := [(20, .int (nI (zRe v 0 i))), (19, .int (nI (zRe v 1 k))), (18, .int (nI (zRe v 0 i))), (17, .int (nI cb)), (0, .ref b), (1, .ref (O 0 0)), (2, .ref ad), (3, .ref ae), (4, .int (nI rd)), (5, .int (celV L xs (25 + rd))), (6, .int (nI (sM (tA v)))), (7, .int (nI (sM (tB v)))), (8, .int (nI (sS (tA v)))), (9, .int (nI oa.2)), (10, .int (nI R0)), (11, .int (nI 1)), (12, .int (nI ((mtC (cM v) i) + 1))), (13, .int ((loneI (cM v) i) ||| (nI 0))), (14, .int (nI i)), (15, .int (nI j)), (16, .int (nI k))]) X dL_law_306 (show 20 < 23 by decide) rfl ?_
                    refine g_iload X 15 dL_law_308 rfl ?_
                    refine g_if_eq (tgt := 390) X dL_law_310 (by decide) (fun c_310 => absurd c_310 (by decide)) (fun c_310 => ?_)
                    refine g_iload X 3 dL_law_313 rfl ?_
                    refine g_bipush (v := (-4)) X dL_law_315 rfl ?_
                    refine g_icmp_ne (tgt := 324) X dL_law_317 (by decide) (fun c_317 => ?_) (fun c_317 => absurd c_317 (ng_eq (by omega) (by decide)))
                    refine g_iconst (v := (nI 0)) X dL_law_324 rfl ?_
                    refine g_aload_n X 6 dL_law_325 rfl ?_
                    refine g_iload X 18 dL_law_326 rfl ?_
                    refine g_bipush (v := (nI 8)) X dL_law_328 rfl ?_
                    refine g_iload X 20 dL_law_330 rfl ?_
                    refine g_iaddN X dL_law_332 ?_
                    refine k_distance X (a := i) (b := 8 + k) (by omega) (by omega) cs_L_86 rfl (Nat.le_of_ble_eq_true rfl) dL_law_333 ?_ hcs
                    rw [(dis_eq hd (show i < sM (tA v) by omega) (show k < sM (tB v) by omega)).trans eD]
                    refine g_iload X 0 dL_law_336 rfl ?_
                    refine g_iload X 0 dL_law_338 rfl ?_
                    refine g_imulN X dL_law_340 ?_
                    refine g_icmp_le (tgt := 348) X dL_law_341 (by decide) (fun c_341 => ?_) (fun c_341 => by exfalso; have f_ : (zRe v 0 i) * (zRe v 0 i) < dd := n_nle (by omega) (by omega) c_341; omega)
                    refine g_iconst (v := (nI 0)) X dL_law_348 rfl ?_
                    refine g_icmp_ne (tgt := 390) X dL_law_349 (by decide) (fun c_349 => absurd (by decide) c_349) (fun c_349 => ?_)
                    refine g_iload X 3 dL_law_352 rfl ?_
                    refine g_bipush (v := (-4)) X dL_law_354 rfl ?_
                    refine g_icmp_eq (tgt := 364) X dL_law_356 (by decide) (fun c_356 => absurd c_356 (ng_eq (by omega) (by decide))) (fun c_356 => ?_)
                    refine g_iload X 3 dL_law_359 rfl ?_
                    refine g_if_le (tgt := 390) X dL_law_361 (by decide) (fun c_361 => by exfalso; have f_ : cb ≤ 0 := n_le (by omega) (by omega) c_361; omega) (fun c_361 => ?_)
                    refine g_iload X 3 dL_law_364 rfl ?_
                    refine g_bipush (v := (-4)) X dL_law_366 rfl ?_
                    refine g_icmp_eq (tgt := 386) X dL_law_368 (by decide) (fun c_368 => absurd c_368 (ng_eq (by omega) (by decide))) (fun c_368 => ?_)
                    refine g_iload X 19 dL_law_371 rfl ?_
                    refine g_if_ge (tgt := 386) X dL_law_373 (by decide) (fun c_373 => ?_) (fun c_373 => absurd (nI_pos' (by omega)) c_373)
                    refine g_iconst (v := (nI 1)) X dL_law_386 rfl ?_
                    refine g_goto (tgt := 391) X dL_law_387 (by decide) ?_
                    refine g_istore (lv' := [(11, .int (nI 1)), (20, .int (nI (zRe v 0 i))), (19, .int (nI (zRe v 1 k))), (18, .int (nI (zRe v 0 i))), (17, .int (nI cb)), (0, .ref b), (1, .ref (O 0 0)), (2, .ref ad), (3, .ref ae), (4, .int (nI rd)), (5, .int (celV L xs (25 + rd))), (6, .int (nI (sM (tA v)))), (7, .int (nI (sM (tB v)))), (8, .int (nI (sS (tA v)))), (9, .int (nI oa.2)), (10, .int (nI R0)), (12, .int (nI ((mtC (cM v) i) + 1))), (13, .int ((loneI (cM v) i) ||| (nI 0))), (14, .int (nI i)), (15, .int (nI j)), (16, .int (nI k))]) X dL_law_391 (show 11 < 23 by decide) rfl ?_
                    refine g_iincN (lv' := [(16, .int (nI (k + 1))), (11, .int (nI 1)), (20, .int (nI (zRe v 0 i))), (19, .int (nI (zRe v 1 k))), (18, .int (nI (zRe v 0 i))), (17, .int (nI cb)), (0, .ref b), (1, .ref (O 0 0)), (2, .ref ad), (3, .ref ae), (4, .int (nI rd)), (5, .int (celV L xs (25 + rd))), (6, .int (nI (sM (tA v)))), (7, .int (nI (sM (tB v)))), (8, .int (nI (sS (tA v)))), (9, .int (nI oa.2)), (10, .int (nI R0)), (12, .int (nI ((mtC (cM v) i) + 1))), (13, .int ((loneI (cM v) i) ||| (nI 0))), (14, .int (nI i)), (15, .int (nI j))]) X 20 dL_law_393 rfl (show 16 < 23 by decide) rfl ?_
                    refine g_goto (tgt := 255) X dL_law_396 (by decide) ?_
                    refine GG.lv [6, 7, 8, 9, 10, 11, 12, 13, 14, 15, 16, 1, 17, 18, 19, 20, 0] rfl ?_
                    exact ih_255 (k + 1) z (by omega) (by omega) (nI (k + 1)) (by rfl)
          refine GG.lv [5, 6, 7, 8, 9, 10, 11, 12, 13, 14, 15, 1, 3, 2, 16, 4, 0] rfl ?_
          exact L_255 (sM (tB v) + 1) 0 z (by omega) (by omega) (nI 0) (by rfl)
  refine GG.lv [10, 11, 12, 13, 14, 9, 8, 7, 6, 5, 4, 3, 2, 1, 0] rfl ?_
  exact L_122 (sM (tA v) + 1) 0 z (by omega) (by omega) (nI 0) (by rfl) (nI 0) (by rfl) (nI 0) (by rfl)
end LAW
