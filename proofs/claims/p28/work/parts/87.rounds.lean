/-! ===== the law: its surveys drawn; its turns ===== -/
section LK
variable {E : GE} {μ : MD} {Γ : GC} {cells slots : Nat} {lv : List (Nat × Value)} {pc idx : Nat} {rest : List Value} {O : Nat → Nat → Nat} {Q : Nat → Nat → Nat → Nat} {ad ae : Nat} {v : TV} {w : TXT} {f : Nat → Int32} {oa : PO} {ok : PO} {ta : Nat → TV} {tk : Nat → TV} {d : Nat → Int32} {e : Nat → Int32} {z : ScrT}
set_option maxHeartbeats 4000000 in
set_option maxRecDepth 100000 in
theorem k_surveys (X : CX E μ Γ) {b L : Nat} {xs : Nat → Int32} (Z : SC Γ b L xs) (hL : L < 2 ^ 31) (hw : w.2 ≤ 200) (hd0 : ∀ k, k < 48 → d k = nI 0) (hs : SSite μ.1.cls idx m_L_surveys 4) (hR : rmOK m_L_surveys μ = true) (hcat : (rest.map fun v => v.category).sum ≤ 8) (dd : decode μ.2.1 pc = .ok (.invokestatic idx, 3))
    (k : ∀ (v1 : TV) (w1 : TXT) (f1 d1 e1 : Nat → Int32) (z : ScrT), DE v1 d1 e1 → GG E μ Γ cells slots (wL E O Q ad ae v1 w1 f1 (oa.1, 0) (ok.1, 0) ta tk d1 e1 z) lv (pc + 3) (.int 1 :: rest)) (hcs : cells ≤ μ.2.2.2.2.cells ∧ slots ≤ μ.2.2.2.2.slots) : GG E μ Γ cells slots (wL E O Q ad ae v w f oa ok ta tk d e z) lv pc (.ref ae :: .ref ad :: .ref b :: .ref (O 0 0) :: rest) := by
  obtain ⟨dv, u, P, B, C, M, N, f0, g0, wv, uv⟩ := z
  have hp := sgP_perm (S := [wTS E O, wTw E (O 3 0) (O 4) (O 5) (tR v) (tN v), wSv E (O 4) (tA v), wSv E (O 5) (tB v), wTw E (O 6 0) (O 7) (O 8) (tR dv) (tN dv), wSv E (O 7) (tA dv), wSv E (O 8) (tB dv), wTx E (O 1) w, wRd E (O 2) u, wSh E (O 11) f, wPo E (O 9) (O 17) 8 oa, wPt E (O 17) (Q 0) (Q 1) 8 ta, wPo E (O 10) (O 18) 2 ok, wPt E (O 18) (Q 2) (Q 3) 2 tk, wMo E (O 12) (O 13) (O 14) P, wRw E (O 13) B, wRw E (O 14) C, wAr E (O 12 3) 8 M, wAr E (O 12 4) 8 N, wAr E (O 12 5) 8 f0, wAr E (O 12 6) 8 g0, wWy E (O 15) wv, wTr E (O 16 0) uv, wAr E ad 48 d, wAr E ae 54 e]) (is := [0, 8, 7, 1, 2, 3, 4, 5, 6, 9, 10, 12, 23, 24]) (js := [11, 13, 14, 15, 16, 17, 18, 19, 20, 21, 22]) (n := 25) rfl (by decide +kernel)
  refine g_callXP (wc := [wTS E O, wRd E (O 2) u, wTx E (O 1) w, wTw E (O 3 0) (O 4) (O 5) (tR v) (tN v), wSv E (O 4) (tA v), wSv E (O 5) (tB v), wTw E (O 6 0) (O 7) (O 8) (tR dv) (tN dv), wSv E (O 7) (tA dv), wSv E (O 8) (tB dv), wSh E (O 11) f, wPo E (O 9) (O 17) 8 oa, wPo E (O 10) (O 18) 2 ok, wAr E ad 48 d, wAr E ae 54 e].flatten) (wr := [wPt E (O 17) (Q 0) (Q 1) 8 ta, wPt E (O 18) (Q 2) (Q 3) 2 tk, wMo E (O 12) (O 13) (O 14) P, wRw E (O 13) B, wRw E (O 14) C, wAr E (O 12 3) 8 M, wAr E (O 12 4) 8 N, wAr E (O 12 5) 8 f0, wAr E (O 12 6) 8 g0, wWy E (O 15) wv, wTr E (O 16 0) uv].flatten) (As := [.ref (O 0 0), .ref b, .ref ad, .ref ae]) (rest := rest) X Z (c_L_surveys E b L xs hL O u w v dv f oa ok ad d ae e hw hd0) hs hR hp rfl rfl hcat dd hcs (fun r w' h => ?_)
  obtain ⟨rfl, u1, w1, v1, dv1, f1, d1, e1, h1, h2, rfl⟩ := h
  have hp2 := sgP_perm (S := [wTS E O, wTw E (O 3 0) (O 4) (O 5) (tR v1) (tN v1), wSv E (O 4) (tA v1), wSv E (O 5) (tB v1), wTw E (O 6 0) (O 7) (O 8) (tR dv1) (tN dv1), wSv E (O 7) (tA dv1), wSv E (O 8) (tB dv1), wTx E (O 1) w1, wRd E (O 2) u1, wSh E (O 11) f1, wPo E (O 9) (O 17) 8 (oa.1, 0), wPt E (O 17) (Q 0) (Q 1) 8 ta, wPo E (O 10) (O 18) 2 (ok.1, 0), wPt E (O 18) (Q 2) (Q 3) 2 tk, wMo E (O 12) (O 13) (O 14) P, wRw E (O 13) B, wRw E (O 14) C, wAr E (O 12 3) 8 M, wAr E (O 12 4) 8 N, wAr E (O 12 5) 8 f0, wAr E (O 12 6) 8 g0, wWy E (O 15) wv, wTr E (O 16 0) uv, wAr E ad 48 d1, wAr E ae 54 e1]) (is := [0, 8, 7, 1, 2, 3, 4, 5, 6, 9, 10, 12, 23, 24]) (js := [11, 13, 14, 15, 16, 17, 18, 19, 20, 21, 22]) (n := 25) rfl (by decide +kernel)
  exact GG.perm (List.perm_append_comm.trans hp2.symm) (k v1 w1 f1 d1 e1 (dv1, u1, P, B, C, M, N, f0, g0, wv, uv) h1)
end LK
theorem nw_L_10 : NewS RL 10 9 [.null, .null, .null, .null, .null, .null, .null, .null, .null, .null] 10 := ⟨RX9, TX9, tyX9, rfl, inT_X9, tyX9_ok, (tt_of 39 (by decide +kernel) (by decide +kernel)), (tt_of 40 (by decide +kernel) (by decide +kernel)), (tt_of 23 (by decide +kernel) (by decide +kernel)), by decide⟩
theorem is_L_90 : ISite RL 90 n_X9_init 0 := ⟨tt_cons (tt_of 43 (by decide +kernel) (by decide +kernel)), rfl, (tt_of 23 (by decide +kernel) (by decide +kernel)), Or.inl (tt_of 41 (by decide +kernel) (by decide +kernel)), (tt_of 42 (by decide +kernel) (by decide +kernel)), rfl, ⟨by decide, by decide, by decide +kernel⟩⟩
section LAW
variable {E : GE} {nm0 : String} {p : Program} {ev : Env} {s0 : State} {m : MethodId} {b : Nat} {below : List Frame} {meth : Method} {c : Code} {O : Nat → Nat → Nat} {Q : Nat → Nat → Nat → Nat} {ad ae cells slots L : Nat} {xs : Nat → Int32} {v : TV} {w : TXT} {f : Nat → Int32} {oa : PO} {ok : PO} {ta : Nat → TV} {tk : Nat → TV} {d : Nat → Int32} {e : Nat → Int32}
/-- the law's end -/
theorem lw_end (X : CX E (m_L nm0) (GL p ev s0 m b below meth c)) {ws : va_W} {lv : List (Nat × Value)} (hcs : cells ≤ 600000 ∧ slots ≤ 7302250) : GG E (m_L nm0) (GL p ev s0 m b below meth c) cells slots ws lv 1634 [.int 1] := by
  intro H locs ls hP hD hS hl
  exact va_forget (fun q hq => hS.2.2 q hq) (W.widen hcs.1 hcs.2 (lw_ret (l := E.1) X.1.1 X.1.2.1 X.2.2.2.1 X.2.2.2.2.1 dL_law_1634))
set_option maxHeartbeats 4000000 in
set_option maxRecDepth 100000 in
theorem lw_rounds (X : CX E (m_L nm0) (GL p ev s0 m b below meth c)) (hX : SC (GL p ev s0 m b below meth c) b L xs) (hL : L < 2 ^ 31) (hcs : cells ≤ 600000 ∧ slots ≤ 7302250) : ∀ (n rd : Nat), rd ≤ 6 → 6 - rd < n → ∀ (v : TV) (w : TXT) (f : Nat → Int32) (oa ok : PO) (ta tk : Nat → TV) (d e : Nat → Int32) (z : ScrT), DE v d e → ordO 8 oa → ordO 2 ok → ok.2 = 0 → GG E (m_L nm0) (GL p ev s0 m b below meth c) cells slots (wL E O Q ad ae v w f oa ok ta tk d e z) [(0, .ref b), (1, .ref (O 0 0)), (2, .ref ad), (3, .ref ae), (4, .int (nI rd))] 33 []
  | 0, rd, _, h, _, _, _, _, _, _, _, _, _, _, _, _, _, _ => absurd h (Nat.not_lt_zero _)
  | n + 1, rd, h6, hn, v, w, f, oa, ok, ta, tk, d, e, z, hd, ho, hk, hk0 => by
    refine g_iload X 4 dL_law_33 rfl ?_
    refine g_bipush (v := nI 6) X dL_law_35 rfl ?_
    refine g_icmp_ge (tgt := 1628) X dL_law_37 (by decide) (fun c_37 => ?_) (fun c_37 => ?_)
    · refine g_aload_n X 1 dL_law_1628 rfl ?_
      refine g_aload_n X 2 dL_law_1629 rfl ?_
      refine g_aload_n X 3 dL_law_1630 rfl ?_
      refine k_alike X hd cs_L_95 rfl (Nat.le_of_ble_eq_true rfl) dL_law_1631 ?_ hcs
      rw [show b2i true = (1 : Int32) from rfl]
      exact lw_end X hcs
    · have hrd : rd < 6 := n_nle (by omega) (by omega) c_37
      obtain ⟨R0, hR1, hR2, hR⟩ := hd.1.1.2.2.2.2.2.1
      refine lw_s1 X hX hL hcs rd R0 hrd hd hR hR1 hR2 (fun z => ?_)
      refine lw_s2 X hX hL hcs rd R0 hrd hd hR hR1 hR2 (fun z => ?_)
      refine lw_s3 X hX hL hcs rd R0 hrd hd hR hR1 hR2 (fun z => ?_)
      refine lw_s4 X hX hL hcs rd R0 hrd hd hR hR1 hR2 ho hk hk0 (fun v2 oa2 ta2 ok1 tk1 x0 z a1 a2 a3 a4 a5 a6 => ?_)
      refine lw_s5 X hX hL hcs rd R0 hrd hd hR hR1 hR2 ho a1 a2 a3 a4 a5 a6 (fun v5 oa5 ta3 ok5 z b1 b2 b3 b4 b5 => ?_)
      refine lw_s6 X hX hL hcs rd R0 _ _ _ _ _ hrd b1 (sm_uni b1 hd).1 (sm_uni b1 hd).2 (fun v' h' => mt_uni h' hd) b2 b3 (fun i v9 oa9 ta7 z g1 g2 g3 => ?_)
      refine lw_s7 X hX hL hcs rd R0 _ _ _ _ _ hrd g2 (sm_uni g2 hd).1 (sm_uni g2 hd).2 (fun v' h' => mt_uni h' hd) g3 i g1 (fun f z => ?_)
      refine lw_s8 X hX hL hcs rd R0 _ _ _ _ _ hrd g2 (sm_uni g2 hd).1 (sm_uni g2 hd).2 (fun v' h' => mt_uni h' hd) g3 i g1 (fun v1 oa1 ta1 d1 e1 z q1 q2 => ?_)
      exact lw_rounds X hX hL hcs n (rd + 1) (by omega) (by omega) v1 w f oa1 ok5 ta1 tk1 d1 e1 z q1 q2 b4 b5
theorem id_ordO8 (N : Nat) : ordO N ((fun i => i), 0) := ⟨Nat.zero_le N, fun k hk => hk, fun i j _ _ e => e⟩
end LAW
