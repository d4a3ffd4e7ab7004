/-! ===== the law: its loop ===== -/
section LOOP
variable {E : GE} {nm0 : String} {p : Program} {e : Env} {s0 : State} {m : MethodId} {b : Nat} {below : List Frame} {meth : Method} {c : Code} {O : Nat → Nat → Nat} {Q : Nat → Nat → Nat → Nat} {a : Nat → Nat} {cells slots L : Nat} {xs : Nat → Int32}
abbrev GL (p : Program) (e : Env) (s0 : State) (m : MethodId) (b : Nat) (below : List Frame) (meth : Method) (c : Code) : GC := (p, e, s0, m, #[Value.ref b], below, meth, c, (fun q => s0.heap.size ≤ q), lw_Z below #[Value.ref b] s0)
/-- the law's end -/
theorem lw_end (X : CX E (m_L nm0) (GL p e s0 m b below meth c)) {ws : va_W} {lv : List (Nat × Value)} (hcs : cells ≤ 600000 ∧ slots ≤ 7302250) : GG E (m_L nm0) (GL p e s0 m b below meth c) cells slots ws lv 919 [] := by
  refine g_iconst (v := 1) X dL_law_919 rfl ?_
  intro H locs ls hP hD hS hl
  exact va_forget (fun q hq => hS.2.2 q hq) (W.widen hcs.1 hcs.2 (lw_ret (l := E.1) X.1.1 X.1.2.1 X.2.2.2.1 X.2.2.2.2.1 dL_law_920))
set_option maxHeartbeats 4000000 in
set_option maxRecDepth 100000 in
theorem lw_loop (X : CX E (m_L nm0) (GL p e s0 m b below meth c)) (hX : SC (GL p e s0 m b below meth c) b L xs) (hL : L ≤ 2560) (hcs : cells ≤ 600000 ∧ slots ≤ 7302250) : ∀ (n kk : Nat), kk ≤ L → L - kk < n → NX E nm0 (GL p e s0 m b below meth c) O Q a b kk cells slots 18
  | 0, kk, _, h => absurd h (Nat.not_lt_zero _)
  | n + 1, kk, hkk, hn => by
    have next : kk + 5 ≤ L → NX E nm0 (GL p e s0 m b below meth c) O Q a b kk cells slots 913 := by
      intro h5 v dv w u f oa ok ta tk P B C M N f0 g0 wv uv s mm ss kd xo yo fr tt nm ah sv asd be nx mt ot pa sh tx bf h
      refine g_iinc (v := nI (kk + 5)) (lv' := [(3, .int (nI (kk + 5))), (0, .ref b), (1, .ref (O 0 0)), (2, .ref (a 0))]) X 3 dL_law_913 rfl (by rw [← nI_add]; rfl) (show 3 < 4 by decide) rfl ?_
      refine g_goto (tgt := 18) X dL_law_916 (by decide) ?_
      refine GG.lv [1, 2, 3, 0] rfl ?_
      exact lw_loop X hX hL hcs n (kk + 5) h5 (by omega) v dv w u f oa ok ta tk P B C M N f0 g0 wv uv s mm ss kd xo yo fr tt nm ah sv asd be nx mt ot pa sh tx bf h
    intro v dv w u f oa ok ta tk P B C M N f0 g0 wv uv s mm ss kd xo yo fr tt nm ah sv asd be nx mt ot pa sh tx bf h
    refine g_iload_n X 3 dL_law_18 rfl ?_
    refine g_aload_n X 0 dL_law_19 rfl ?_
    refine g_xlen X hX dL_law_20 ?_
    refine g_iconst (v := nI 5) X dL_law_21 rfl ?_
    refine g_isub X dL_law_22 ?_
    refine g_icmp_gt (tgt := 919) X dL_law_23 (by decide) (fun _ => lw_end X hcs) (fun hle => ?_)
    have hk : kk + 5 ≤ L := by
      rw [i_lt, pk_sub_toInt (by omega) (by decide), nI_toInt (by omega)] at hle
      omega
    have next := next hk
    refine g_aload_n X 0 dL_law_26 rfl ?_
    refine g_iload_n X 3 dL_law_27 rfl ?_
    refine g_xld X hX (show kk < L by omega) (by omega) dL_law_28 ?_
    refine g_bipush (v := nI 31) X dL_law_29 rfl ?_
    refine g_iand X dL_law_31 ?_
    obtain ⟨j, hj, ej⟩ := pk_andE (xs kk) (m := nI 31) 5 (by decide)
    have hj : j < 32 := hj
    rw [ej]
    by_cases w_0 : j = 0
    · subst w_0
      refine g_tsIn (tgt := 148) X 0 dL_law_32 (by decide) (by decide) (by decide) rfl (by decide) ?_
      exact lw_op_write X hX hk hL hcs next v dv w u f oa ok ta tk P B C M N f0 g0 wv uv s mm ss kd xo yo fr tt nm ah sv asd be nx mt ot pa sh tx bf h
    by_cases w_1 : j = 1
    · subst w_1
      refine g_tsIn (tgt := 171) X 1 dL_law_32 (by decide) (by decide) (by decide) rfl (by decide) ?_
      exact lw_op_wipe X hX hk hL hcs next v dv w u f oa ok ta tk P B C M N f0 g0 wv uv s mm ss kd xo yo fr tt nm ah sv asd be nx mt ot pa sh tx bf h
    by_cases w_2 : j = 2
    · subst w_2
      refine g_tsIn (tgt := 184) X 2 dL_law_32 (by decide) (by decide) (by decide) rfl (by decide) ?_
      exact lw_op_fault X hX hk hL hcs next v dv w u f oa ok ta tk P B C M N f0 g0 wv uv s mm ss kd xo yo fr tt nm ah sv asd be nx mt ot pa sh tx bf h
    by_cases w_3 : j = 3
    · subst w_3
      refine g_tsIn (tgt := 197) X 3 dL_law_32 (by decide) (by decide) (by decide) rfl (by decide) ?_
      exact lw_op_lay X hX hk hL hcs next v dv w u f oa ok ta tk P B C M N f0 g0 wv uv s mm ss kd xo yo fr tt nm ah sv asd be nx mt ot pa sh tx bf h
    by_cases w_4 : j = 4
    · subst w_4
      refine g_tsIn (tgt := 210) X 4 dL_law_32 (by decide) (by decide) (by decide) rfl (by decide) ?_
      exact lw_op_meeting X hX hk hL hcs next v dv w u f oa ok ta tk P B C M N f0 g0 wv uv s mm ss kd xo yo fr tt nm ah sv asd be nx mt ot pa sh tx bf h
    by_cases w_5 : j = 5
    · subst w_5
      refine g_tsIn (tgt := 253) X 5 dL_law_32 (by decide) (by decide) (by decide) rfl (by decide) ?_
      exact lw_op_street X hX hk hL hcs next v dv w u f oa ok ta tk P B C M N f0 g0 wv uv s mm ss kd xo yo fr tt nm ah sv asd be nx mt ot pa sh tx bf h
    by_cases w_6 : j = 6
    · subst w_6
      refine g_tsIn (tgt := 296) X 6 dL_law_32 (by decide) (by decide) (by decide) rfl (by decide) ?_
      exact lw_op_move X hX hk hL hcs next v dv w u f oa ok ta tk P B C M N f0 g0 wv uv s mm ss kd xo yo fr tt nm ah sv asd be nx mt ot pa sh tx bf h
    by_cases w_7 : j = 7
    · subst w_7
      refine g_tsIn (tgt := 349) X 7 dL_law_32 (by decide) (by decide) (by decide) rfl (by decide) ?_
      exact lw_op_rename X hX hk hL hcs next v dv w u f oa ok ta tk P B C M N f0 g0 wv uv s mm ss kd xo yo fr tt nm ah sv asd be nx mt ot pa sh tx bf h
    by_cases w_8 : j = 8
    · subst w_8
      refine g_tsIn (tgt := 392) X 8 dL_law_32 (by decide) (by decide) (by decide) rfl (by decide) ?_
      exact lw_op_name X hX hk hL hcs next v dv w u f oa ok ta tk P B C M N f0 g0 wv uv s mm ss kd xo yo fr tt nm ah sv asd be nx mt ot pa sh tx bf h
    by_cases w_9 : j = 9
    · subst w_9
      refine g_tsIn (tgt := 435) X 9 dL_law_32 (by decide) (by decide) (by decide) rfl (by decide) ?_
      exact lw_op_join X hX hk hL hcs next v dv w u f oa ok ta tk P B C M N f0 g0 wv uv s mm ss kd xo yo fr tt nm ah sv asd be nx mt ot pa sh tx bf h
    by_cases w_10 : j = 10
    · subst w_10
      refine g_tsIn (tgt := 488) X 10 dL_law_32 (by decide) (by decide) (by decide) rfl (by decide) ?_
      exact lw_op_cut X hX hk hL hcs next v dv w u f oa ok ta tk P B C M N f0 g0 wv uv s mm ss kd xo yo fr tt nm ah sv asd be nx mt ot pa sh tx bf h
    by_cases w_11 : j = 11
    · subst w_11
      refine g_tsIn (tgt := 521) X 11 dL_law_32 (by decide) (by decide) (by decide) rfl (by decide) ?_
      exact lw_op_tune X hX hk hL hcs next v dv w u f oa ok ta tk P B C M N f0 g0 wv uv s mm ss kd xo yo fr tt nm ah sv asd be nx mt ot pa sh tx bf h
    by_cases w_12 : j = 12
    · subst w_12
      refine g_tsIn (tgt := 554) X 12 dL_law_32 (by decide) (by decide) (by decide) rfl (by decide) ?_
      exact lw_op_undo X hX hk hL hcs next v dv w u f oa ok ta tk P B C M N f0 g0 wv uv s mm ss kd xo yo fr tt nm ah sv asd be nx mt ot pa sh tx bf h
    by_cases w_13 : j = 13
    · subst w_13
      refine g_tsIn (tgt := 567) X 13 dL_law_32 (by decide) (by decide) (by decide) rfl (by decide) ?_
      exact lw_op_belief X hX hk hL hcs next v dv w u f oa ok ta tk P B C M N f0 g0 wv uv s mm ss kd xo yo fr tt nm ah sv asd be nx mt ot pa sh tx bf h
    by_cases w_14 : j = 14
    · subst w_14
      refine g_tsIn (tgt := 600) X 14 dL_law_32 (by decide) (by decide) (by decide) rfl (by decide) ?_
      exact lw_op_match X hX hk hL hcs next v dv w u f oa ok ta tk P B C M N f0 g0 wv uv s mm ss kd xo yo fr tt nm ah sv asd be nx mt ot pa sh tx bf h
    by_cases w_15 : j = 15
    · subst w_15
      refine g_tsIn (tgt := 633) X 15 dL_law_32 (by decide) (by decide) (by decide) rfl (by decide) ?_
      exact lw_op_told X hX hk hL hcs next v dv w u f oa ok ta tk P B C M N f0 g0 wv uv s mm ss kd xo yo fr tt nm ah sv asd be nx mt ot pa sh tx bf h
    by_cases w_16 : j = 16
    · subst w_16
      refine g_tsIn (tgt := 666) X 16 dL_law_32 (by decide) (by decide) (by decide) rfl (by decide) ?_
      exact lw_op_named X hX hk hL hcs next v dv w u f oa ok ta tk P B C M N f0 g0 wv uv s mm ss kd xo yo fr tt nm ah sv asd be nx mt ot pa sh tx bf h
    by_cases w_17 : j = 17
    · subst w_17
      refine g_tsIn (tgt := 689) X 17 dL_law_32 (by decide) (by decide) (by decide) rfl (by decide) ?_
      exact lw_op_comes X hX hk hL hcs next v dv w u f oa ok ta tk P B C M N f0 g0 wv uv s mm ss kd xo yo fr tt nm ah sv asd be nx mt ot pa sh tx bf h
    by_cases w_18 : j = 18
    · subst w_18
      refine g_tsIn (tgt := 722) X 18 dL_law_32 (by decide) (by decide) (by decide) rfl (by decide) ?_
      exact lw_op_whole X hX hk hL hcs next v dv w u f oa ok ta tk P B C M N f0 g0 wv uv s mm ss kd xo yo fr tt nm ah sv asd be nx mt ot pa sh tx bf h
    by_cases w_19 : j = 19
    · subst w_19
      refine g_tsIn (tgt := 745) X 19 dL_law_32 (by decide) (by decide) (by decide) rfl (by decide) ?_
      exact lw_op_shelve X hX hk hL hcs next v dv w u f oa ok ta tk P B C M N f0 g0 wv uv s mm ss kd xo yo fr tt nm ah sv asd be nx mt ot pa sh tx bf h
    by_cases w_20 : j = 20
    · subst w_20
      refine g_tsIn (tgt := 788) X 20 dL_law_32 (by decide) (by decide) (by decide) rfl (by decide) ?_
      exact lw_op_shelf X hX hk hL hcs next v dv w u f oa ok ta tk P B C M N f0 g0 wv uv s mm ss kd xo yo fr tt nm ah sv asd be nx mt ot pa sh tx bf h
    by_cases w_21 : j = 21
    · subst w_21
      refine g_tsIn (tgt := 821) X 21 dL_law_32 (by decide) (by decide) (by decide) rfl (by decide) ?_
      exact lw_op_day X hX hk hL hcs next v dv w u f oa ok ta tk P B C M N f0 g0 wv uv s mm ss kd xo yo fr tt nm ah sv asd be nx mt ot pa sh tx bf h
    by_cases w_22 : j = 22
    · subst w_22
      refine g_tsIn (tgt := 864) X 22 dL_law_32 (by decide) (by decide) (by decide) rfl (by decide) ?_
      exact lw_op_keep X hX hk hL hcs next v dv w u f oa ok ta tk P B C M N f0 g0 wv uv s mm ss kd xo yo fr tt nm ah sv asd be nx mt ot pa sh tx bf h
    by_cases w_23 : j = 23
    · subst w_23
      refine g_tsIn (tgt := 877) X 23 dL_law_32 (by decide) (by decide) (by decide) rfl (by decide) ?_
      exact lw_op_back X hX hk hL hcs next v dv w u f oa ok ta tk P B C M N f0 g0 wv uv s mm ss kd xo yo fr tt nm ah sv asd be nx mt ot pa sh tx bf h
    by_cases w_24 : j = 24
    · subst w_24
      refine g_tsIn (tgt := 890) X 24 dL_law_32 (by decide) (by decide) (by decide) rfl (by decide) ?_
      exact lw_op_count X hX hk hL hcs next v dv w u f oa ok ta tk P B C M N f0 g0 wv uv s mm ss kd xo yo fr tt nm ah sv asd be nx mt ot pa sh tx bf h
    refine g_tsOut (tgt := 913) X dL_law_32 (Or.inr (by rw [nI_toInt (by omega)]; omega)) (by decide) ?_
    exact next v dv w u f oa ok ta tk P B C M N f0 g0 wv uv s mm ss kd xo yo fr tt nm ah sv asd be nx mt ot pa sh tx bf h
end LOOP
