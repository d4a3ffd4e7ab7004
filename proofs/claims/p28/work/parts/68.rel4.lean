/-! ===== acts: the same answers, the same states ===== -/
section REL
variable {v : TV} {w : (Nat → Int32) × Nat} {f : Nat → Int32} {oa ok : PO} {ta tk : Nat → TV} {s : MD0} {mm ss : Nat → Nat} {kd xo yo fr tt nm ah sv sh tx : Nat → Int32}
theorem Rel_act (h : Rel v w f oa ok ta tk s mm ss kd xo yo fr tt nm ah sv sh tx) {v' : TV} {s' : MD0} {mm' ss' : Nat → Nat} {kd' xo' yo' fr' tt' nm' : Nat → Int32} (hv : RT1 v' (dR s', dN0 s', mm', ss', kd', xo', yo', fr', tt', nm')) (hU : dU s' = ntU (dU s)) (hS : dS s' = dS s) (hK : dK s' = dK s) :
    Rel v' w f (pushO 8 oa) ok (pushT 8 oa ta v) tk s' mm' ss' kd' xo' yo' fr' tt' nm' (ntA s mm ss kd xo yo fr tt nm ah) sv sh tx := by
  obtain ⟨h1, h2, h3, ⟨h4, h5, h6⟩, h7⟩ := h
  refine ⟨hv, by rw [hS]; exact h2, h3, ⟨?_, ordO_push h5 (by decide), ?_⟩, by rw [hK]; exact h7⟩
  · rw [hU, h4]
    show ntU oa.2 = plH oa.2 8
    unfold ntU plH
    have := h5.1
    by_cases e : oa.2 = 8
    · rw [if_pos e, if_neg (by omega)]
    · rw [if_neg e, if_pos (by omega)]
  · unfold ntA
    rw [h4]
    exact stk_push8 h6 h5 h1
theorem mv_AB {S : SN} (h : RT v S) (z i x y : Int32) : mvA v z i x y = rMvA (nM S) z i x y ∧ mvB v z i x y = rMvB (nM S) (nX S) (nY S) z i x y := by
  have hA : mvA v z i x y = rMvA (nM S) z i x y := by unfold mvA rMvA; rw [hasM_eq h]
  refine ⟨hA, ?_⟩
  unfold mvB rMvB
  rw [← hA]
  cases ha : mvA v z i x y with
  | false => rfl
  | true =>
    simp only [mvA, Bool.and_eq_true] at ha
    obtain ⟨g, j, hi, rfl, hj, ej, -, er⟩ := hasM_ex h ha.1
    obtain ⟨-, -, h1, -⟩ := hi
    obtain ⟨-, e2, e3⟩ := h1.2.2.1 j hj
    rw [ej, er, e2, e3]
theorem R_move (h : Rel v w f oa ok ta tk s mm ss kd xo yo fr tt nm ah sv sh tx) (z i x y : Int32) : mvV v z i x y = rMvV mm xo yo z i x y ∧
    Rel (if mvB v z i x y then tPut v z (svPut (svOf v z) i.toNatClampNeg x y) else v) w f (if mvB v z i x y then pushO 8 oa else oa) ok (if mvB v z i x y then pushT 8 oa ta v else ta) tk (if rMvB mm xo yo z i x y then ntS s else s) mm ss kd (if rMvB mm xo yo z i x y then upd xo (rIx z i) x else xo) (if rMvB mm xo yo z i x y then upd yo (rIx z i) y else yo) fr tt nm (if rMvB mm xo yo z i x y then ntA s mm ss kd xo yo fr tt nm ah else ah) sv sh tx := by
  obtain ⟨hA, hB⟩ := mv_AB h.1.1 z i x y
  have hB' : rMvB mm xo yo z i x y = mvB v z i x y := hB.symm
  have hA' : rMvA mm z i x y = mvA v z i x y := hA.symm
  unfold mvV rMvV
  rw [hB', hA']
  refine ⟨rfl, ?_⟩
  cases hb : mvB v z i x y with
  | false => exact h
  | true =>
    simp only [if_true]
    simp only [mvB, mvA, Bool.and_eq_true] at hb
    obtain ⟨g, j, hi, rfl, hj, ej, h8, er⟩ := hasM_ex h.1.1 hb.1.1
    obtain ⟨a, ha, rfl⟩ := inR_nI hb.1.2.1 (by decide)
    obtain ⟨b, hb1, rfl⟩ := inR_nI hb.1.2.2 (by decide)
    rw [ej, er]
    obtain ⟨p1, p2⟩ := put_ok hi.2.2.1 hi.2.2.2.1 hj ha hb1
    refine Rel_act h ⟨RT_put h.1.1 hi p1 p2 (same_put hi.1 h8 _ _) ⟨okXY_upd h.1.1.2.2.2.2.1.1 ha, okXY_upd h.1.1.2.2.2.2.1.2 hb1⟩ rfl rfl, tPut_M hi h.1.2 ?_⟩ rfl rfl rfl
    exact inS_M hi h.1.2
theorem rn_AB {S : SN} (h : RT v S) (z i k : Int32) : rnA v z i k = rRnA (nM S) 3 z i k ∧ rnB v z i k = rRnB (nM S) 3 (nKd S) z i k ∧ rnV v z i k = rRnV (nM S) 3 (nKd S) z i k := by
  have hA : rnA v z i k = rRnA (nM S) 3 z i k := by unfold rnA rRnA; rw [hasM_eq h]
  refine ⟨hA, ?_⟩
  unfold rnV rRnV rnB rRnB
  rw [← hA]
  cases ha : rnA v z i k with
  | false => exact ⟨rfl, rfl⟩
  | true =>
    simp only [rnA, Bool.and_eq_true] at ha
    obtain ⟨g, j, hi, rfl, hj, ej, -, er⟩ := hasM_ex h ha.1
    obtain ⟨-, -, h1, -⟩ := hi
    obtain ⟨e1, -⟩ := h1.2.2.1 j hj
    rw [ej, er, e1]
    exact ⟨rfl, rfl⟩
theorem R_rename (h : Rel v w f oa ok ta tk s mm ss kd xo yo fr tt nm ah sv sh tx) (z i k : Int32) : rnV v z i k = rRnV mm 3 kd z i k ∧
    Rel (if rnB v z i k then tPut v z (svKind (svOf v z) i.toNatClampNeg k) else v) w f (if rnB v z i k then pushO 8 oa else oa) ok (if rnB v z i k then pushT 8 oa ta v else ta) tk (if rRnB mm 3 kd z i k then ntS s else s) mm ss (if rRnB mm 3 kd z i k then upd kd (rIx z i) k else kd) xo yo fr tt nm (if rRnB mm 3 kd z i k then ntA s mm ss kd xo yo fr tt nm ah else ah) sv sh tx := by
  obtain ⟨hA, hB, hV⟩ := rn_AB h.1.1 z i k
  refine ⟨hV, ?_⟩
  have hB' : rRnB mm 3 kd z i k = rnB v z i k := hB.symm
  rw [hB']
  cases hb : rnB v z i k with
  | false => exact h
  | true =>
    simp only [if_true]
    simp only [rnB, rnA, Bool.and_eq_true] at hb
    obtain ⟨g, j, hi, rfl, hj, ej, h8, er⟩ := hasM_ex h.1.1 hb.1.1
    rw [ej, er]
    obtain ⟨p1, p2⟩ := kind_ok hi.2.2.1 hi.2.2.2.1 j k
    refine Rel_act h ⟨RT_put h.1.1 hi p1 p2 (same_kind hi.1 h8 _) h.1.1.2.2.2.2.1 rfl rfl, tPut_M hi h.1.2 ?_⟩ rfl rfl rfl
    exact inS_M hi h.1.2
theorem nm_AB {S : SN} (h : RT v S) (z i k : Int32) : nmA v z i k = rRnA (nS S) 9 z i k ∧ nmB v z i k = rRnB (nS S) 9 (nNm S) z i k ∧ nmV v z i k = rRnV (nS S) 9 (nNm S) z i k := by
  have hA : nmA v z i k = rRnA (nS S) 9 z i k := by unfold nmA rRnA; rw [hasS_eq h]
  refine ⟨hA, ?_⟩
  unfold nmV rRnV nmB rRnB
  rw [← hA]
  cases ha : nmA v z i k with
  | false => exact ⟨rfl, rfl⟩
  | true =>
    simp only [nmA, Bool.and_eq_true] at ha
    obtain ⟨g, j, hi, rfl, hj, ej, -, er⟩ := hasS_ex h ha.1
    obtain ⟨-, -, h1, -⟩ := hi
    obtain ⟨-, -, e1⟩ := h1.2.2.2 j hj
    rw [ej, er, e1]
    exact ⟨rfl, rfl⟩
theorem R_name (h : Rel v w f oa ok ta tk s mm ss kd xo yo fr tt nm ah sv sh tx) (z i k : Int32) : nmV v z i k = rRnV ss 9 nm z i k ∧
    Rel (if nmB v z i k then tPut v z (svName (svOf v z) i.toNatClampNeg k) else v) w f (if nmB v z i k then pushO 8 oa else oa) ok (if nmB v z i k then pushT 8 oa ta v else ta) tk (if rRnB ss 9 nm z i k then ntS s else s) mm ss kd xo yo fr tt (if rRnB ss 9 nm z i k then upd nm (rIx z i) k else nm) (if rRnB ss 9 nm z i k then ntA s mm ss kd xo yo fr tt nm ah else ah) sv sh tx := by
  obtain ⟨hA, hB, hV⟩ := nm_AB h.1.1 z i k
  refine ⟨hV, ?_⟩
  have hB' : rRnB ss 9 nm z i k = nmB v z i k := hB.symm
  rw [hB']
  cases hb : nmB v z i k with
  | false => exact h
  | true =>
    simp only [if_true]
    simp only [nmB, nmA, Bool.and_eq_true] at hb
    obtain ⟨g, j, hi, rfl, hj, ej, h8, er⟩ := hasS_ex h.1.1 hb.1.1
    rw [ej, er]
    obtain ⟨p1, p2⟩ := name_ok hi.2.2.1 hi.2.2.2.1 j k
    refine Rel_act h ⟨RT_put h.1.1 hi p1 p2 (same_name hi.1 h8 _) h.1.1.2.2.2.2.1 rfl rfl, tPut_M hi h.1.2 ?_⟩ rfl rfl rfl
    exact inS_M hi h.1.2
theorem hasM_N {S : SN} (h : RT v S) {z i : Int32} (hh : hasM v z i = true) : hasN (sM (svOf v z)) i = true := by
  have h0 := h.ok.1.1
  have h1 := h.ok.2.1.1
  obtain ⟨g, j, hi, rfl, hj, -, h8, -⟩ := hasM_ex h hh
  exact hasN_t hj (by have := hi.2.2.2.1.1.1; omega)
theorem jn_AB {S : SN} (h : RT v S) (z x y n : Int32) : jnA v z x y n = rJnA (nM S) z x y n ∧ jnB v z x y n = rJnB (nM S) (nS S) (nF S) (nT S) z x y n ∧ jnV v z x y n = rJnV (nM S) (nS S) (nF S) (nT S) z x y n := by
  have hA : jnA v z x y n = rJnA (nM S) z x y n := by unfold jnA rJnA; rw [hasM_eq h, hasM_eq h]
  refine ⟨hA, ?_⟩
  unfold jnV rJnV jnB rJnB
  rw [← hA]
  cases ha : jnA v z x y n with
  | false => exact ⟨rfl, rfl⟩
  | true =>
    have ha2 := ha
    simp only [jnA, Bool.and_eq_true, decide_eq_true_eq] at ha
    obtain ⟨g, j, hi, -, hj, -, -, -⟩ := hasM_ex h ha.1
    obtain ⟨hg2, rfl, h1, h2, h3, h4, h5⟩ := hi
    have hs8 := h2.1.2
    have e1 : decide (oI (sbF (svOf v (nI g)) x y) = -1) = decide (rBet (nS S) (nF S) (nT S) g x y = -4) := decide_eq_decide.mpr (bet_iff h1 h2 x y)
    have e2 : decide (sS (svOf v (nI g)) < 8) = decide (¬ nS S g = 8) := decide_eq_decide.mpr (by rw [← h1.2.1]; omega)
    rw [h4, h5, e1, e2]
    refine ⟨rfl, ?_⟩
    simp only [if_true]
    by_cases hb : oI (sbF (svOf v (nI g)) x y) = -1
    · rw [if_pos hb, if_pos ((bet_iff h1 h2 x y).mp hb)]
      by_cases h8 : sS (svOf v (nI g)) < 8
      · have had : addSok (svOf v (nI g)) x y n = true := by
          simp only [addSok, Bool.and_eq_true, decide_eq_true_eq]
          exact ⟨h8, hasM_N h ha.1, hasM_N h ha.2.1, ha.2.2.1, hb, ha.2.2.2⟩
        rw [if_pos h8, if_neg (by rw [← h1.2.1]; omega), ← h1.2.1]
        unfold svAddS
        rw [if_pos had]
      · rw [if_neg h8, if_pos (by rw [← h1.2.1]; omega)]
    · rw [if_neg hb, if_neg (fun q => hb ((bet_iff h1 h2 x y).mpr q))]
theorem R_join (h : Rel v w f oa ok ta tk s mm ss kd xo yo fr tt nm ah sv sh tx) (z x y n : Int32) : jnV v z x y n = rJnV mm ss fr tt z x y n ∧
    Rel (if jnB v z x y n then tPut v z (svAddS (svOf v z) x y n) else v) w f (if jnB v z x y n then pushO 8 oa else oa) ok (if jnB v z x y n then pushT 8 oa ta v else ta) tk (if rJnB mm ss fr tt z x y n then ntS s else s) mm (if rJnB mm ss fr tt z x y n then upN ss z.toNatClampNeg (mmOf ss z + 1) else ss) kd xo yo (if rJnB mm ss fr tt z x y n then upd fr (8 * z.toNatClampNeg + mmOf ss z) x else fr) (if rJnB mm ss fr tt z x y n then upd tt (8 * z.toNatClampNeg + mmOf ss z) y else tt) (if rJnB mm ss fr tt z x y n then upd nm (8 * z.toNatClampNeg + mmOf ss z) n else nm) (if rJnB mm ss fr tt z x y n then ntA s mm ss kd xo yo fr tt nm ah else ah) sv sh tx := by
  obtain ⟨hA, hB, hV⟩ := jn_AB h.1.1 z x y n
  refine ⟨hV, ?_⟩
  have hB' : rJnB mm ss fr tt z x y n = jnB v z x y n := hB.symm
  rw [hB']
  cases hb : jnB v z x y n with
  | false => exact h
  | true =>
    simp only [if_true]
    simp only [jnB, jnA, Bool.and_eq_true, decide_eq_true_eq] at hb
    obtain ⟨⟨hx, hy, hne, hn⟩, hs, h8⟩ := hb
    have hx' := hasM_N h.1.1 hx
    have hy' := hasM_N h.1.1 hy
    obtain ⟨g, j, hi, -, hj, -, -, -⟩ := hasM_ex h.1.1 hx
    have hM := inS_M hi h.1.2
    have had : addSok (svOf v z) x y n = true := by
      simp only [addSok, Bool.and_eq_true, decide_eq_true_eq]
      exact ⟨h8, hx', hy', hne, hs, hn⟩
    have h4 : mmOf ss z = ss g := hi.2.2.2.2.2.1
    have h5 := hi.2.2.2.2.2.2
    have e8 : ss g < 8 := by
      have : sS (svOf v z) = ss g := hi.2.2.1.2.1
      omega
    rw [h4, h5]
    obtain ⟨p1, p2⟩ := join_ok hi.2.2.1 hi.2.2.2.1 had
    refine Rel_act h ⟨RT_put h.1.1 hi p1 p2 (same_join hi.1 e8 _ _ _ _) h.1.1.2.2.2.2.1 rfl rfl, tPut_M hi h.1.2 ?_⟩ rfl rfl rfl
    unfold svAddS
    rw [if_pos had]
    exact hM
theorem R_cut (h : Rel v w f oa ok ta tk s mm ss kd xo yo fr tt nm ah sv sh tx) (z i : Int32) : ctV v z i = (if hasR ss z i then nI (mmOf ss z - 1) else -1) ∧
    Rel (if hasS v z i then tPut v z (svDrop (svOf v z) i.toNatClampNeg) else v) w f (if hasS v z i then pushO 8 oa else oa) ok (if hasS v z i then pushT 8 oa ta v else ta) tk (if hasR ss z i then ntS s else s) mm (if hasR ss z i then upN ss z.toNatClampNeg (mmOf ss z - 1) else ss) kd xo yo (if hasR ss z i then shG fr (rIx z i) (8 * z.toNatClampNeg + (mmOf ss z - 1)) else fr) (if hasR ss z i then shG tt (rIx z i) (8 * z.toNatClampNeg + (mmOf ss z - 1)) else tt) (if hasR ss z i then shG nm (rIx z i) (8 * z.toNatClampNeg + (mmOf ss z - 1)) else nm) (if hasR ss z i then ntA s mm ss kd xo yo fr tt nm ah else ah) sv sh tx := by
  have hB' : hasR ss z i = hasS v z i := (hasS_eq h.1.1 z i).symm
  unfold ctV
  rw [hB']
  cases hb : hasS v z i with
  | false => exact ⟨rfl, h⟩
  | true =>
    simp only [if_true]
    obtain ⟨g, j, hi, rfl, hj, ej, h8, er⟩ := hasS_ex h.1.1 hb
    have h4 : mmOf ss z = ss g := hi.2.2.2.2.2.1
    have h5 := hi.2.2.2.2.2.2
    have e1 : sS (svOf v z) = ss g := hi.2.2.1.2.1
    have hs8 : ss g ≤ 8 := h.1.1.ss g hi.1
    rw [h4, h5, ej, er, e1]
    refine ⟨rfl, ?_⟩
    obtain ⟨p1, p2⟩ := drop_ok hi.2.2.1 hi.2.2.2.1 hj
    refine Rel_act h ⟨RT_put h.1.1 hi p1 p2 (same_drop hi.1 (by show j < ss g; omega) hs8 _) h.1.1.2.2.2.2.1 rfl rfl, tPut_M hi h.1.2 ?_⟩ rfl rfl rfl
    exact inS_M hi h.1.2
theorem R_tune (h : Rel v w f oa ok ta tk s mm ss kd xo yo fr tt nm ah sv sh tx) (q x : Int32) : tnV v q x = rTnV s q x ∧
    Rel (tnT v q x) w f (if tnB v q x then pushO 8 oa else oa) ok (if tnB v q x then pushT 8 oa ta v else ta) tk (rTnS s q x) mm ss kd xo yo fr tt nm (if rTnB s q x then ntA s mm ss kd xo yo fr tt nm ah else ah) sv sh tx := by
  have hA : tnA q x = rTnA q x := by unfold tnA rTnA; rw [nI_0]
  have hW : (if q = 0 then tR v else nI (tN v)) = rTnW s q := by
    have e1 : tR v = dR s := h.1.1.1
    have e2 : tN v = dN0 s := h.1.1.2.1
    unfold rTnW
    rw [e1, e2, nI_0]
  have hB : tnB v q x = rTnB s q x := by unfold tnB rTnB; rw [hA, hW]
  unfold tnV rTnV
  rw [hA, hB, hW]
  refine ⟨rfl, ?_⟩
  unfold tnT rTnS
  rw [hB]
  cases hb : rTnB s q x with
  | false => exact h
  | true =>
    simp only [if_true]
    simp only [rTnB, rTnA, Bool.and_eq_true] at hb
    obtain ⟨h1, h2⟩ := h.1
    obtain ⟨a1, a2, a3, a4, a5, a6, a7⟩ := h1
    by_cases e : q = nI 0
    · subst e
      rw [if_pos nI_0, if_pos rfl]
      have hx : inR x (nI 1) (nI 20) = true := by have := hb.1.2; rw [if_pos rfl] at this; exact this
      unfold tSetR
      rw [if_pos hx]
      obtain ⟨k, hk1, hk2, rfl⟩ := inR_nI1 hx (by decide)
      exact Rel_act h ⟨⟨rfl, a2, a3, a4, a5, ⟨k, hk1, hk2, rfl⟩, a7⟩, h2⟩ rfl rfl rfl
    · rw [if_neg (by rw [← nI_0]; exact e), if_neg e]
      have hx : inR x (nI 0) (nI 3) = true := by have := hb.1.2; rw [if_neg e] at this; exact this
      unfold tSetN
      rw [if_pos hx]
      obtain ⟨k, hk, rfl⟩ := inR_nI hx (by decide)
      rw [nI_clamp (by omega)]
      exact Rel_act h ⟨⟨a1, rfl, a3, a4, a5, a6, hk⟩, h2⟩ rfl rfl rfl
end REL
