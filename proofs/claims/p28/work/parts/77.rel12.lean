/-! ===== fault and lay, here and there ===== -/
section LAY
variable {v : TV} {w : (Nat → Int32) × Nat} {f : Nat → Int32} {oa ok : PO} {ta tk : Nat → TV} {s : MD0} {mm ss : Nat → Nat} {kd xo yo fr tt nm ah sv sh tx : Nat → Int32}
theorem clear_rel (dv : TV) {mm ss : Nat → Nat} {kd xo yo fr tt nm : Nat → Int32} (Q : Int32) (hx : okXY xo) (hy : okXY yo) : RT (tClear dv) (rZ0 Q mm ss kd xo yo fr tt nm).2.2 :=
  ⟨rfl, rfl, ⟨⟨rfl, rfl, fun j hj => absurd hj (Nat.not_lt_zero j), fun j hj => absurd hj (Nat.not_lt_zero j)⟩, ⟨rfl, rfl, fun j hj => absurd hj (Nat.not_lt_zero j), fun j hj => absurd hj (Nat.not_lt_zero j)⟩⟩,
    ⟨⟨okS_clear _, fun j hj => absurd hj (Nat.not_lt_zero j), fun j hj => absurd hj (Nat.not_lt_zero j), fun q r _ hr => absurd hr (Nat.not_lt_zero r)⟩, ⟨okS_clear _, fun j hj => absurd hj (Nat.not_lt_zero j), fun j hj => absurd hj (Nat.not_lt_zero j), fun q r _ hr => absurd hr (Nat.not_lt_zero r)⟩⟩,
    ⟨hx, hy⟩, ⟨10, by decide, by decide, rfl⟩, by show (2 : Nat) ≤ 3; decide⟩
theorem tx_eq (h : Rel v w f oa ok ta tk s mm ss kd xo yo fr tt nm ah sv sh tx) : txAt w = txAt (tx, dS s) := by
  obtain ⟨-, ⟨h2, h3, h4⟩, -⟩ := h
  funext k
  unfold txAt
  show (if k < w.2 then w.1 k else nI 0) = if k < dS s then tx k else nI 0
  rw [h2]
  by_cases e : k < w.2
  · rw [if_pos e, if_pos e]; exact h4 k e
  · rw [if_neg e, if_neg e]
theorem read_rel (h : Rel v w f oa ok ta tk s mm ss kd xo yo fr tt nm ah sv sh tx) (u : Nat → Int32) (dv : TV) : (rdAll (txAt w) w.2 200 0 u (tClear dv)).1 = (rAll (txAt (tx, dS s)) (dS s) 201 (rZ0 (dQ s) mm ss kd xo yo fr tt nm)).1 ∧ ((rAll (txAt (tx, dS s)) (dS s) 201 (rZ0 (dQ s) mm ss kd xo yo fr tt nm)).1 = -4 → RT (rdAll (txAt w) w.2 200 0 u (tClear dv)).2.2.2 (rAll (txAt (tx, dS s)) (dS s) 201 (rZ0 (dQ s) mm ss kd xo yo fr tt nm)).2.2.2) := by
  have e := tx_eq h
  obtain ⟨h1, ⟨h2, h3, -⟩, -⟩ := h
  rw [e, ← h2]
  exact all_rel (z := rZ0 (dQ s) mm ss kd xo yo fr tt nm) (by omega) 200 201 u (tClear dv) (clear_rel dv (dQ s) h1.1.2.2.2.2.1.1 h1.1.2.2.2.2.1.2) (by omega) (by omega)
theorem R_fault (h : Rel v w f oa ok ta tk s mm ss kd xo yo fr tt nm ah sv sh tx) (u : Nat → Int32) (dv : TV) : (rdAll (txAt w) w.2 200 0 u (tClear dv)).1 = (rAll (txAt (tx, dS s)) (dS s) 201 (rZ0 (dQ s) mm ss kd xo yo fr tt nm)).1 := (read_rel h u dv).1
theorem R_back0 (h : Rel v w f oa ok ta tk s mm ss kd xo yo fr tt nm ah sv sh tx) (A : Nat) (Q : Int32) (S : SN) : Rel v w f oa ok ta tk (dR s, dN0 s, dU s, dK s, dP s, dX s, dY s, dS s, A, Q) (tkF mm (nM S) 2) (tkF ss (nS S) 2) (tkF kd (nKd S) 16) (tkF xo (nX S) 16) (tkF yo (nY S) 16) (tkF fr (nF S) 16) (tkF tt (nT S) 16) (tkF nm (nNm S) 16) ah sv sh tx :=
  ⟨RT1_tk (S := S) h.1, h.2⟩
theorem lok_eq (h : Rel v w f oa ok ta tk s mm ss kd xo yo fr tt nm ah sv sh tx) (u : Nat → Int32) (dv : TV) : layOk (rdAll (txAt w) w.2 200 0 u (tClear dv)) = rLok (rAll (txAt (tx, dS s)) (dS s) 201 (rZ0 (dQ s) mm ss kd xo yo fr tt nm)) := by
  obtain ⟨e1, e2⟩ := read_rel h u dv
  generalize rdAll (txAt w) w.2 200 0 u (tClear dv) = A at *
  generalize rAll (txAt (tx, dS s)) (dS s) 201 (rZ0 (dQ s) mm ss kd xo yo fr tt nm) = R at *
  unfold layOk rLok
  rw [e1]
  by_cases c : R.1 = -4
  · have hr := e2 c
    have m0 : sM (tA A.2.2.2) = zM R.2 0 := hr.2.2.1.1.1
    have m1 : sM (tB A.2.2.2) = zM R.2 1 := hr.2.2.1.2.1
    rw [m0, m1]
  · rw [decide_eq_false c, Bool.false_and, Bool.false_and]
theorem R_lay (h : Rel v w f oa ok ta tk s mm ss kd xo yo fr tt nm ah sv sh tx) (u : Nat → Int32) (dv : TV) :
    (if layOk (rdAll (txAt w) w.2 200 0 u (tClear dv)) then nI (sM (tA (rdAll (txAt w) w.2 200 0 u (tClear dv)).2.2.2) + sM (tB (rdAll (txAt w) w.2 200 0 u (tClear dv)).2.2.2)) else -2) = (if rLok (rAll (txAt (tx, dS s)) (dS s) 201 (rZ0 (dQ s) mm ss kd xo yo fr tt nm)) then nI ((rAll (txAt (tx, dS s)) (dS s) 201 (rZ0 (dQ s) mm ss kd xo yo fr tt nm)).2.2.2.2.2.1 0 + (rAll (txAt (tx, dS s)) (dS s) 201 (rZ0 (dQ s) mm ss kd xo yo fr tt nm)).2.2.2.2.2.1 1) else -2) ∧
    ∀ R : Int32 × RZ, R = rAll (txAt (tx, dS s)) (dS s) 201 (rZ0 (dQ s) mm ss kd xo yo fr tt nm) → ∀ A, A = rdAll (txAt w) w.2 200 0 u (tClear dv) →
    Rel (if layOk A then tCopy A.2.2.2 v else v) w (if layOk A then clrF f 12 else f) (if layOk A then (oa.1, 0) else oa) (if layOk A then (ok.1, 0) else ok) ta tk
      (if rLok R then R.2.2.2.1 else dR s, if rLok R then R.2.2.2.2.1 else dN0 s, if rLok R then 0 else dU s, if rLok R then 0 else dK s, dP s, dX s, dY s, dS s, R.2.1, R.2.2.1)
      (if rLok R then R.2.2.2.2.2.1 else tkF mm (R.2.2.2.2.2.1) 2) (if rLok R then R.2.2.2.2.2.2.1 else tkF ss (R.2.2.2.2.2.2.1) 2) (if rLok R then R.2.2.2.2.2.2.2.1 else tkF kd (R.2.2.2.2.2.2.2.1) 16) (if rLok R then R.2.2.2.2.2.2.2.2.1 else tkF xo (R.2.2.2.2.2.2.2.2.1) 16) (if rLok R then R.2.2.2.2.2.2.2.2.2.1 else tkF yo (R.2.2.2.2.2.2.2.2.2.1) 16) (if rLok R then R.2.2.2.2.2.2.2.2.2.2.1 else tkF fr (R.2.2.2.2.2.2.2.2.2.2.1) 16) (if rLok R then R.2.2.2.2.2.2.2.2.2.2.2.1 else tkF tt (R.2.2.2.2.2.2.2.2.2.2.2.1) 16) (if rLok R then R.2.2.2.2.2.2.2.2.2.2.2.2 else tkF nm (R.2.2.2.2.2.2.2.2.2.2.2.2) 16) ah sv (if rLok R then clrF sh 12 else sh) tx := by
  have e0 := lok_eq h u dv
  obtain ⟨e1, e2⟩ := read_rel h u dv
  generalize rdAll (txAt w) w.2 200 0 u (tClear dv) = A0 at *
  generalize rAll (txAt (tx, dS s)) (dS s) 201 (rZ0 (dQ s) mm ss kd xo yo fr tt nm) = R0 at *
  by_cases c : rLok R0 = true
  · have c' : layOk A0 = true := e0.trans c
    have c2 := c
    simp only [rLok, Bool.and_eq_true, decide_eq_true_eq] at c2
    have hr := e2 c2.1
    have m0 : sM (tA A0.2.2.2) = zM R0.2 0 := hr.2.2.1.1.1
    have m1 : sM (tB A0.2.2.2) = zM R0.2 1 := hr.2.2.1.2.1
    refine ⟨by rw [if_pos c, if_pos c', m0, m1], ?_⟩
    rintro R rfl A rfl
    simp only [if_pos c, if_pos c']
    obtain ⟨h1, h2, h3, ⟨h4, h5, h6⟩, ⟨h7, h8, h9⟩⟩ := h
    refine ⟨⟨RT_copy hr, ?_, ?_⟩, h2, fun k hk => ?_, ⟨rfl, ordO_pop h5 0 (Nat.zero_le _), fun k hk => absurd hk (Nat.not_lt_zero k)⟩, ⟨rfl, ordO_pop h8 0 (Nat.zero_le _), fun k hk => absurd hk (Nat.not_lt_zero k)⟩⟩
    · show 1 ≤ sM (tA A.2.2.2)
      omega
    · show 1 ≤ sM (tB A.2.2.2)
      omega
    · unfold clrF
      rw [if_pos hk, if_pos hk]
  · have c' : ¬ layOk A0 = true := fun q => c (e0.symm.trans q)
    refine ⟨by rw [if_neg c, if_neg c'], ?_⟩
    rintro R rfl A rfl
    simp only [if_neg c, if_neg c']
    exact R_back0 h R.2.1 R.2.2.1 R.2.2.2
end LAY
