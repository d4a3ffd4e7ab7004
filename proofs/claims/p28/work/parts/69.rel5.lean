/-! ===== undone, kept, shelves, counts, letters ===== -/
section REL
variable {v : TV} {w : (Nat → Int32) × Nat} {f : Nat → Int32} {oa ok : PO} {ta tk : Nat → TV} {s : MD0} {mm ss : Nat → Nat} {kd xo yo fr tt nm ah sv sh tx : Nat → Int32}
theorem stk_top {h : Nat} {o : Nat → Nat} {tv : Nat → TV} {F : Nat → Int32} (hs : stkR h o tv F) : ∃ T : SN, (0 < h → okSn F (102 * (h - 1)) T) ∧ (0 < h → RT1 (tv (o (h - 1))) T) := by
  by_cases e : 0 < h
  · obtain ⟨T, h1, h2⟩ := hs (h - 1) (by omega)
    exact ⟨T, fun _ => h1, fun _ => h2⟩
  · exact ⟨(0, 0, fun _ => 0, fun _ => 0, zf, zf, zf, zf, zf, zf), fun q => absurd q e, fun q => absurd q e⟩
theorem ordO_pop {N : Nat} {o : PO} (h : ordO N o) (k : Nat) (hk : k ≤ o.2) : ordO N (o.1, k) := ⟨by have := h.1; show k ≤ N; omega, h.2⟩
theorem R_undo (h : Rel v w f oa ok ta tk s mm ss kd xo yo fr tt nm ah sv sh tx) {T : SN} (hT : 0 < oa.2 → RT1 (ta (oa.1 (oa.2 - 1))) T) :
    (if 0 < oa.2 then nI (oa.2 - 1) else -2) = (if dU s = 0 then -2 else nI (dU s - 1)) ∧
    Rel (if 0 < oa.2 then tCopy (ta (oa.1 (oa.2 - 1))) v else v) w f (oa.1, oa.2 - 1) ok ta tk (if dU s = 0 then s else (T.1, T.2.1, dU s - 1, dK s, dP s, dX s, dY s, dS s, dA s, dQ s)) (if dU s = 0 then mm else tkF T.2.2.1 mm 2) (if dU s = 0 then ss else tkF T.2.2.2.1 ss 2) (if dU s = 0 then kd else tkF T.2.2.2.2.1 kd 16) (if dU s = 0 then xo else tkF T.2.2.2.2.2.1 xo 16) (if dU s = 0 then yo else tkF T.2.2.2.2.2.2.1 yo 16) (if dU s = 0 then fr else tkF T.2.2.2.2.2.2.2.1 fr 16) (if dU s = 0 then tt else tkF T.2.2.2.2.2.2.2.2.1 tt 16) (if dU s = 0 then nm else tkF T.2.2.2.2.2.2.2.2.2 nm 16) ah sv sh tx := by
  obtain ⟨h1, h2, h3, ⟨h4, h5, h6⟩, h7⟩ := h
  by_cases e : 0 < oa.2
  · have e2 : ¬ dU s = 0 := by omega
    simp only [if_pos e, if_neg e2]
    refine ⟨by rw [h4], RT1_copy (RT1_tk (S := (dR s, dN0 s, mm, ss, kd, xo, yo, fr, tt, nm)) (hT e)), h2, h3, ⟨by show dU s - 1 = oa.2 - 1; omega, ordO_pop h5 _ (by omega), fun k hk => h6 k (by have : k < oa.2 - 1 := hk; omega)⟩, h7⟩
  · have e2 : dU s = 0 := by omega
    simp only [if_neg e, if_pos e2]
    exact ⟨trivial, h1, h2, h3, ⟨by show dU s = oa.2 - 1; omega, ordO_pop h5 _ (by omega), fun k hk => absurd (show k < oa.2 - 1 from hk) (by omega)⟩, h7⟩
theorem R_keep (h : Rel v w f oa ok ta tk s mm ss kd xo yo fr tt nm ah sv sh tx) :
    (if ok.2 < 2 then nI (ok.2 + 1) else -3) = (if dK s = 2 then -3 else nI (dK s + 1)) ∧
    Rel v w f oa (if ok.2 < 2 then pushO 2 ok else ok) ta (if ok.2 < 2 then pushT 2 ok tk v else tk) (if dK s = 2 then s else (dR s, dN0 s, dU s, dK s + 1, dP s, dX s, dY s, dS s, dA s, dQ s)) mm ss kd xo yo fr tt nm ah (if dK s = 2 then sv else lyF (snp (dR s, dN0 s, mm, ss, kd, xo, yo, fr, tt, nm)) sv (102 * dK s)) sh tx := by
  obtain ⟨h1, h2, h3, h4, ⟨h5, h6, h7⟩⟩ := h
  have h8 := h6.1
  by_cases e : ok.2 < 2
  · have e2 : ¬ dK s = 2 := by omega
    simp only [if_pos e, if_neg e2]
    refine ⟨by rw [h5], h1, h2, h3, h4, ?_, ordO_push h6 (by decide), ?_⟩
    · show dK s + 1 = plH ok.2 2
      unfold plH
      rw [if_pos e, h5]
    · unfold pushO pushT plR plH plK
      rw [if_pos e, if_pos e, if_pos e, h5]
      exact stk_push0 (N := 2) h7 h6 e h1
  · have e2 : dK s = 2 := by omega
    simp only [if_neg e, if_pos e2]
    exact ⟨trivial, h1, h2, h3, h4, h5, h6, h7⟩
theorem R_back (h : Rel v w f oa ok ta tk s mm ss kd xo yo fr tt nm ah sv sh tx) {T : SN} (hT : 0 < ok.2 → RT1 (tk (ok.1 (ok.2 - 1))) T) :
    (if 0 < ok.2 then nI (ok.2 - 1) else -2) = (if dK s = 0 then -2 else nI (dK s - 1)) ∧
    Rel (if 0 < ok.2 then tCopy (tk (ok.1 (ok.2 - 1))) v else v) w f (if 0 < ok.2 then (oa.1, 0) else oa) (ok.1, ok.2 - 1) ta tk (if dK s = 0 then s else (T.1, T.2.1, 0, dK s - 1, dP s, dX s, dY s, dS s, dA s, dQ s)) (if dK s = 0 then mm else tkF T.2.2.1 mm 2) (if dK s = 0 then ss else tkF T.2.2.2.1 ss 2) (if dK s = 0 then kd else tkF T.2.2.2.2.1 kd 16) (if dK s = 0 then xo else tkF T.2.2.2.2.2.1 xo 16) (if dK s = 0 then yo else tkF T.2.2.2.2.2.2.1 yo 16) (if dK s = 0 then fr else tkF T.2.2.2.2.2.2.2.1 fr 16) (if dK s = 0 then tt else tkF T.2.2.2.2.2.2.2.2.1 tt 16) (if dK s = 0 then nm else tkF T.2.2.2.2.2.2.2.2.2 nm 16) ah sv sh tx := by
  obtain ⟨h1, h2, h3, ⟨h4, h5, h6⟩, ⟨h7, h8, h9⟩⟩ := h
  by_cases e : 0 < ok.2
  · have e2 : ¬ dK s = 0 := by omega
    simp only [if_pos e, if_neg e2]
    refine ⟨by rw [h7], RT1_copy (RT1_tk (S := (dR s, dN0 s, mm, ss, kd, xo, yo, fr, tt, nm)) (hT e)), h2, h3, ⟨rfl, ordO_pop h5 _ (Nat.zero_le _), fun k hk => absurd hk (Nat.not_lt_zero k)⟩, ⟨by show dK s - 1 = ok.2 - 1; omega, ordO_pop h8 _ (by omega), fun k hk => h9 k (by have : k < ok.2 - 1 := hk; omega)⟩⟩
  · have e2 : dK s = 0 := by omega
    simp only [if_neg e, if_pos e2]
    exact ⟨trivial, h1, h2, h3, ⟨h4, h5, h6⟩, ⟨by show dK s = ok.2 - 1; omega, ordO_pop h8 _ (by omega), fun k hk => absurd (show k < ok.2 - 1 from hk) (by omega)⟩⟩
theorem bool_eq {a b : Bool} (h : a = true ↔ b = true) : a = b := by cases a <;> cases b <;> simp_all
theorem th_eq {S : SN} (h : RT v S) (x : Int32) : hasTh v x = (inR x (nI 0) (nI (nM S 0) - nI 1) || inR x (nI 8) (nI (8 + nS S 0) - nI 1)) := by
  have m0 : sM (tA v) = nM S 0 := h.2.2.1.1.1
  have m1 : sS (tA v) = nS S 0 := h.2.2.1.1.2.1
  have h0 := h.ok.1.1
  have h1 := h.ok.1.2
  have e0 : (nI (nM S 0) - nI 1).toInt = (nM S 0 : Int) - 1 := pk_sub_toInt (by omega) (by decide)
  have e1 : (nI (8 + nS S 0) - nI 1).toInt = ((8 + nS S 0 : Nat) : Int) - 1 := pk_sub_toInt (by omega) (by decide)
  have z8 : (nI 8).toInt = 8 := nI_toInt (by decide)
  have z15 : (nI 15).toInt = 15 := nI_toInt (by decide)
  have zS := nI_toInt (n := sS (tA v)) (by omega)
  have zM := nI_toInt (n := sM (tA v)) (by omega)
  have hm : hasM v (nI 0) x = hasN (sM (tA v)) x := by unfold hasM; simp [show (nI 0 = nI 1) = False from by decide]
  have hs : hasS v (nI 0) (x - nI 8) = hasN (sS (tA v)) (x - nI 8) := by unfold hasS; simp [show (nI 0 = nI 1) = False from by decide]
  unfold hasTh
  rw [hm, hs]
  by_cases e : nI 8 ≤ x
  · rw [if_pos e]
    rw [i_le, z8] at e
    have hx := x.toInt_lt
    have hx2 : x.toInt < 2147483648 := by simpa using hx
    have ex : (x - nI 8).toInt = x.toInt - 8 := by
      rw [Int32.toInt_sub, z8]
      exact Int.bmod_eq_of_le (by omega) (by omega)
    apply bool_eq
    simp only [inR, hasN, Bool.and_eq_true, Bool.or_eq_true, decide_eq_true_eq]
    simp only [i_lt, i_le, ex, e0, e1, n_0, i_0, z8, z15, zS]
    omega
  · rw [if_neg e]
    rw [i_le, z8] at e
    apply bool_eq
    simp only [inR, hasN, Bool.and_eq_true, Bool.or_eq_true, decide_eq_true_eq]
    simp only [i_lt, i_le, e0, e1, n_0, i_0, z8, z15, zM]
    omega
theorem tk_eq {z x : Int32} (hz : inR z (nI 0) (nI 2) = true) (hx : inR x (nI 0) (nI 15) = true) : shTakes z x = (decide (nI 2 ≤ z) || decide (x / nI 8 = z)) := by
  obtain ⟨a, ha, rfl⟩ := inR_nI hz (by decide)
  obtain ⟨b, hb, rfl⟩ := inR_nI hx (by decide)
  rw [pk_div (by omega) (by decide) (by decide)]
  have key : ∀ a, a ≤ 2 → ∀ b, b ≤ 15 → shTakes (nI a) (nI b) = (decide (nI 2 ≤ nI a) || decide (nI (b / 8) = nI a)) := by
    intro a ha b hb
    have a3 : a < 3 := by omega
    have b16 : b < 16 := by omega
    have H : ∀ a, a < 3 → ∀ b, b < 16 → shTakes (nI a) (nI b) = (decide (nI 2 ≤ nI a) || decide (nI (b / 8) = nI a)) := by decide +kernel
    exact H a a3 b b16
  exact key a ha b hb
theorem R_shelve (h : Rel v w f oa ok ta tk s mm ss kd xo yo fr tt nm ah sv sh tx) (z p x : Int32) : shV v z p x = rShV mm ss z p x ∧
    Rel v w (shF2 v f z p x) oa ok ta tk s mm ss kd xo yo fr tt nm ah sv (rShF mm ss sh z p x) tx := by
  have hT : hasTh v x = (inR x (nI 0) (nI (mm 0) - nI 1) || inR x (nI 8) (nI (8 + ss 0) - nI 1)) := th_eq h.1.1 x
  have hA : shA v z p x = rShA mm ss z p x := by unfold shA rShA; rw [hT, Bool.and_assoc]
  have hB : shB v z p x = rShB mm ss z p x := by
    unfold shB rShB
    rw [← hA]
    cases ha : shA v z p x with
    | false => rfl
    | true =>
      simp only [shA, hasTh, Bool.and_eq_true] at ha
      rw [tk_eq ha.1.1 ha.2.1]
  refine ⟨by unfold shV rShV; rw [hA, hB], ?_⟩
  unfold shF2 rShF
  rw [← hB]
  cases hb : shB v z p x with
  | false => exact h
  | true =>
    simp only [if_true]
    simp only [shB, shA, Bool.and_eq_true] at hb
    obtain ⟨a, ha, rfl⟩ := inR_nI hb.1.1.1 (by decide)
    obtain ⟨b, hb1, rfl⟩ := inR_nI hb.1.1.2 (by decide)
    obtain ⟨h1, h2, h3, h4⟩ := h
    refine ⟨h1, h2, fun k hk => ?_, h4⟩
    rw [nI_clamp (by omega), nI_clamp (by omega), show a * 4 + b = 4 * a + b by omega]
    unfold upd
    by_cases e : k = 4 * a + b
    · rw [if_pos e, if_pos e]
    · rw [if_neg e, if_neg e]; exact h3 k hk
theorem R_shelf (h : Rel v w f oa ok ta tk s mm ss kd xo yo fr tt nm ah sv sh tx) (z p : Int32) : sfV f z p = (if inR z (nI 0) (nI 2) && inR p (nI 0) (nI 3) then sh (4 * z.toNatClampNeg + p.toNatClampNeg) else -1) := by
  unfold sfV
  cases hb : (inR z (nI 0) (nI 2) && inR p (nI 0) (nI 3)) with
  | false => rfl
  | true =>
    simp only [if_true]
    simp only [Bool.and_eq_true] at hb
    obtain ⟨a, ha, rfl⟩ := inR_nI hb.1 (by decide)
    obtain ⟨b, hb1, rfl⟩ := inR_nI hb.2 (by decide)
    rw [nI_clamp (by omega), nI_clamp (by omega), show a * 4 + b = 4 * a + b by omega]
    exact h.2.2.1 _ (by omega)
theorem R_count (h : Rel v w f oa ok ta tk s mm ss kd xo yo fr tt nm ah sv sh tx) (q : Int32) : coV v oa ok w f q = rCo s mm ss sh q := by
  obtain ⟨h1, h2, h3, h4, h5⟩ := h
  have a1 : sM (tA v) = mm 0 := h1.1.2.2.1.1.1
  have a2 : sM (tB v) = mm 1 := h1.1.2.2.1.2.1
  have a3 : sS (tA v) = ss 0 := h1.1.2.2.1.1.2.1
  have a4 : sS (tB v) = ss 1 := h1.1.2.2.1.2.2.1
  have a5 : tR v = dR s := h1.1.1
  have a6 : tN v = dN0 s := h1.1.2.1
  have a7 : cntB (fun k => decide (¬ f k = -4)) 12 = cntB (fun k => decide (¬ sh k = -4)) 12 := cntB_congr (fun i hi => by rw [h3 i hi])
  unfold coV rCo
  rw [a1, a2, a3, a4, a5, a6, a7, ← h4.1, ← h5.1, ← h2.1]
  cases hq : inR q (nI 0) (nI 9) with
  | true =>
    obtain ⟨k, hk, rfl⟩ := inR_nI hq (by decide)
    rcases (show k = 0 ∨ k = 1 ∨ k = 2 ∨ k = 3 ∨ k = 4 ∨ k = 5 ∨ k = 6 ∨ k = 7 ∨ k = 8 ∨ k = 9 by omega) with rfl | rfl | rfl | rfl | rfl | rfl | rfl | rfl | rfl | rfl <;> rfl
  | false =>
    have hf := inR_f5 hq (by decide)
    rw [if_neg (hf 0 (by decide)), if_neg (hf 1 (by decide)), if_neg (hf 2 (by decide)), if_neg (hf 3 (by decide)), if_neg (hf 4 (by decide)), if_neg (hf 5 (by decide)), if_neg (hf 6 (by decide)), if_neg (hf 7 (by decide)), if_neg (hf 8 (by decide)), if_neg (hf 9 (by decide))]
    rfl
theorem chr_eq {x : Int32} (h : inR x (nI 32) (nI 126) = true) : chr x = x := by
  have h0 : inR x (nI 0) (nI 126) = true := by
    have h1 := of_decide_eq_true h
    refine decide_eq_true ⟨fun q => h1.1 ?_, h1.2⟩
    rw [i_lt, n_0] at q
    rw [i_lt, nI_toInt (by decide)]
    omega
  obtain ⟨k, hk, rfl⟩ := inR_nI h0 (by decide)
  have H : ∀ k, k < 127 → chr (nI k) = nI k := by decide +kernel
  exact H k (by omega)
theorem R_write (h : Rel v w f oa ok ta tk s mm ss kd xo yo fr tt nm ah sv sh tx) (x : Int32) : wrV w x = rWrV s x ∧
    Rel v (if inR x (nI 32) (nI 126) then txAdd w x else w) f oa ok ta tk (if inR x (nI 32) (nI 126) && decide (¬ dS s = 200) then (dR s, dN0 s, dU s, dK s, dP s, dX s, dY s, dS s + 1, dA s, dQ s) else s) mm ss kd xo yo fr tt nm ah sv sh (if inR x (nI 32) (nI 126) && decide (¬ dS s = 200) then upd tx (dS s) x else tx) := by
  have h0 := h
  obtain ⟨h1, ⟨h2, h3, h4⟩, h5⟩ := h
  unfold wrV rWrV
  cases hx : inR x (nI 32) (nI 126) with
  | false => exact ⟨rfl, h0⟩
  | true =>
    simp only [if_true, Bool.true_and]
    by_cases e : w.2 < 200
    · have e2 : ¬ dS s = 200 := by omega
      unfold txAdd
      rw [chr_eq hx]
      simp only [if_pos e, if_neg e2, e2, not_false_eq_true, decide_true, if_true]
      refine ⟨by simp [h2], h1, ⟨by show dS s + 1 = w.2 + 1; omega, e, fun k hk => ?_⟩, h5⟩
      have hk : k < w.2 + 1 := hk
      rw [h2]
      show upd w.1 w.2 x k = upd tx w.2 x k
      unfold upd
      by_cases q : k = w.2
      · rw [if_pos q, if_pos q]
      · rw [if_neg q, if_neg q]; exact h4 k (by omega)
    · have e2 : dS s = 200 := by omega
      unfold txAdd
      simp only [if_neg e, if_pos e2, e2, not_true_eq_false, decide_false, Bool.false_eq_true, if_false]
      exact ⟨by simp, h0⟩
theorem R_wipe (h : Rel v w f oa ok ta tk s mm ss kd xo yo fr tt nm ah sv sh tx) : w.2 = dS s ∧ Rel v (w.1, 0) f oa ok ta tk (dR s, dN0 s, dU s, dK s, dP s, dX s, dY s, 0, dA s, dQ s) mm ss kd xo yo fr tt nm ah sv sh tx :=
  ⟨h.2.1.1.symm, h.1, ⟨rfl, Nat.zero_le _, fun k hk => absurd hk (Nat.not_lt_zero k)⟩, h.2.2⟩
/-- only what the matching works with has changed -/
theorem R_same (h : Rel v w f oa ok ta tk s mm ss kd xo yo fr tt nm ah sv sh tx) {s' : MD0} (e1 : dR s' = dR s) (e2 : dN0 s' = dN0 s) (e3 : dU s' = dU s) (e4 : dK s' = dK s) (e5 : dS s' = dS s) : Rel v w f oa ok ta tk s' mm ss kd xo yo fr tt nm ah sv sh tx := by
  unfold Rel
  rw [e1, e2, e3, e4, e5]
  exact h
end REL
