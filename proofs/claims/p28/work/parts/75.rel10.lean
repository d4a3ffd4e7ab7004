/-! ===== numbers of the whole, and a day, here and there ===== -/
section WHL
variable {v : TV} {S : SN}
theorem b_area (H : RT v S) {a b c : Nat} (ha : a < nM S 1) (hb : b < nM S 1) (hc : c < nM S 1) : svArea (tB v) a b c = rArea (nX S) (nY S) (8 + a) (8 + b) (8 + c) := by
  have m1 : sM (tB v) = nM S 1 := H.2.2.1.2.1
  exact area_eq H.2.2.1.2 (show a < sM (tB v) by omega) (show b < sM (tB v) by omega) (show c < sM (tB v) by omega)
theorem tr_step (H : RT v S) {M N h : Nat → Int32} (hm : relM (nM S 0) (nM S 1) M N h) {a b c k : Nat} (ha8 : a < 8) (hb8 : b < 8) (hc8 : c < 8) (n : Nat) : (if a < b ∧ b < c ∧ c < nM S 0 then tr1 v M a b c n else n) = (if rTn1 (nM S) (nX S) (nY S) h a b c then n + 1 else n) := by
  by_cases hg : a < b ∧ b < c ∧ c < nM S 0
  · obtain ⟨g1, g2, g3⟩ := hg
    rw [if_pos ⟨g1, g2, g3⟩]
    have eM : rMm (nM S) h a b c = amB M a b c := by
      rw [amB_iff hm ha8 hb8 hc8]
      unfold rMm
      rw [decide_eq_true g1, decide_eq_true g2, decide_eq_true g3]
      rfl
    unfold tr1 rTn1
    rw [eM]
    cases e : amB M a b c with
    | false => rw [Bool.false_and, Bool.false_and]
    | true =>
      rw [eM.symm] at e
      obtain ⟨-, e1, e2, e3⟩ := rMm_lt e
      obtain ⟨i1, a1, a2, a3, a4, -⟩ := mt_at H hm ha8 e1
      obtain ⟨i2, b1, b2, b3, b4, -⟩ := mt_at H hm hb8 e2
      obtain ⟨i3, c1, c2, c3, c4, -⟩ := mt_at H hm hc8 e3
      have et : trnB v M a b c = ((decide (¬ rArea (nX S) (nY S) a b c ≤ 0) && decide (rArea (nX S) (nY S) (8 + rmN h a) (8 + rmN h b) (8 + rmN h c) < 0)) || (decide (¬ 0 ≤ rArea (nX S) (nY S) a b c) && decide (¬ rArea (nX S) (nY S) (8 + rmN h a) (8 + rmN h b) (8 + rmN h c) ≤ 0))) := by
        unfold trnB
        rw [a3, b3, c3, a4, b4, c4, a0_eq H (by omega) (by omega) g3, b_area H a1 b1 c1]
      rw [et]
  · rw [if_neg hg]
    have : rTn1 (nM S) (nX S) (nY S) h a b c = false := by
      unfold rTn1
      have : rMm (nM S) h a b c = false := by
        cases e : rMm (nM S) h a b c with
        | false => rfl
        | true => exact absurd (rMm_lt e).1 hg
      rw [this, Bool.false_and]
    rw [this, if_neg (by decide)]
theorem tr_rel (H : RT v S) {M N h : Nat → Int32} (hm : relM (nM S 0) (nM S 1) M N h) : trAll v M = rTuS (nM S) (nX S) (nY S) h 512 := by
  have m0 : sM (tA v) = nM S 0 := H.2.2.1.1.1
  have h8 : nM S 0 ≤ 8 := H.mm 0 (by decide)
  have e0 : trAll v M = itR (fun a s => itF (fun b s => itF (tr1 v M a b) (b + 1) (sM (tA v)) s) (a + 1) (sM (tA v)) s) (sM (tA v)) 0 := rfl
  rw [e0, m0, tri_loop (tr1 v M) h8]
  unfold rTuS
  refine itR_congr _ _ (fun k s hk => ?_)
  unfold rTnK
  exact tr_step H hm (k := k) (by omega) (by omega) (by omega) s
theorem lone_0 {m0 m1 : Nat} {M N h : Nat → Int32} (hm : relM m0 m1 M N h) : ∀ n, n ≤ 8 → loneI M n = rLone h n
  | 0, _ => rfl
  | n + 1, hn => by
    have ih := lone_0 hm n (by omega)
    show (if mtI M (nI n) = -1 then loneI M n ||| (nI 1 <<< (nI n &&& 31)) else loneI M n) = rLone h n ||| (if h n = -4 then nI 1 <<< (nI n &&& 31) else nI 0)
    rw [ih]
    by_cases e : h n = -4
    · rw [if_pos e, if_pos ((mat_iff hm (by omega)).mpr e)]
    · rw [if_neg e, if_neg (fun c => e ((mat_iff hm (by omega)).mp c)), nI_0, Int32.or_zero]
theorem lone_1 {m0 m1 : Nat} {M N h : Nat → Int32} (hm : relM m0 m1 M N h) : ∀ n, n ≤ 8 → loneI N n = rLone (fun k => h (8 + k)) n
  | 0, _ => rfl
  | n + 1, hn => by
    have ih := lone_1 hm n (by omega)
    show (if mtI N (nI n) = -1 then loneI N n ||| (nI 1 <<< (nI n &&& 31)) else loneI N n) = rLone (fun k => h (8 + k)) n ||| (if h (8 + n) = -4 then nI 1 <<< (nI n &&& 31) else nI 0)
    have hi : mtI N (nI n) = -1 ↔ h (8 + n) = -4 := by
      rw [mtI_at (by omega)]
      exact relM_g hm (by omega)
    rw [ih]
    by_cases e : h (8 + n) = -4
    · rw [if_pos e, if_pos (hi.mpr e)]
    · rw [if_neg e, if_neg (fun c => e (hi.mp c)), nI_0, Int32.or_zero]
theorem allB_iff {p : Nat → Bool} : ∀ {n : Nat}, allB p n = true ↔ ∀ k, k < n → p k = true
  | 0 => ⟨fun _ k hk => absurd hk (Nat.not_lt_zero k), fun _ => rfl⟩
  | n + 1 => by
    show (allB p n && p n) = true ↔ _
    rw [Bool.and_eq_true, allB_iff (p := p) (n := n)]
    constructor
    · rintro ⟨h1, h2⟩ k hk
      by_cases e : k = n
      · rw [e]; exact h2
      · exact h1 k (by omega)
    · intro h
      exact ⟨fun k hk => h k (by omega), h n (by omega)⟩
/-- both ways of taking the pairs agree -/
theorem same_eq {m0 m1 : Nat} {M N h M' N' h' : Nat → Int32} (hm : relM m0 m1 M N h) (hm' : relM m0 m1 M' N' h') : (findF (fun i => decide (¬ M i = M' i)) 8).isNone = allB (agP h h') 16 := by
  have key : (∀ i, i < 8 → M i = M' i) ↔ ∀ k, k < 16 → h k = h' k := by
    constructor
    · intro e
      have e1 : ∀ i, i < 8 → h i = h' i := by
        intro i hi
        have := e i hi
        rcases hm.1 i hi with ⟨q1, q2⟩ | ⟨j, k1, k2, k3, k4, k5, k6, k7⟩
        · rw [q1] at this
          rw [q2, (relM_f hm' hi).mp this.symm]
        · rcases hm'.1 i hi with ⟨q1, q2⟩ | ⟨j', l1, l2, l3, l4, l5, l6, l7⟩
          · rw [k4, q1] at this
            exact absurd this (nI_ne_m1 (by omega))
          · rw [k4, l4] at this
            rw [k5, l5]; exact this
      have inj : ∀ {x y : Nat}, x < 8 → y < 8 → nI x = nI y → x = y := by
        intro x y hx hy hxy
        have := congrArg Int32.toInt hxy
        rw [nI_toInt (by omega), nI_toInt (by omega)] at this
        omega
      intro k hk
      by_cases c : k < 8
      · exact e1 k c
      · obtain ⟨j, rfl⟩ : ∃ j, k = 8 + j := ⟨k - 8, by omega⟩
        have hj : j < 8 := by omega
        rcases hm.2 j hj with ⟨q1, q2⟩ | ⟨i, k1, k2, k3, k4, k5, k6, k7⟩
        · rcases hm'.2 j hj with ⟨r1, r2⟩ | ⟨i', l1, l2, l3, l4, l5, l6, l7⟩
          · rw [q2, r2]
          · have e2 := e1 i' l3
            rw [l7] at e2
            rcases hm.1 i' l3 with ⟨s1, s2⟩ | ⟨j', s1, s2, s3, s4, s5, s6, s7⟩
            · rw [s2] at e2
              exact absurd e2.symm (nI_ne_m4 (by omega))
            · rw [s5] at e2
              obtain rfl := inj s3 hj e2
              rw [q2] at s7
              exact absurd s7.symm (nI_ne_m4 (by omega))
        · have e2 := e1 i k3
          rw [k7] at e2
          rcases hm'.1 i k3 with ⟨s1, s2⟩ | ⟨j', s1, s2, s3, s4, s5, s6, s7⟩
          · rw [s2] at e2
            exact absurd e2 (nI_ne_m4 (by omega))
          · rw [s5] at e2
            obtain rfl := inj hj s3 e2
            rw [k5, s7]
    · intro e i hi
      have := e i (by omega)
      rcases hm.1 i hi with ⟨q1, q2⟩ | ⟨j, k1, k2, k3, k4, k5, k6, k7⟩
      · rw [q2] at this
        rw [q1, (relM_f hm' hi).mpr this.symm]
      · rcases hm'.1 i hi with ⟨q1, q2⟩ | ⟨j', l1, l2, l3, l4, l5, l6, l7⟩
        · rw [k5, q2] at this
          exact absurd this (nI_ne_m4 (by omega))
        · rw [k5, l5] at this
          rw [k4, l4]; exact this
  have h1 : allB (agP h h') 16 = true ↔ ∀ i, i < 8 → M i = M' i := by
    rw [allB_iff, key]
    constructor
    · exact fun q k hk => of_decide_eq_true (q k hk)
    · exact fun q k hk => decide_eq_true (q k hk)
  have h2 : (findF (fun i => decide (¬ M i = M' i)) 8).isNone = true ↔ ∀ i, i < 8 → M i = M' i := by
    rw [Option.isNone_iff_eq_none, findF_all]
    constructor
    · intro q i hi
      have := of_decide_eq_false (q i hi)
      exact Decidable.not_not.mp this
    · intro q i hi
      exact decide_eq_false (fun c => c (q i hi))
  rw [Bool.eq_iff_iff, h1, h2]
theorem R_whole (H : RT v S) (p : BC) (b : BN) (M N f0 g0 mt ot : Nat → Int32) (wv : WY) (pp : PW) (q : Int32) : whlV v (mkP v p M N) (smB (mkB v p).1 (mkP v p M N).2.1 f0 g0) (xsN v (mkP v p M N).2.1 (sS (tA v)) wv).1 q = rWhl (nM S) (nS S) (nX S) (nY S) (nF S) (nT S) (mtS S b mt) (allB (agP (mtS S b mt) (rMts true (beS S b) ot)) 16) pp q := by
  have m0 : sM (tA v) = nM S 0 := H.2.2.1.1.1
  have m1 : sM (tB v) = nM S 1 := H.2.2.1.2.1
  have s0 : sS (tA v) = nS S 0 := H.2.2.1.1.2.1
  have h8 : nM S 0 ≤ 8 := H.mm 0 (by decide)
  have h81 : nM S 1 ≤ 8 := H.mm 1 (by decide)
  have hm := mts_S H p b M N mt
  have hc : (mkP v p M N).1 = rCnt (mtS S b mt) (nM S 0) := by
    unfold mkP
    exact (mts_rel H false p b M N mt).2
  have hm' : relM (nM S 0) (nM S 1) (puAll true (mkB v p).1 f0 g0).2.1 (puAll true (mkB v p).1 f0 g0).2.2 (rMts true (beS S b) ot) := by
    unfold mkB
    exact (mts_rel H true p b f0 g0 ot).1
  have hx := xs_rel H hm wv pp (sS (tA v)) (Nat.le_refl _)
  have hs : smB (mkB v p).1 (mkP v p M N).2.1 f0 g0 = allB (agP (mtS S b mt) (rMts true (beS S b) ot)) 16 := by
    unfold smB
    exact same_eq hm hm'
  have ht := tr_rel H hm
  have l0 := lone_0 hm (nM S 0) h8
  have l1 := lone_1 hm (nM S 1) h81
  unfold whlV rWhl
  rw [hc, ht, hs, m0, m1, l0, l1, hx, s0]
/-! a day -/
theorem rDyA_lt {mm : Nat → Nat} (h8 : ∀ g, g < 2 → mm g ≤ 8) (h1 : ∀ g, g < 2 → 1 ≤ mm g) (z k : Nat) : rDyA mm z k < 16 := by
  have hg : dN z k % 2 < 2 := Nat.mod_lt _ (by decide)
  have a := h8 _ hg
  have b := h1 _ hg
  have c := Nat.mod_lt (dN z k / 2) (show mm (dN z k % 2) > 0 by omega)
  unfold rDyA
  omega
theorem tk_day {mm : Nat → Nat} (h8 : ∀ g, g < 2 → mm g ≤ 8) (h1 : ∀ g, g < 2 → 1 ≤ mm g) (z : Nat) (p : BN) : ∀ n, tkF p.1 (rDyN mm z p n).1 16 = p.1 ∧ tkF p.2 (rDyN mm z p n).2 16 = p.2
  | 0 => ⟨funext fun i => ite_self _, funext fun i => ite_self _⟩
  | n + 1 => by
    obtain ⟨e1, e2⟩ := tk_day h8 h1 z p n
    have hl := rDyA_lt h8 h1 z n
    constructor
    · funext i
      have := congrFun e1 i
      unfold tkF at this ⊢
      by_cases c : i < 16
      · rw [if_pos c]
      · rw [if_neg c] at this ⊢
        show upd (rDyN mm z p n).1 (rDyA mm z n) _ i = p.1 i
        rw [upd_n _ _ (by omega), this]
    · funext i
      have := congrFun e2 i
      unfold tkF at this ⊢
      by_cases c : i < 16
      · rw [if_pos c]
      · rw [if_neg c] at this ⊢
        show upd (rDyN mm z p n).2 (rDyA mm z n) _ i = p.2 i
        rw [upd_n _ _ (by omega), this]
theorem tk_self {α : Type} (f : Nat → α) (n : Nat) : tkF f f n = f := funext fun i => ite_self _
abbrev dyS (S : SN) (p : BN) : SN := (nR S, nN S, nM S, nS S, nKd S, p.1, p.2, nF S, nT S, nNm S)
theorem day_step (z k : Nat) {v : TV} {S : SN} {p : BN} (H : RT1 v (dyS S p)) : RT1 (dayS z k v) (dyS S (rDy (nM S) z k p)) := by
  obtain ⟨h, h0, h1⟩ := H
  have m0 : sM (tA v) = nM S 0 := h.2.2.1.1.1
  have m1 : sM (tB v) = nM S 1 := h.2.2.1.2.1
  have hx : dN z k / 16 % 61 ≤ 60 := by omega
  have hy : dN z k / 256 % 61 ≤ 60 := by omega
  have h8 : ∀ g, g < 2 → nM S g ≤ 8 := h.mm
  unfold dayS dayP rDy rDyA
  by_cases e : dN z k % 2 = 0
  · rw [if_pos e, if_pos (show 0 < sM (tA v) by omega), e, m0]
    have hj : dN z k / 2 % nM S 0 < nM S 0 := Nat.mod_lt _ (by omega)
    have hp := put_ok (h.2.2.1.1) (h.2.2.2.1.1) (show dN z k / 2 % nM S 0 < sM (tA v) by omega) hx hy
    have h8' := h8 0 (by decide)
    have hR := RT_put h (inS_0 h) hp.1 hp.2 (same_put (by decide) (by omega) _ _) ⟨okXY_upd h.2.2.2.2.1.1 hx, okXY_upd h.2.2.2.2.1.2 hy⟩ rfl rfl
    exact ⟨hR, h0, h1⟩
  · have e : dN z k % 2 = 1 := by omega
    rw [if_neg (by omega), if_pos (show 0 < sM (tB v) by omega), e, m1]
    have hj : dN z k / 2 % nM S 1 < nM S 1 := Nat.mod_lt _ (by omega)
    have hp := put_ok (h.2.2.1.2) (h.2.2.2.1.2) (show dN z k / 2 % nM S 1 < sM (tB v) by omega) hx hy
    have h8' := h8 1 (by decide)
    have hR := RT_put h (inS_1 h) hp.1 hp.2 (same_put (by decide) (by omega) _ _) ⟨okXY_upd h.2.2.2.2.1.1 hx, okXY_upd h.2.2.2.2.1.2 hy⟩ rfl rfl
    exact ⟨hR, h0, h1⟩
theorem day_rel (z : Nat) {v : TV} {S : SN} {p : BN} (H : RT1 v (dyS S p)) : ∀ n, RT1 (dayT z n v) (dyS S (rDyN (nM S) z p n))
  | 0 => H
  | n + 1 => day_step z n (day_rel z H n)
theorem R_day (H1 : RT1 v S) (dv : TV) (p : BC) (b : BN) (M N f0 g0 mt : Nat → Int32) (wv : WY) (z n q : Int32) : (if dayA z n q then whlV (dayT z.toNatClampNeg n.toNatClampNeg (tCopy v dv)) (mkP (dayT z.toNatClampNeg n.toNatClampNeg (tCopy v dv)) p M N) (smB (mkB (dayT z.toNatClampNeg n.toNatClampNeg (tCopy v dv)) p).1 (mkP (dayT z.toNatClampNeg n.toNatClampNeg (tCopy v dv)) p M N).2.1 f0 g0) (xsN (dayT z.toNatClampNeg n.toNatClampNeg (tCopy v dv)) (mkP (dayT z.toNatClampNeg n.toNatClampNeg (tCopy v dv)) p M N).2.1 (sS (tA (dayT z.toNatClampNeg n.toNatClampNeg (tCopy v dv)))) wv).1 q else -1) = (if dayA z n q then (if q = 0 then nI (rCnt (mtS (dyS S (rDyN (nM S) z.toNatClampNeg (nX S, nY S) n.toNatClampNeg)) b mt) (nM S 0)) else nI (rTuS (nM S) (rDyN (nM S) z.toNatClampNeg (nX S, nY S) n.toNatClampNeg).1 (rDyN (nM S) z.toNatClampNeg (nX S, nY S) n.toNatClampNeg).2 (mtS (dyS S (rDyN (nM S) z.toNatClampNeg (nX S, nY S) n.toNatClampNeg)) b mt) 512)) else -1) := by
  by_cases c : dayA z n q = true
  · rw [if_pos c, if_pos c]
    have h0 : RT1 (tCopy v dv) (dyS S (nX S, nY S)) := RT1_copy H1
    have hd := (day_rel z.toNatClampNeg h0 n.toNatClampNeg).1
    generalize dayT z.toNatClampNeg n.toNatClampNeg (tCopy v dv) = D at *
    rw [R_whole hd p b M N f0 g0 mt mt wv (0, zf) q]
    simp only [dayA, Bool.and_eq_true] at c
    obtain ⟨j, hj, rfl⟩ := inR_nI c.2.2 (by decide)
    unfold rWhl
    rw [if_pos (inR_t ⟨Nat.zero_le j, by omega⟩ (by decide))]
    rcases (show j = 0 ∨ j = 1 by omega) with rfl | rfl
    · rw [if_pos rfl, if_pos nI_0]
    · rw [if_neg (show ¬ nI 1 = nI 0 by decide), if_pos rfl, if_neg (show ¬ nI 1 = 0 by decide)]
  · rw [if_neg c, if_neg c]
end WHL
