/-! ===== the reference: ways, names ===== -/
theorem n8_ix {x : Int32} {n : Nat} (h : n8 x) (hn : 8 ≤ n) (hn2 : n < 2 ^ 31) : ix x x.toNatClampNeg n := by
  obtain ⟨j, hj, rfl⟩ := h
  exact ix_self (vp_in_nI (by omega) hn2)
abbrev PW : Type := Nat × (Nat → Int32)
def rGo (n : Nat) (x y z w : Int32) (p : PW) : PW := (if p.1 = 0 then n else p.1, if p.1 = 0 then upd (upd (upd (upd p.2 0 x) 1 y) 2 z) 3 w else p.2)
theorem rGo_le {n : Nat} {x y z w : Int32} {p : PW} (hn : n ≤ 3) (h : p.1 ≤ 3) : (rGo n x y z w p).1 ≤ 3 := by
  unfold rGo
  dsimp only
  split <;> omega
def rWay (ss : Nat → Nat) (fr tt : Nat → Int32) (x y : Int32) : Bool := decide (¬ x = y) && decide (¬ rBet ss fr tt 1 x y = -4)
def rP1 (ss : Nat → Nat) (fr tt : Nat → Int32) (x y : Int32) (p : PW) : PW := if rWay ss fr tt x y then rGo 1 x y (-4) (-4) p else p
def rP2 (ss : Nat → Nat) (fr tt : Nat → Int32) (x y : Int32) (b : Nat) (p : PW) : PW := if rWay ss fr tt x (nI b) && rWay ss fr tt (nI b) y then rGo 2 x (nI b) y (-4) p else p
def rP3 (ss : Nat → Nat) (fr tt : Nat → Int32) (x y : Int32) (b c : Nat) (p : PW) : PW := if (decide (¬ nI b = y) && decide (¬ nI c = x)) && (rWay ss fr tt x (nI b) && (rWay ss fr tt (nI b) (nI c) && rWay ss fr tt (nI c) y)) then rGo 3 x (nI b) (nI c) y p else p
def rW1 (ss : Nat → Nat) (fr tt : Nat → Int32) (x y : Int32) (pa : Nat → Int32) : PW := rP1 ss fr tt x y (0, pa)
def rW2 (ss : Nat → Nat) (fr tt : Nat → Int32) (x y : Int32) (pa : Nat → Int32) (k : Nat) : PW := itR (rP2 ss fr tt x y) k (rW1 ss fr tt x y pa)
def rW3 (ss : Nat → Nat) (fr tt : Nat → Int32) (x y : Int32) (pa : Nat → Int32) (m k : Nat) : PW := itR (fun b p => itR (rP3 ss fr tt x y b) m p) k (rW2 ss fr tt x y pa m)
def rW4 (ss : Nat → Nat) (fr tt : Nat → Int32) (x y : Int32) (pa : Nat → Int32) (m k l : Nat) : PW := itR (rP3 ss fr tt x y k) l (rW3 ss fr tt x y pa m k)
theorem rP1_le {ss : Nat → Nat} {fr tt : Nat → Int32} {x y : Int32} {p : PW} (h : p.1 ≤ 3) : (rP1 ss fr tt x y p).1 ≤ 3 := by
  unfold rP1
  split
  · exact rGo_le (by decide) h
  · exact h
theorem rP2_le {ss : Nat → Nat} {fr tt : Nat → Int32} {x y : Int32} {b : Nat} {p : PW} (h : p.1 ≤ 3) : (rP2 ss fr tt x y b p).1 ≤ 3 := by
  unfold rP2
  split
  · exact rGo_le (by decide) h
  · exact h
theorem rP3_le {ss : Nat → Nat} {fr tt : Nat → Int32} {x y : Int32} {b c : Nat} {p : PW} (h : p.1 ≤ 3) : (rP3 ss fr tt x y b c p).1 ≤ 3 := by
  unfold rP3
  split
  · exact rGo_le (by decide) h
  · exact h
theorem rW1_le (ss : Nat → Nat) (fr tt : Nat → Int32) (x y : Int32) (pa : Nat → Int32) : (rW1 ss fr tt x y pa).1 ≤ 3 := rP1_le (Nat.zero_le 3)
theorem rW2_le (ss : Nat → Nat) (fr tt : Nat → Int32) (x y : Int32) (pa : Nat → Int32) (k : Nat) : (rW2 ss fr tt x y pa k).1 ≤ 3 := itR_inv (P := fun p : PW => p.1 ≤ 3) k _ (rW1_le ss fr tt x y pa) (fun _ _ _ h => rP2_le h)
theorem rW3_le (ss : Nat → Nat) (fr tt : Nat → Int32) (x y : Int32) (pa : Nat → Int32) (m k : Nat) : (rW3 ss fr tt x y pa m k).1 ≤ 3 := itR_inv (P := fun p : PW => p.1 ≤ 3) k _ (rW2_le ss fr tt x y pa m) (fun _ _ _ h => itR_inv (P := fun p : PW => p.1 ≤ 3) m _ h (fun _ _ _ h => rP3_le h))
theorem rW4_le (ss : Nat → Nat) (fr tt : Nat → Int32) (x y : Int32) (pa : Nat → Int32) (m k l : Nat) : (rW4 ss fr tt x y pa m k l).1 ≤ 3 := itR_inv (P := fun p : PW => p.1 ≤ 3) l _ (rW3_le ss fr tt x y pa m k) (fun _ _ _ h => rP3_le h)
theorem rW2_t1 {ss : Nat → Nat} {fr tt : Nat → Int32} {x y : Int32} {pa : Nat → Int32} {k : Nat} (h : (rWay ss fr tt x (nI k) && rWay ss fr tt (nI k) y) = true) : rGo 2 x (nI k) y (-4) (rW2 ss fr tt x y pa k) = rW2 ss fr tt x y pa (k + 1) := by
  show _ = rP2 ss fr tt x y k (rW2 ss fr tt x y pa k)
  unfold rP2
  rw [if_pos h]
theorem rW2_f1 {ss : Nat → Nat} {fr tt : Nat → Int32} {x y : Int32} {pa : Nat → Int32} {k : Nat} (h : (rWay ss fr tt x (nI k) && rWay ss fr tt (nI k) y) = false) : rW2 ss fr tt x y pa k = rW2 ss fr tt x y pa (k + 1) := by
  show _ = rP2 ss fr tt x y k (rW2 ss fr tt x y pa k)
  unfold rP2
  rw [if_neg (by rw [h]; decide)]
def rC3 (ss : Nat → Nat) (fr tt : Nat → Int32) (x y : Int32) (b c : Nat) : Bool := (decide (¬ nI b = y) && decide (¬ nI c = x)) && (rWay ss fr tt x (nI b) && (rWay ss fr tt (nI b) (nI c) && rWay ss fr tt (nI c) y))
theorem rW4_t1 {ss : Nat → Nat} {fr tt : Nat → Int32} {x y : Int32} {pa : Nat → Int32} {m k l : Nat} (h : rC3 ss fr tt x y k l = true) : rGo 3 x (nI k) (nI l) y (rW4 ss fr tt x y pa m k l) = rW4 ss fr tt x y pa m k (l + 1) := by
  show _ = rP3 ss fr tt x y k l (rW4 ss fr tt x y pa m k l)
  unfold rP3
  unfold rC3 at h
  rw [if_pos h]
theorem rW4_f1 {ss : Nat → Nat} {fr tt : Nat → Int32} {x y : Int32} {pa : Nat → Int32} {m k l : Nat} (h : rC3 ss fr tt x y k l = false) : rW4 ss fr tt x y pa m k l = rW4 ss fr tt x y pa m k (l + 1) := by
  show _ = rP3 ss fr tt x y k l (rW4 ss fr tt x y pa m k l)
  unfold rP3
  rw [if_neg (by unfold rC3 at h; rw [h]; decide)]
theorem rW3_1 (ss : Nat → Nat) (fr tt : Nat → Int32) (x y : Int32) (pa : Nat → Int32) (m k : Nat) : rW4 ss fr tt x y pa m k m = rW3 ss fr tt x y pa m (k + 1) := rfl
def rPth (mm ss : Nat → Nat) (fr tt : Nat → Int32) (x y : Int32) (pa : Nat → Int32) : PW := if x = -4 ∨ y = -4 then (0, pa) else rW3 ss fr tt x y pa (mm 1) (mm 1)
theorem rPth_le (mm ss : Nat → Nat) (fr tt : Nat → Int32) (x y : Int32) (pa : Nat → Int32) : (rPth mm ss fr tt x y pa).1 ≤ 3 := by
  unfold rPth
  split
  · exact Nat.zero_le 3
  · exact rW3_le _ _ _ _ _ _ _ _
def rMa (mt fr : Nat → Int32) (k : Nat) : Int32 := mt (fr k).toNatClampNeg
def rPt (mm ss : Nat → Nat) (fr tt mt : Nat → Int32) (k : Nat) (pa : Nat → Int32) : PW := rPth mm ss fr tt (rMa mt fr k) (rMa mt tt k) pa
theorem rPt_le (mm ss : Nat → Nat) (fr tt mt : Nat → Int32) (k : Nat) (pa : Nat → Int32) : (rPt mm ss fr tt mt k pa).1 ≤ 3 := rPth_le _ _ _ _ _ _ _
def rTolA (ss : Nat → Nat) (z k : Int32) : Bool := hasR ss (nI 0) z && decide (-1 ≤ k)
def rTol (p : PW) (k : Int32) : Int32 := if p.1 = 0 then -4 else if k = -1 then nI p.1 else if nI p.1 < k then -4 else p.2 k.toNatClampNeg
theorem told_ix {k : Int32} {n : Nat} (h1 : -1 ≤ k) (h2 : ¬ k = -1) (h3 : ¬ nI n < k) (hn : n ≤ 3) : ix k k.toNatClampNeg 4 := by
  have h0 : ¬ k < 0 := fun q => by
    rw [i_lt, i_0] at q
    rw [i_le, show ((-1 : Int32)).toInt = -1 from by decide] at h1
    exact h2 (Int32.toInt_inj.mp (by rw [show ((-1 : Int32)).toInt = -1 from by decide]; omega))
  obtain ⟨j, hj, rfl⟩ := nI_of h0
  have h4 := n_nlt (by omega) hj h3
  exact ix_self (vp_in_nI (by omega) (by decide))
def rNm (ss : Nat → Nat) (fr tt nm pa : Nat → Int32) (k : Nat) : Int32 := nm (8 + (rBet ss fr tt 1 (pa k) (pa (k + 1))).toNatClampNeg)
def rNmF (ss : Nat → Nat) (fr tt nm pa : Nat → Int32) : Nat → Int32
  | 0 => rNm ss fr tt nm pa 0
  | n + 1 => if rNm ss fr tt nm pa (n + 1) = rNmF ss fr tt nm pa n then rNmF ss fr tt nm pa n else nI 0
/-- a way is a way -/
def rWOk (ss : Nat → Nat) (fr tt : Nat → Int32) (p : PW) : Prop := p.1 ≤ 3 ∧ ∀ k, k < p.1 → ∃ j, j < ss 1 ∧ rBet ss fr tt 1 (p.2 k) (p.2 (k + 1)) = nI j
theorem lastF_or {p : Nat → Bool} : ∀ {n : Nat}, lastF p n = -4 ∨ ∃ j, j < n ∧ lastF p n = nI j ∧ p j = true
  | 0 => Or.inl rfl
  | n + 1 => by
    unfold lastF
    by_cases e : p n = true
    · rw [if_pos e]; exact Or.inr ⟨n, by omega, rfl, e⟩
    · rw [if_neg e]
      rcases lastF_or (p := p) (n := n) with h | ⟨j, h1, h2, h3⟩
      · exact Or.inl h
      · exact Or.inr ⟨j, by omega, h2, h3⟩
theorem rWay_ex {ss : Nat → Nat} {fr tt : Nat → Int32} {x y : Int32} (h : rWay ss fr tt x y = true) : ∃ j, j < ss 1 ∧ rBet ss fr tt 1 x y = nI j := by
  simp only [rWay, Bool.and_eq_true, decide_eq_true_eq] at h
  obtain ⟨j, h1, h2, -⟩ := (lastF_or (p := rbP fr tt 1 x y) (n := ss 1)).resolve_left h.2
  exact ⟨j, h1, h2⟩
theorem rGo1_ok {ss : Nat → Nat} {fr tt : Nat → Int32} {x y z w : Int32} {p : PW} (h : rWOk ss fr tt p) (q : rWay ss fr tt x y = true) : rWOk ss fr tt (rGo 1 x y z w p) := by
  unfold rGo
  by_cases e : p.1 = 0
  · rw [if_pos e, if_pos e]
    refine ⟨by show (1 : Nat) ≤ 3; omega, fun k hk => ?_⟩
    have hk : k < 1 := hk
    obtain rfl : k = 0 := by omega
    show ∃ j, j < ss 1 ∧ rBet ss fr tt 1 (upd (upd (upd (upd p.2 0 x) 1 y) 2 z) 3 w 0) (upd (upd (upd (upd p.2 0 x) 1 y) 2 z) 3 w 1) = nI j
    rw [upd_n _ _ (by decide), upd_n _ _ (by decide), upd_n _ _ (by decide), upd_s, upd_n _ _ (by decide), upd_n _ _ (by decide), upd_s]
    exact rWay_ex q
  · rw [if_neg e, if_neg e]; exact h
theorem rGo2_ok {ss : Nat → Nat} {fr tt : Nat → Int32} {x y z w : Int32} {p : PW} (h : rWOk ss fr tt p) (q : rWay ss fr tt x y = true) (q2 : rWay ss fr tt y z = true) : rWOk ss fr tt (rGo 2 x y z w p) := by
  unfold rGo
  by_cases e : p.1 = 0
  · rw [if_pos e, if_pos e]
    refine ⟨by show (2 : Nat) ≤ 3; omega, fun k hk => ?_⟩
    have hk : k < 2 := hk
    show ∃ j, j < ss 1 ∧ rBet ss fr tt 1 (upd (upd (upd (upd p.2 0 x) 1 y) 2 z) 3 w k) (upd (upd (upd (upd p.2 0 x) 1 y) 2 z) 3 w (k + 1)) = nI j
    rcases (show k = 0 ∨ k = 1 by omega) with rfl | rfl
    · rw [upd_n _ _ (by decide), upd_n _ _ (by decide), upd_n _ _ (by decide), upd_s, upd_n _ _ (by decide), upd_n _ _ (by decide), upd_s]
      exact rWay_ex q
    · rw [upd_n _ _ (by decide), upd_n _ _ (by decide), upd_s, upd_n _ _ (by decide), upd_s]
      exact rWay_ex q2
  · rw [if_neg e, if_neg e]; exact h
theorem rGo3_ok {ss : Nat → Nat} {fr tt : Nat → Int32} {x y z w : Int32} {p : PW} (h : rWOk ss fr tt p) (q : rWay ss fr tt x y = true) (q2 : rWay ss fr tt y z = true) (q3 : rWay ss fr tt z w = true) : rWOk ss fr tt (rGo 3 x y z w p) := by
  unfold rGo
  by_cases e : p.1 = 0
  · rw [if_pos e, if_pos e]
    refine ⟨by show (3 : Nat) ≤ 3; omega, fun k hk => ?_⟩
    have hk : k < 3 := hk
    show ∃ j, j < ss 1 ∧ rBet ss fr tt 1 (upd (upd (upd (upd p.2 0 x) 1 y) 2 z) 3 w k) (upd (upd (upd (upd p.2 0 x) 1 y) 2 z) 3 w (k + 1)) = nI j
    rcases (show k = 0 ∨ k = 1 ∨ k = 2 by omega) with rfl | rfl | rfl
    · rw [upd_n _ _ (by decide), upd_n _ _ (by decide), upd_n _ _ (by decide), upd_s, upd_n _ _ (by decide), upd_n _ _ (by decide), upd_s]
      exact rWay_ex q
    · rw [upd_n _ _ (by decide), upd_n _ _ (by decide), upd_s, upd_n _ _ (by decide), upd_s]
      exact rWay_ex q2
    · rw [upd_n _ _ (by decide), upd_s, upd_s]
      exact rWay_ex q3
  · rw [if_neg e, if_neg e]; exact h
theorem rPth_ok (mm ss : Nat → Nat) (fr tt : Nat → Int32) (x y : Int32) (pa : Nat → Int32) : rWOk ss fr tt (rPth mm ss fr tt x y pa) := by
  have h0 : rWOk ss fr tt (0, pa) := ⟨Nat.zero_le 3, fun k hk => absurd hk (Nat.not_lt_zero k)⟩
  unfold rPth
  split
  · exact h0
  · unfold rW3 rW2 rW1
    refine itR_inv (P := rWOk ss fr tt) _ _ (itR_inv (P := rWOk ss fr tt) _ _ ?_ (fun b p _ hp => ?_)) (fun b p _ hp => itR_inv (P := rWOk ss fr tt) _ _ hp (fun c p _ hp => ?_))
    · unfold rP1
      split
      · rename_i q; exact rGo1_ok h0 q
      · exact h0
    · unfold rP2
      split
      · rename_i q
        simp only [Bool.and_eq_true] at q
        exact rGo2_ok hp q.1 q.2
      · exact hp
    · unfold rP3
      split
      · rename_i q
        simp only [Bool.and_eq_true] at q
        exact rGo3_ok hp q.2.1 q.2.2.1 q.2.2.2
      · exact hp
theorem rNmF_s (ss : Nat → Nat) (fr tt nm pa : Nat → Int32) (n : Nat) : rNmF ss fr tt nm pa (n + 1) = if rNm ss fr tt nm pa (n + 1) = rNmF ss fr tt nm pa n then rNmF ss fr tt nm pa n else nI 0 := rfl
theorem rPt_ok (mm ss : Nat → Nat) (fr tt mt : Nat → Int32) (k : Nat) (pa : Nat → Int32) : rWOk ss fr tt (rPt mm ss fr tt mt k pa) := rPth_ok _ _ _ _ _ _ _
def rXs (mm ss : Nat → Nat) (fr tt mt : Nat → Int32) (p : PW) : Nat → Nat × PW
  | 0 => (0, p)
  | n + 1 => ((rXs mm ss fr tt mt p n).1 + (if 0 < (rPt mm ss fr tt mt n (rXs mm ss fr tt mt p n).2.2).1 then 1 else 0), rPt mm ss fr tt mt n (rXs mm ss fr tt mt p n).2.2)
theorem rXs_le (mm ss : Nat → Nat) (fr tt mt : Nat → Int32) (p : PW) : ∀ n, (rXs mm ss fr tt mt p n).1 ≤ n
  | 0 => Nat.le_refl 0
  | n + 1 => by
    have := rXs_le mm ss fr tt mt p n
    show (rXs mm ss fr tt mt p n).1 + (if 0 < (rPt mm ss fr tt mt n (rXs mm ss fr tt mt p n).2.2).1 then 1 else 0) ≤ n + 1
    split <;> omega
