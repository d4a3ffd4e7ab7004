/-! ===== the start of both sides ===== -/
def cS (w : SV) (g : Nat) (S : SN) : Bool :=
  decide (sM w = nM S g) && (decide (sS w = nS S g) && (decide (sM w ≤ 8) && (decide (sS w ≤ 8) && (decide (1 ≤ sM w) &&
  (decide (∀ j, j < sM w → (sKd w j = nKd S (8 * g + j) ∧ sX w j = nX S (8 * g + j) ∧ sY w j = nY S (8 * g + j)) ∧ (sX w j).toNatClampNeg ≤ 60 ∧ sX w j = nI (sX w j).toNatClampNeg ∧ (sY w j).toNatClampNeg ≤ 60 ∧ sY w j = nI (sY w j).toNatClampNeg) &&
  (decide (∀ j, j < sS w → (sU w j = nF S (8 * g + j) ∧ sV w j = nT S (8 * g + j) ∧ sNm w j = nNm S (8 * g + j)) ∧ (sU w j).toNatClampNeg < sM w ∧ (sV w j).toNatClampNeg < sM w ∧ (sU w j).toNatClampNeg ≠ (sV w j).toNatClampNeg ∧ sU w j = nI (sU w j).toNatClampNeg ∧ sV w j = nI (sV w j).toNatClampNeg) &&
  decide (∀ r, r < sS w → ∀ q, q < r → sbP w (sU w r) (sV w r) q = false)))))))
theorem cS_ok {w : SV} {g : Nat} {S : SN} (h : cS w g S = true) : relS w g S ∧ goodS w ∧ 1 ≤ sM w := by
  simp only [cS, Bool.and_eq_true, decide_eq_true_eq] at h
  obtain ⟨h1, h2, h3, h4, h5, h6, h7, h8⟩ := h
  refine ⟨⟨h1, h2, fun j hj => (h6 j hj).1, fun j hj => (h7 j hj).1⟩, ⟨⟨h3, h4⟩, fun j hj => ?_, fun q hq => ?_, fun q r hqr hr => h8 r hr q hqr⟩, h5⟩
  · obtain ⟨-, a1, a2, a3, a4⟩ := h6 j hj
    exact ⟨⟨_, a1, a2⟩, _, a3, a4⟩
  · obtain ⟨-, a1, a2, a3, a4, a5⟩ := h7 q hq
    exact ⟨_, _, a1, a2, a3, a4, a5⟩
def iSN : SN := (nI 12, 2, iM12, iS12, iK12, iX12, iY12, iF12, iT12, iN12)
def cXY (f : Nat → Int32) : Bool := allB (fun k => decide ((f k).toNatClampNeg ≤ 60) && decide (f k = nI (f k).toNatClampNeg)) 16
theorem cXY_ok {f : Nat → Int32} (h : cXY f = true) : okXY f := fun k hk => by
  have h1 := allB_iff.mp h k hk
  simp only [Bool.and_eq_true, decide_eq_true_eq] at h1
  exact ⟨_, h1.1, h1.2⟩
theorem st_x : cXY iX12 = true := by decide +kernel
theorem st_y : cXY iY12 = true := by decide +kernel
theorem st_a : cS (tA stV) 0 iSN = true := by decide +kernel
theorem st_b : cS (tB stV) 1 iSN = true := by decide +kernel
theorem st_r : tR stV = nI 12 ∧ tN stV = 2 := by decide +kernel
theorem st_rel : RT1 stV iSN := by
  obtain ⟨a1, a2, a3⟩ := cS_ok st_a
  obtain ⟨b1, b2, b3⟩ := cS_ok st_b
  exact ⟨⟨st_r.1, st_r.2, ⟨a1, b1⟩, ⟨a2, b2⟩, ⟨cXY_ok st_x, cXY_ok st_y⟩, ⟨12, by decide, by decide, st_r.1⟩, by rw [st_r.2]; decide⟩, a3, b3⟩
theorem id_ordO (N : Nat) : ordO N ((fun i => i), 0) := ⟨Nat.zero_le N, fun k hk => hk, fun i j _ _ e => e⟩
theorem R_start (ah sv : Nat → Int32) : Rel stV (zf, 0) (clrF zf 12) ((fun i => i), 0) ((fun i => i), 0) t0s t0s (nI 12, 2, 0, 0, 0, 0, 0, 0, 0, 0) iM12 iS12 iK12 iX12 iY12 iF12 iT12 iN12 ah sv (clrF zf 12) zf :=
  ⟨st_rel, ⟨rfl, Nat.zero_le _, fun k hk => absurd hk (Nat.not_lt_zero k)⟩, fun k _ => rfl, ⟨rfl, id_ordO 8, fun k hk => absurd hk (Nat.not_lt_zero k)⟩, ⟨rfl, id_ordO 2, fun k hk => absurd hk (Nat.not_lt_zero k)⟩⟩
