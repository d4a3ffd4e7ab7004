/-! ===== both sides tell one state ===== -/
abbrev nR (S : SN) := S.1
abbrev nN (S : SN) := S.2.1
abbrev nM (S : SN) := S.2.2.1
abbrev nS (S : SN) := S.2.2.2.1
abbrev nKd (S : SN) := S.2.2.2.2.1
abbrev nX (S : SN) := S.2.2.2.2.2.1
abbrev nY (S : SN) := S.2.2.2.2.2.2.1
abbrev nF (S : SN) := S.2.2.2.2.2.2.2.1
abbrev nT (S : SN) := S.2.2.2.2.2.2.2.2.1
abbrev nNm (S : SN) := S.2.2.2.2.2.2.2.2.2
def relS (w : SV) (g : Nat) (S : SN) : Prop := sM w = nM S g ∧ sS w = nS S g ∧ (∀ j, j < sM w → sKd w j = nKd S (8 * g + j) ∧ sX w j = nX S (8 * g + j) ∧ sY w j = nY S (8 * g + j)) ∧ (∀ j, j < sS w → sU w j = nF S (8 * g + j) ∧ sV w j = nT S (8 * g + j) ∧ sNm w j = nNm S (8 * g + j))
def goodS (w : SV) : Prop := okS w ∧ (∀ j, j < sM w → (∃ x, x ≤ 60 ∧ sX w j = nI x) ∧ ∃ y, y ≤ 60 ∧ sY w j = nI y) ∧ (∀ q, q < sS w → ∃ a b, a < sM w ∧ b < sM w ∧ a ≠ b ∧ sU w q = nI a ∧ sV w q = nI b) ∧ (∀ q r, q < r → r < sS w → sbP w (sU w r) (sV w r) q = false)
def RT (v : TV) (S : SN) : Prop := tR v = nR S ∧ tN v = nN S ∧ (relS (tA v) 0 S ∧ relS (tB v) 1 S) ∧ (goodS (tA v) ∧ goodS (tB v)) ∧ (okXY (nX S) ∧ okXY (nY S)) ∧ (∃ r, 1 ≤ r ∧ r ≤ 20 ∧ tR v = nI r) ∧ tN v ≤ 3
def RT1 (v : TV) (S : SN) : Prop := RT v S ∧ 1 ≤ sM (tA v) ∧ 1 ≤ sM (tB v)
theorem RT.ok {v : TV} {S : SN} (h : RT v S) : okT v := ⟨h.2.2.2.1.1.1, h.2.2.2.1.2.1, h.2.2.2.2.2.2⟩
theorem RT.mm {v : TV} {S : SN} (h : RT v S) : ∀ g, g < 2 → nM S g ≤ 8 := fun g hg => by
  rcases (show g = 0 ∨ g = 1 by omega) with rfl | rfl
  · rw [← h.2.2.1.1.1]; exact h.ok.1.1
  · rw [← h.2.2.1.2.1]; exact h.ok.2.1.1
theorem RT.ss {v : TV} {S : SN} (h : RT v S) : ∀ g, g < 2 → nS S g ≤ 8 := fun g hg => by
  rcases (show g = 0 ∨ g = 1 by omega) with rfl | rfl
  · rw [← h.2.2.1.1.2.1]; exact h.ok.1.2
  · rw [← h.2.2.1.2.2.1]; exact h.ok.2.1.2
theorem okE_of {w : SV} {g : Nat} {S : SN} (h : relS w g S) (hg : goodS w) {q : Nat} (hq : q < nS S g) : (∃ j, j < 8 ∧ nF S (8 * g + q) = nI j) ∧ (∃ j, j < 8 ∧ nT S (8 * g + q) = nI j) := by
  rw [← h.2.1] at hq
  obtain ⟨a, b, h1, h2, -, h3, h4⟩ := hg.2.2.1 q hq
  obtain ⟨e1, e2, -⟩ := h.2.2.2 q hq
  have := hg.1.1
  exact ⟨⟨a, by omega, by rw [← e1, h3]⟩, ⟨b, by omega, by rw [← e2, h4]⟩⟩
theorem RT.E {v : TV} {S : SN} (h : RT v S) : okE (nS S) (nF S) (nT S) := fun g q hg hq => by
  rcases (show g = 0 ∨ g = 1 by omega) with rfl | rfl
  · exact okE_of h.2.2.1.1 h.2.2.2.1.1 hq
  · exact okE_of h.2.2.1.2 h.2.2.2.1.2 hq
theorem hasN_in {m : Nat} (hm : m ≤ 8) (i : Int32) : hasN m i = inR i (nI 0) (nI m - nI 1) := by
  have e : (nI m - nI 1).toInt = (m : Int) - 1 := pk_sub_toInt (by omega) (by decide)
  unfold hasN inR
  refine decide_eq_decide.mpr ?_
  rw [i_lt, i_le, i_lt, i_lt, e, nI_toInt (by omega), n_0, i_0]
  omega
theorem hasM_eq {v : TV} {S : SN} (h : RT v S) (z i : Int32) : hasM v z i = hasR (nM S) z i := by
  have h0 := h.ok.1.1
  have h1 := h.ok.2.1.1
  unfold hasM hasR
  by_cases e0 : z = nI 0
  · subst e0
    rw [mmOf_0, ← h.2.2.1.1.1, ← hasN_in h0]
    simp [show inR (nI 0) (nI 0) (nI 1) = true from by decide]
    intro h9; exact absurd h9 (by decide)
  · by_cases e1 : z = nI 1
    · subst e1
      rw [mmOf_1, ← h.2.2.1.2.1, ← hasN_in h1]
      simp [show inR (nI 1) (nI 0) (nI 1) = true from by decide, show (nI 1 = 0) = False from by decide, nI_0]
      intro _; decide
    · have e2 : inR z (nI 0) (nI 1) = false := by
        cases q : inR z (nI 0) (nI 1) with
        | false => rfl
        | true => rcases inR01 q with q | q <;> contradiction
      rw [e2]
      simp [e0, e1]
theorem hasS_eq {v : TV} {S : SN} (h : RT v S) (z i : Int32) : hasS v z i = hasR (nS S) z i := by
  have h0 := h.ok.1.2
  have h1 := h.ok.2.1.2
  unfold hasS hasR
  by_cases e0 : z = nI 0
  · subst e0
    rw [mmOf_0, ← h.2.2.1.1.2.1, ← hasN_in h0]
    simp [show inR (nI 0) (nI 0) (nI 1) = true from by decide]
    intro h9; exact absurd h9 (by decide)
  · by_cases e1 : z = nI 1
    · subst e1
      rw [mmOf_1, ← h.2.2.1.2.2.1, ← hasN_in h1]
      simp [show inR (nI 1) (nI 0) (nI 1) = true from by decide, show (nI 1 = 0) = False from by decide, nI_0]
      intro _; decide
    · have e2 : inR z (nI 0) (nI 1) = false := by
        cases q : inR z (nI 0) (nI 1) with
        | false => rfl
        | true => rcases inR01 q with q | q <;> contradiction
      rw [e2]
      simp [e0, e1]
/-- a survey's part of the state -/
def inS (v : TV) (S : SN) (z : Int32) (g : Nat) : Prop := g < 2 ∧ z = nI g ∧ relS (svOf v z) g S ∧ goodS (svOf v z) ∧ mmOf (nM S) z = nM S g ∧ mmOf (nS S) z = nS S g ∧ z.toNatClampNeg = g
theorem inS_0 {v : TV} {S : SN} (h : RT v S) : inS v S (nI 0) 0 := ⟨by decide, rfl, h.2.2.1.1, h.2.2.2.1.1, rfl, rfl, by decide⟩
theorem inS_1 {v : TV} {S : SN} (h : RT v S) : inS v S (nI 1) 1 := ⟨by decide, rfl, h.2.2.1.2, h.2.2.2.1.2, rfl, rfl, by decide⟩
theorem hasM_ex {v : TV} {S : SN} (h : RT v S) {z i : Int32} (hh : hasM v z i = true) : ∃ g j, inS v S z g ∧ i = nI j ∧ j < sM (svOf v z) ∧ i.toNatClampNeg = j ∧ j < 8 ∧ rIx z i = 8 * g + j := by
  have h0 := h.ok.1.1
  have h1 := h.ok.2.1.1
  rcases hasM_or h.ok hh with ⟨rfl, j, hj, rfl⟩ | ⟨rfl, j, hj, rfl⟩
  · exact ⟨0, j, inS_0 h, rfl, hj, nI_clamp (by omega), by omega, by unfold rIx; rw [nI_clamp (by omega), nI_clamp (by omega)]⟩
  · exact ⟨1, j, inS_1 h, rfl, hj, nI_clamp (by omega), by omega, by unfold rIx; rw [nI_clamp (by omega), nI_clamp (by omega)]⟩
theorem hasS_ex {v : TV} {S : SN} (h : RT v S) {z i : Int32} (hh : hasS v z i = true) : ∃ g j, inS v S z g ∧ i = nI j ∧ j < sS (svOf v z) ∧ i.toNatClampNeg = j ∧ j < 8 ∧ rIx z i = 8 * g + j := by
  have h0 := h.ok.1.2
  have h1 := h.ok.2.1.2
  rcases hasS_or h.ok hh with ⟨rfl, j, hj, rfl⟩ | ⟨rfl, j, hj, rfl⟩
  · exact ⟨0, j, inS_0 h, rfl, hj, nI_clamp (by omega), by omega, by unfold rIx; rw [nI_clamp (by omega), nI_clamp (by omega)]⟩
  · exact ⟨1, j, inS_1 h, rfl, hj, nI_clamp (by omega), by omega, by unfold rIx; rw [nI_clamp (by omega), nI_clamp (by omega)]⟩
theorem cntB_congr {p q : Nat → Bool} : ∀ {n : Nat}, (∀ i, i < n → p i = q i) → cntB p n = cntB q n
  | 0, _ => rfl
  | n + 1, h => by
    unfold cntB
    rw [cntB_congr (fun i hi => h i (by omega)), h n (by omega)]
theorem inR_f5 {q : Int32} {n : Nat} (h : inR q (nI 0) (nI n) = false) (hn : n < 2 ^ 31) : ∀ k, k ≤ n → ¬ q = nI k := fun k hk e => by
  rw [e, inR_t ⟨Nat.zero_le k, hk⟩ hn] at h
  cases h
theorem reach_eq (R k : Int32) : reachV R k = rNear R k := by
  unfold reachV rNear
  by_cases h1 : k = nI 1
  · subst h1
    rw [if_pos rfl, if_neg (by decide), if_pos rfl]
  · by_cases h2 : k = nI 2
    · subst h2
      rw [if_neg (by decide), if_pos rfl, if_pos rfl]
      by_cases e : R + nI 5 < nI 20
      · rw [if_pos e, if_neg (by rw [i_le]; rw [i_lt] at e; omega)]
      · rw [if_neg e, if_pos (by rw [i_le]; rw [i_lt] at e; omega)]
    · rw [if_neg h1, if_neg h2, if_neg h2, if_neg h1]
/-- the streets at a meeting -/
theorem other_m1 {w : SV} (hg : goodS w) {q : Nat} (hq : q < sS w) (i : Int32) : (svOther w q i = -1 ↔ ¬ (sU w q = i ∨ sV w q = i)) := by
  obtain ⟨a, b, h1, h2, -, h3, h4⟩ := hg.2.2.1 q hq
  have := hg.1.1
  unfold svOther
  rw [h3, h4]
  by_cases e : nI a = i
  · rw [if_pos e]
    exact ⟨fun h => absurd h (nI_ne_m1 (by omega)), fun h => absurd (Or.inl e) h⟩
  · rw [if_neg e]
    by_cases e2 : nI b = i
    · rw [if_pos e2]
      exact ⟨fun h => absurd h (nI_ne_m1 (by omega)), fun h => absurd (Or.inr e2) h⟩
    · rw [if_neg e2]
      exact ⟨fun _ h => h.elim e e2, fun _ => rfl⟩
theorem streets_eq {w : SV} {g : Nat} {S : SN} (h : relS w g S) (hg : goodS w) (i : Int32) : cntB (fun k => decide (¬ svOther w k i = -1)) (sS w) = cntB (rAtP (nF S) (nT S) g i) (nS S g) := by
  rw [← h.2.1]
  refine cntB_congr (fun q hq => ?_)
  obtain ⟨e1, e2, -⟩ := h.2.2.2 q hq
  unfold rAtP
  rw [← e1, ← e2, ← Bool.decide_or]
  refine decide_eq_decide.mpr ?_
  rw [other_m1 hg hq]
  exact Decidable.not_not
theorem meet_eq {v : TV} {S : SN} (h : RT v S) {s : MD0} (hs : dR s = nR S) (z i q : Int32) : meetV v z i q = rMeet s (nM S) (nS S) (nKd S) (nX S) (nY S) (nF S) (nT S) z i q := by
  unfold meetV rMeet
  rw [← hasM_eq h]
  cases hh : hasM v z i with
  | false => rfl
  | true =>
    obtain ⟨g, j, hi, rfl, hj, ej, -, er⟩ := hasM_ex h hh
    obtain ⟨hg, -, h1, h2, h3, h4, h5⟩ := hi
    obtain ⟨e1, e2, e3⟩ := h1.2.2.1 j hj
    rw [er, ej, h4, h5, e1, e2, e3, streets_eq h1 h2, hs, ← h.1, ← reach_eq]
    cases hq : inR q (nI 0) (nI 4) with
    | true =>
      obtain ⟨k, hk, rfl⟩ := inR_nI hq (by decide)
      rcases (show k = 0 ∨ k = 1 ∨ k = 2 ∨ k = 3 ∨ k = 4 by omega) with rfl | rfl | rfl | rfl | rfl <;> rfl
    | false =>
      have hf := inR_f5 hq (by decide)
      simp only [if_neg (hf 0 (by decide)), if_neg (hf 1 (by decide)), if_neg (hf 2 (by decide)), if_neg (hf 3 (by decide)), if_neg (hf 4 (by decide))]
      rfl
theorem strt_eq {v : TV} {S : SN} (h : RT v S) (z i q : Int32) : strtV v z i q = rStr (nS S) (nF S) (nT S) (nNm S) z i q := by
  unfold strtV rStr
  rw [← hasS_eq h]
  cases hh : hasS v z i with
  | false => rfl
  | true =>
    obtain ⟨g, j, hi, rfl, hj, ej, -, er⟩ := hasS_ex h hh
    obtain ⟨hg, -, h1, h2, h3, h4, h5⟩ := hi
    obtain ⟨e1, e2, e3⟩ := h1.2.2.2 j hj
    rw [er, ej, e1, e2, e3]
    cases hq : inR q (nI 0) (nI 2) with
    | true =>
      obtain ⟨k, hk, rfl⟩ := inR_nI hq (by decide)
      rcases (show k = 0 ∨ k = 1 ∨ k = 2 by omega) with rfl | rfl | rfl <;> rfl
    | false =>
      have hf := inR_f5 hq (by decide)
      simp only [if_neg (hf 0 (by decide)), if_neg (hf 1 (by decide)), if_neg (hf 2 (by decide))]
      rfl
