/-! ===== acts keep both sides together ===== -/
def sameB (S S' : SN) (g : Nat) : Prop := nM S' g = nM S g ∧ nS S' g = nS S g ∧ ∀ j, j < 8 → nKd S' (8 * g + j) = nKd S (8 * g + j) ∧ nX S' (8 * g + j) = nX S (8 * g + j) ∧ nY S' (8 * g + j) = nY S (8 * g + j) ∧ nF S' (8 * g + j) = nF S (8 * g + j) ∧ nT S' (8 * g + j) = nT S (8 * g + j) ∧ nNm S' (8 * g + j) = nNm S (8 * g + j)
theorem relS.same {w : SV} {g : Nat} {S S' : SN} (h : relS w g S) (hk : okS w) (hb : sameB S S' g) : relS w g S' := by
  obtain ⟨h1, h2, h3, h4⟩ := h
  obtain ⟨b1, b2, b3⟩ := hb
  refine ⟨h1.trans b1.symm, h2.trans b2.symm, fun j hj => ?_, fun j hj => ?_⟩
  · obtain ⟨e1, e2, e3⟩ := h3 j hj
    obtain ⟨c1, c2, c3, -⟩ := b3 j (by have := hk.1; omega)
    exact ⟨e1.trans c1.symm, e2.trans c2.symm, e3.trans c3.symm⟩
  · obtain ⟨e1, e2, e3⟩ := h4 j hj
    obtain ⟨-, -, -, c1, c2, c3⟩ := b3 j (by have := hk.2; omega)
    exact ⟨e1.trans c1.symm, e2.trans c2.symm, e3.trans c3.symm⟩
theorem RT_put {v : TV} {S S' : SN} {z : Int32} {g : Nat} (h : RT v S) (hi : inS v S z g) {w' : SV} (hr : relS w' g S') (hg : goodS w') (hb : sameB S S' (1 - g)) (hx : okXY (nX S') ∧ okXY (nY S')) (e1 : nR S' = nR S) (e2 : nN S' = nN S) : RT (tPut v z w') S' := by
  obtain ⟨hg2, rfl, -⟩ := hi
  obtain ⟨a1, a2, ⟨a3, a4⟩, ⟨a5, a6⟩, a7, a8, a9⟩ := h
  rcases (show g = 0 ∨ g = 1 by omega) with rfl | rfl
  · rw [tPut_0]
    exact ⟨a1.trans e1.symm, a2.trans e2.symm, ⟨hr, a4.same a6.1 hb⟩, ⟨hg, a6⟩, hx, a8, a9⟩
  · rw [tPut_1]
    exact ⟨a1.trans e1.symm, a2.trans e2.symm, ⟨a3.same a5.1 hb, hr⟩, ⟨a5, hg⟩, hx, a8, a9⟩
theorem tPut_M {v : TV} {S : SN} {z : Int32} {g : Nat} (hi : inS v S z g) {w' : SV} (h1 : 1 ≤ sM (tA v) ∧ 1 ≤ sM (tB v)) (hw : 1 ≤ sM w') : 1 ≤ sM (tA (tPut v z w')) ∧ 1 ≤ sM (tB (tPut v z w')) := by
  obtain ⟨hg2, rfl, -⟩ := hi
  rcases (show g = 0 ∨ g = 1 by omega) with rfl | rfl
  · rw [tPut_0]; exact ⟨hw, h1.2⟩
  · rw [tPut_1]; exact ⟨h1.1, hw⟩
theorem inS_M {v : TV} {S : SN} {z : Int32} {g : Nat} (hi : inS v S z g) (h1 : 1 ≤ sM (tA v) ∧ 1 ≤ sM (tB v)) : 1 ≤ sM (svOf v z) := by
  obtain ⟨hg2, rfl, -⟩ := hi
  rcases (show g = 0 ∨ g = 1 by omega) with rfl | rfl
  · rw [svOf_0]; exact h1.1
  · rw [svOf_1]; exact h1.2
theorem upd_far {F : Nat → Int32} {k j : Nat} {x : Int32} (h : j ≠ k) : upd F k x j = F j := upd_n F x h
theorem upd_rel {f F : Nat → Int32} {g n k : Nat} {x : Int32} (h : ∀ j, j < n → f j = F (8 * g + j)) : ∀ j, j < n → upd f k x j = upd F (8 * g + k) x (8 * g + j) := by
  intro j hj
  unfold upd
  by_cases e : j = k
  · rw [if_pos e, if_pos (by omega)]
  · rw [if_neg e, if_neg (by omega)]; exact h j hj
theorem okXY_upd {F : Nat → Int32} (h : okXY F) {k x : Nat} (hx : x ≤ 60) : okXY (upd F k (nI x)) := by
  intro j hj
  unfold upd
  by_cases e : j = k
  · rw [if_pos e]; exact ⟨x, hx, rfl⟩
  · rw [if_neg e]; exact h j hj
theorem put_ok {w : SV} {g : Nat} {S : SN} (h : relS w g S) (hg : goodS w) {j x y : Nat} (hj : j < sM w) (hx : x ≤ 60) (hy : y ≤ 60) : relS (svPut w j (nI x) (nI y)) g (nR S, nN S, nM S, nS S, nKd S, upd (nX S) (8 * g + j) (nI x), upd (nY S) (8 * g + j) (nI y), nF S, nT S, nNm S) ∧ goodS (svPut w j (nI x) (nI y)) := by
  obtain ⟨h1, h2, h3, h4⟩ := h
  obtain ⟨g1, g2, g3, g4⟩ := hg
  refine ⟨⟨h1, h2, fun i hi => ⟨(h3 i hi).1, upd_rel (n := sM w) (fun j hj => (h3 j hj).2.1) i hi, upd_rel (n := sM w) (fun j hj => (h3 j hj).2.2) i hi⟩, h4⟩, ⟨g1, fun i hi => ?_, g3, g4⟩⟩
  show (∃ x', x' ≤ 60 ∧ upd (sX w) j (nI x) i = nI x') ∧ ∃ y', y' ≤ 60 ∧ upd (sY w) j (nI y) i = nI y'
  unfold upd
  by_cases e : i = j
  · rw [if_pos e, if_pos e]; exact ⟨⟨x, hx, rfl⟩, ⟨y, hy, rfl⟩⟩
  · rw [if_neg e, if_neg e]; exact g2 i hi
theorem same_put {S : SN} {g j : Nat} (hg : g < 2) (hj : j < 8) (x y : Int32) : sameB S (nR S, nN S, nM S, nS S, nKd S, upd (nX S) (8 * g + j) x, upd (nY S) (8 * g + j) y, nF S, nT S, nNm S) (1 - g) :=
  ⟨rfl, rfl, fun i hi => ⟨rfl, upd_n _ _ (by omega), upd_n _ _ (by omega), rfl, rfl, rfl⟩⟩
theorem kind_ok {w : SV} {g : Nat} {S : SN} (h : relS w g S) (hg : goodS w) (j : Nat) (x : Int32) : relS (svKind w j x) g (nR S, nN S, nM S, nS S, upd (nKd S) (8 * g + j) x, nX S, nY S, nF S, nT S, nNm S) ∧ goodS (svKind w j x) :=
  ⟨⟨h.1, h.2.1, fun i hi => ⟨upd_rel (n := sM w) (fun j hj => (h.2.2.1 j hj).1) i hi, (h.2.2.1 i hi).2⟩, h.2.2.2⟩, hg⟩
theorem same_kind {S : SN} {g j : Nat} (hg : g < 2) (hj : j < 8) (x : Int32) : sameB S (nR S, nN S, nM S, nS S, upd (nKd S) (8 * g + j) x, nX S, nY S, nF S, nT S, nNm S) (1 - g) :=
  ⟨rfl, rfl, fun i hi => ⟨upd_n _ _ (by omega), rfl, rfl, rfl, rfl, rfl⟩⟩
theorem name_ok {w : SV} {g : Nat} {S : SN} (h : relS w g S) (hg : goodS w) (j : Nat) (x : Int32) : relS (svName w j x) g (nR S, nN S, nM S, nS S, nKd S, nX S, nY S, nF S, nT S, upd (nNm S) (8 * g + j) x) ∧ goodS (svName w j x) :=
  ⟨⟨h.1, h.2.1, h.2.2.1, fun i hi => ⟨(h.2.2.2 i hi).1, (h.2.2.2 i hi).2.1, upd_rel (n := sS w) (fun j hj => (h.2.2.2 j hj).2.2) i hi⟩⟩, hg⟩
theorem same_name {S : SN} {g j : Nat} (hg : g < 2) (hj : j < 8) (x : Int32) : sameB S (nR S, nN S, nM S, nS S, nKd S, nX S, nY S, nF S, nT S, upd (nNm S) (8 * g + j) x) (1 - g) :=
  ⟨rfl, rfl, fun i hi => ⟨rfl, rfl, rfl, rfl, rfl, upd_n _ _ (by omega)⟩⟩
/-! streets between -/
theorem findF_all {p : Nat → Bool} : ∀ {n : Nat}, findF p n = none ↔ ∀ k, k < n → p k = false
  | 0 => ⟨fun _ k hk => absurd hk (Nat.not_lt_zero k), fun _ => rfl⟩
  | n + 1 => by
    constructor
    · intro h k hk
      unfold findF at h
      cases e : findF p n with
      | some j => rw [e] at h; cases h
      | none =>
        rw [e] at h
        dsimp only at h
        by_cases q : p n = true
        · rw [if_pos q] at h; cases h
        · rcases (show k < n ∨ k = n by omega) with h2 | rfl
          · exact findF_all.mp e k h2
          · exact Bool.eq_false_iff.mpr q
    · intro h
      exact findF_none (findF_all.mpr (fun k hk => h k (by omega))) (h n (by omega))
theorem lastF_none {p : Nat → Bool} : ∀ {n : Nat}, (∀ k, k < n → p k = false) → lastF p n = -4
  | 0, _ => rfl
  | n + 1, h => by
    unfold lastF
    rw [h n (by omega), if_neg (by decide)]
    exact lastF_none (fun k hk => h k (by omega))
theorem lastF_one {p : Nat → Bool} {j : Nat} : ∀ {n : Nat}, j < n → p j = true → (∀ k, k < n → k ≠ j → p k = false) → lastF p n = nI j
  | 0, h, _, _ => absurd h (Nat.not_lt_zero j)
  | n + 1, h, h1, h2 => by
    unfold lastF
    by_cases e : n = j
    · subst e; rw [if_pos h1]
    · rw [h2 n (by omega) e, if_neg (by decide)]
      exact lastF_one (by omega) h1 (fun k hk => h2 k (by omega))
theorem rbP_eq {w : SV} {g : Nat} {S : SN} (h : relS w g S) {q : Nat} (hq : q < sS w) (x y : Int32) : rbP (nF S) (nT S) g x y q = sbP w x y q := by
  obtain ⟨e1, e2, -⟩ := h.2.2.2 q hq
  unfold rbP sbP
  rw [← e1, ← e2]
theorem lastF_congr {p q : Nat → Bool} : ∀ {n : Nat}, (∀ k, k < n → p k = q k) → lastF p n = lastF q n
  | 0, _ => rfl
  | n + 1, h => by
    unfold lastF
    rw [h n (by omega), lastF_congr (fun k hk => h k (by omega))]
theorem rBet_eq {w : SV} {g : Nat} {S : SN} (h : relS w g S) (x y : Int32) : rBet (nS S) (nF S) (nT S) g x y = lastF (sbP w x y) (sS w) := by
  unfold rBet
  rw [← h.2.1]
  exact lastF_congr (fun k hk => rbP_eq h hk x y)
/-- at most one street between two meetings -/
theorem sbP_one {w : SV} (hg : goodS w) {x y : Int32} {q r : Nat} (hq : q < sS w) (hr : r < sS w) (h1 : sbP w x y q = true) (h2 : sbP w x y r = true) : q = r := by
  have key : ∀ q r, q < r → r < sS w → sbP w x y q = true → sbP w x y r = true → False := by
    intro q r hqr hr h1 h2
    have h3 := hg.2.2.2 q r hqr hr
    unfold sbP at h1 h2 h3
    simp only [Bool.or_eq_true, Bool.and_eq_true, decide_eq_true_eq] at h1 h2
    simp only [Bool.or_eq_false_iff, Bool.and_eq_false_iff, decide_eq_false_iff_not] at h3
    grind
  rcases Nat.lt_trichotomy q r with h | h | h
  · exact (key q r h hr h1 h2).elim
  · exact h
  · exact (key r q h hq h2 h1).elim
theorem bet_none {w : SV} {g : Nat} {S : SN} (h : relS w g S) {x y : Int32} (e : sbF w x y = none) : rBet (nS S) (nF S) (nT S) g x y = -4 := by
  rw [rBet_eq h]
  exact lastF_none (findF_all.mp e)
theorem bet_some {w : SV} {g : Nat} {S : SN} (h : relS w g S) (hg : goodS w) {x y : Int32} {j : Nat} (e : sbF w x y = some j) : rBet (nS S) (nF S) (nT S) g x y = nI j := by
  obtain ⟨h1, h2⟩ := findF_lt e
  rw [rBet_eq h]
  refine lastF_one h1 h2 (fun k hk hne => ?_)
  cases q : sbP w x y k with
  | false => rfl
  | true => exact absurd (sbP_one hg hk h1 q h2) hne
theorem bet_iff {w : SV} {g : Nat} {S : SN} (h : relS w g S) (hg : goodS w) (x y : Int32) : oI (sbF w x y) = -1 ↔ rBet (nS S) (nF S) (nT S) g x y = -4 := by
  have := hg.1.2
  cases e : sbF w x y with
  | none => exact ⟨fun _ => bet_none h e, fun _ => rfl⟩
  | some j =>
    have hj := sbF_lt e
    rw [bet_some h hg e]
    exact ⟨fun q => absurd q (nI_ne_m1 (by omega)), fun q => absurd q (nI_ne_m4 (by omega))⟩
