/-! ===== the beliefs of both sides ===== -/
/-- no pair here and there, or the same number, lo to hi -/
def relB (lo hi : Nat) (B : Nat → Nat → Int32) (be : Nat → Int32) : Prop := ∀ i j, i < 8 → j < 8 → (B i j = 0 ∧ be (8 * i + j) = -4) ∨ ∃ b, lo ≤ b ∧ b ≤ hi ∧ B i j = nI b ∧ be (8 * i + j) = nI b
theorem rMin_eq (R k0 k1 : Int32) : (if reachV R k1 < reachV R k0 then reachV R k1 else reachV R k0) = rMin R k0 k1 := by
  unfold rMin
  rw [reach_eq, reach_eq]
  by_cases h : rNear R k1 < rNear R k0
  · rw [if_pos h, if_pos (by rw [i_le]; rw [i_lt] at h; omega)]
  · rw [if_neg h]
    by_cases h2 : rNear R k1 ≤ rNear R k0
    · rw [if_pos h2]
      rw [i_lt] at h
      rw [i_le] at h2
      exact Int32.toInt_inj.mp (by omega)
    · rw [if_neg h2]
theorem sq_nI {a b c d : Nat} (ha : a ≤ 60) (hb : b ≤ 60) (hc : c ≤ 60) (hd : d ≤ 60) : ∃ e, e ≤ 7200 ∧ (nI a - nI b) * (nI a - nI b) + (nI c - nI d) * (nI c - nI d) = nI e := by
  have x1 := bd_sub (bd_nI (B := 60) (n := a) (by omega) (by omega)) (bd_nI (B := 60) (n := b) (by omega) (by omega)) (by decide)
  have y1 := bd_sub (bd_nI (B := 60) (n := c) (by omega) (by omega)) (bd_nI (B := 60) (n := d) (by omega) (by omega)) (by decide)
  have hx : bd 60 (nI a - nI b) := by
    unfold bd
    rw [x1.2, nI_toInt (by omega), nI_toInt (by omega)]
    omega
  have hy : bd 60 (nI c - nI d) := by
    unfold bd
    rw [y1.2, nI_toInt (by omega), nI_toInt (by omega)]
    omega
  have x2 := bd_mul hx hx (by decide)
  have y2 := bd_mul hy hy (by decide)
  have z := bd_add x2.1 y2.1 (by decide)
  have p1 : (0 : Int) ≤ (nI a - nI b).toInt * (nI a - nI b).toInt := by
    rcases Int.le_total 0 (nI a - nI b).toInt with h | h
    · exact Int.mul_nonneg h h
    · exact Int.mul_nonneg_of_nonpos_of_nonpos h h
  have p2 : (0 : Int) ≤ (nI c - nI d).toInt * (nI c - nI d).toInt := by
    rcases Int.le_total 0 (nI c - nI d).toInt with h | h
    · exact Int.mul_nonneg h h
    · exact Int.mul_nonneg_of_nonpos_of_nonpos h h
  have hz : ¬ (nI a - nI b) * (nI a - nI b) + (nI c - nI d) * (nI c - nI d) < 0 := by
    rw [i_lt, i_0, z.2, x2.2, y2.2]
    omega
  obtain ⟨e, he, ee⟩ := nI_of hz
  refine ⟨e, ?_, ee⟩
  have h1 := z.1.2
  rw [ee, nI_toInt he] at h1
  omega
theorem first_eq {v : TV} {S : SN} (h : RT v S) {i j : Nat} (hi : i < 8) (hj : j < 8) : (belF v i j = 0 ∧ rFst (nR S) (nM S) (nKd S) (nX S) (nY S) i j = -4) ∨ ∃ b, 512 ≤ b ∧ b ≤ 210000 ∧ belF v i j = nI b ∧ rFst (nR S) (nM S) (nKd S) (nX S) (nY S) i j = nI b := by
  obtain ⟨a1, a2, ⟨a3, a4⟩, ⟨a5, a6⟩, a7, ⟨r, hr1, hr2, a8⟩, a9⟩ := h
  have m0 : sM (tA v) = nM S 0 := a3.1
  have m1 : sM (tB v) = nM S 1 := a4.1
  unfold belF firstB rFst
  rw [← m0, ← m1]
  by_cases hc : i < sM (tA v) ∧ j < sM (tB v)
  · rw [if_pos hc, if_pos hc]
    obtain ⟨e1, e2, e3⟩ := a3.2.2.1 i hc.1
    obtain ⟨f1, f2, f3⟩ := a4.2.2.1 j hc.2
    rw [show 8 * 0 + i = i by omega] at e1 e2 e3
    rw [show 8 * 1 + j = 8 + j by omega] at f1 f2 f3
    have ed : sqD v i j = rDist (nX S) (nY S) i (8 + j) := by
      unfold sqD rDist
      rw [e2, e3, f2, f3]
    have em : rch v i j = rMin (nR S) (nKd S i) (nKd S (8 + j)) := by
      unfold rch
      rw [e1, f1, rMin_eq, a1]
    rw [ed, em, ← a1]
    obtain ⟨⟨x1, hx1, q1⟩, y1, hy1, q2⟩ := a5.2.1 i hc.1
    obtain ⟨⟨x2, hx2, q3⟩, y2, hy2, q4⟩ := a6.2.1 j hc.2
    obtain ⟨d, hd, q5⟩ := sq_nI hx1 hx2 hy1 hy2
    have ed2 : rDist (nX S) (nY S) i (8 + j) = nI d := by
      rw [← ed]
      unfold sqD
      rw [q1, q2, q3, q4]
      exact q5
    by_cases hp : rDist (nX S) (nY S) i (8 + j) ≤ rMin (tR v) (nKd S i) (nKd S (8 + j)) * rMin (tR v) (nKd S i) (nKd S (8 + j))
    · rw [if_pos hp, if_neg (show ¬ rMin (tR v) (nKd S i) (nKd S (8 + j)) * rMin (tR v) (nKd S i) (nKd S (8 + j)) < rDist (nX S) (nY S) i (8 + j) from by rw [i_lt]; rw [i_le] at hp; omega), ed2, a8, pk_mul, nI_add]
      have hrr : r * r ≤ 20 * 20 := Nat.mul_le_mul hr2 hr2
      have et : (nI (r * r + 1) - nI d).toInt = ((r * r + 1 : Nat) : Int) - d := pk_sub_toInt (by omega) (by omega)
      by_cases hb : nI 1 < nI (r * r + 1) - nI d
      · rw [if_pos hb, if_neg (by rw [i_le]; rw [i_lt] at hb; omega)]
        rw [i_lt, et, nI_toInt (by decide)] at hb
        rw [pk_sub (by omega), pk_mul]
        exact Or.inr ⟨512 * (r * r + 1 - d), by omega, by omega, rfl, rfl⟩
      · rw [if_neg hb, if_pos (by rw [i_le]; rw [i_lt] at hb; omega), pk_mul]
        exact Or.inr ⟨512 * 1, by decide, by decide, rfl, rfl⟩
    · rw [if_neg hp, if_pos (show rMin (tR v) (nKd S i) (nKd S (8 + j)) * rMin (tR v) (nKd S i) (nKd S (8 + j)) < rDist (nX S) (nY S) i (8 + j) from by rw [i_lt]; rw [i_le] at hp; omega)]
      exact Or.inl ⟨by decide, rfl⟩
  · rw [if_neg hc, if_neg hc]
    exact Or.inl ⟨by decide, rfl⟩
theorem relB_0 {v : TV} {S : SN} (h : RT v S) (B : Nat → Nat → Int32) (be : Nat → Int32) : relB 512 210000 (fillB (belF v) B 8 0) (tkF (rFstK (nR S) (nM S) (nKd S) (nX S) (nY S)) be 64) := by
  intro i j hi hj
  rw [fillB_in hi hj, tkF_in (by omega), rFstK_at _ _ _ _ _ hj]
  exact first_eq h hi hj
theorem sumI_congr {f g : Nat → Int32} : ∀ {n : Nat}, (∀ i, i < n → f i = g i) → sumI f n = sumI g n
  | 0, _ => rfl
  | n + 1, h => by
    show sumI f n + f n = sumI g n + g n
    rw [sumI_congr (fun i hi => h i (by omega)), h n (by omega)]
theorem maxI_congr {f g : Nat → Int32} : ∀ {n : Nat}, (∀ i, i < n → f i = g i) → maxI f n = maxI g n
  | 0, _ => rfl
  | n + 1, h => by
    show (if maxI f n < f n then f n else maxI f n) = (if maxI g n < g n then g n else maxI g n)
    rw [maxI_congr (fun i hi => h i (by omega)), h n (by omega)]
def upto (hi : Nat) (x : Int32) : Prop := ∃ b, b ≤ hi ∧ x = nI b
theorem upto_0 (hi : Nat) : upto hi (nI 0) := ⟨0, Nat.zero_le _, rfl⟩
theorem upto_max {f : Nat → Int32} {hi : Nat} : ∀ {n : Nat}, (∀ i, i < n → upto hi (f i)) → upto hi (maxI f n)
  | 0, _ => upto_0 hi
  | n + 1, h => by
    show upto hi (if maxI f n < f n then f n else maxI f n)
    split
    · exact h n (by omega)
    · exact upto_max (fun i hi => h i (by omega))
theorem upto_sum {f : Nat → Int32} {hi : Nat} : ∀ {n : Nat}, (∀ i, i < n → upto hi (f i)) → upto (n * hi) (sumI f n)
  | 0, _ => ⟨0, Nat.zero_le _, rfl⟩
  | n + 1, h => by
    obtain ⟨a, h1, e1⟩ := upto_sum (n := n) (fun i hi => h i (by omega))
    obtain ⟨b, h2, e2⟩ := h n (by omega)
    refine ⟨a + b, ?_, ?_⟩
    · rw [Nat.succ_mul]; omega
    · show sumI f n + f n = _
      rw [e1, e2, nI_add]
/-- the other end, here and there -/
theorem other_eq {w : SV} {g : Nat} {S : SN} (h : relS w g S) (hg : goodS w) {q : Nat} (hq : q < sS w) (i : Int32) : (svOther w q i = -1 ∧ rOther (nF S) (nT S) g q i = -4) ∨ ∃ k, k < sM w ∧ svOther w q i = nI k ∧ rOther (nF S) (nT S) g q i = nI k := by
  obtain ⟨e1, e2, -⟩ := h.2.2.2 q hq
  obtain ⟨a, b, h1, h2, -, h3, h4⟩ := hg.2.2.1 q hq
  unfold svOther rOther
  rw [← e1, ← e2, h3, h4]
  by_cases c : nI a = i
  · rw [if_pos c, if_pos c]; exact Or.inr ⟨b, h2, rfl, rfl⟩
  · rw [if_neg c, if_neg c]
    by_cases c2 : nI b = i
    · rw [if_pos c2, if_pos c2]; exact Or.inr ⟨a, h1, rfl, rfl⟩
    · rw [if_neg c2, if_neg c2]; exact Or.inl ⟨rfl, rfl⟩
theorem bIn_at {C : Nat → Nat → Int32} {a b : Nat} (ha : a < 8) (hb : b < 8) : bIn C (nI a) (nI b) = C a b := by
  unfold bIn
  rw [hasN_t ha (by decide), hasN_t hb (by decide), nI_clamp (by omega), nI_clamp (by omega)]
  rfl
theorem bIn_m1 {C : Nat → Nat → Int32} {x y : Int32} (h : x = -1 ∨ y = -1) : bIn C x y = nI 0 := by
  unfold bIn
  rcases h with rfl | rfl
  · rw [hasN_m1]; rfl
  · rw [hasN_m1, Bool.and_false]; rfl
theorem rBel_at {be : Nat → Int32} {a b : Nat} (ha : a < 8) (hb : b < 8) : rBel be (nI a) (nI b) = if be (8 * a + b) = -4 then nI 0 else be (8 * a + b) := by
  unfold rBel
  rw [nI_clamp (by omega), nI_clamp (by omega)]
theorem bel_eq {lo hi : Nat} {B : Nat → Nat → Int32} {be : Nat → Int32} (h : relB lo hi B be) (hhi : hi < 2 ^ 31) {a b : Nat} (ha : a < 8) (hb : b < 8) : B a b = rBel be (nI a) (nI b) ∧ upto hi (B a b) := by
  rw [rBel_at ha hb]
  rcases h a b ha hb with ⟨e1, e2⟩ | ⟨c, h1, h2, e1, e2⟩
  · rw [e1, e2, if_pos rfl]; exact ⟨nI_0.symm, 0, Nat.zero_le _, nI_0.symm⟩
  · rw [e1, e2, if_neg (nI_ne_m4 (by omega))]; exact ⟨rfl, c, h2, rfl⟩
theorem sup_eq {v : TV} {S : SN} (h : RT v S) {lo hi : Nat} {B : Nat → Nat → Int32} {be : Nat → Int32} (hB : relB lo hi B be) (hhi : hi < 2 ^ 31) {C : Nat → Nat → Int32} (hC : ∀ a b, a < 8 → b < 8 → C a b = B a b) (i j : Nat) :
    (sup0 v C i j = rSum0 (nS S) (nF S) (nT S) be i j ∧ upto (8 * hi) (sup0 v C i j)) ∧ (sup1 v C j i = rSum1 (nS S) (nF S) (nT S) be i j ∧ upto (8 * hi) (sup1 v C j i)) := by
  obtain ⟨a1, a2, ⟨a3, a4⟩, ⟨a5, a6⟩, -⟩ := h
  have hA := a5.1.1
  have hB8 := a6.1.1
  have n0 : sS (tA v) = nS S 0 := a3.2.1
  have n1 : sS (tB v) = nS S 1 := a4.2.1
  have key : ∀ q, q < sS (tA v) → ∀ t, t < sS (tB v) → (bIn C (svOther (tA v) q (nI i)) (svOther (tB v) t (nI j)) = rG0 (nF S) (nT S) be q (nI i) (nI j) t ∨ svOther (tA v) q (nI i) = -1) ∧ (bIn C (svOther (tA v) q (nI i)) (svOther (tB v) t (nI j)) = rG1 (nF S) (nT S) be t (nI i) (nI j) q ∨ svOther (tB v) t (nI j) = -1) ∧ upto hi (bIn C (svOther (tA v) q (nI i)) (svOther (tB v) t (nI j))) := by
    intro q hq t ht
    unfold rG0 rG1 rGv
    rcases other_eq a3 a5 hq (nI i) with ⟨e1, e2⟩ | ⟨k, hk, e1, e2⟩
    · rw [e1, e2, bIn_m1 (Or.inl rfl)]
      exact ⟨Or.inr rfl, Or.inl (if_pos rfl).symm, upto_0 _⟩
    · rcases other_eq a4 a6 ht (nI j) with ⟨f1, f2⟩ | ⟨l, hl, f1, f2⟩
      · rw [f1, f2, bIn_m1 (Or.inr rfl)]
        exact ⟨Or.inl (if_pos rfl).symm, Or.inr rfl, upto_0 _⟩
      · rw [e1, e2, f1, f2, bIn_at (by omega) (by omega), hC k l (by omega) (by omega), if_neg (nI_ne_m4 (by omega)), if_neg (nI_ne_m4 (by omega))]
        obtain ⟨g1, g2⟩ := bel_eq hB hhi (show k < 8 by omega) (show l < 8 by omega)
        exact ⟨Or.inl g1, Or.inl g1, g2⟩
  refine ⟨⟨?_, ?_⟩, ⟨?_, ?_⟩⟩
  · unfold sup0 rSum0
    rw [← n0]
    refine sumI_congr (fun q hq => ?_)
    unfold gvI rF0 rgv
    rcases other_eq a3 a5 hq (nI i) with ⟨e1, e2⟩ | ⟨k, hk, e1, e2⟩
    · rw [if_pos e1, if_pos e2]
    · rw [if_neg (by rw [e1]; exact nI_ne_m1 (by omega)), if_neg (by rw [e2]; exact nI_ne_m4 (by omega)), ← n1]
      exact maxI_congr (fun t ht => (key q hq t ht).1.resolve_right (by rw [e1]; exact nI_ne_m1 (by omega)))
  · have hn : sS (tA v) ≤ 8 := a5.1.2
    obtain ⟨b, hb, eb⟩ := upto_sum (f := fun q => gvI (svOther (tA v) q (nI i)) (fun t => bIn C (svOther (tA v) q (nI i)) (svOther (tB v) t (nI j))) (sS (tB v))) (hi := hi) (n := sS (tA v)) (fun q hq => by
      unfold gvI
      split
      · exact upto_0 _
      · exact upto_max (fun t ht => (key q hq t ht).2.2))
    exact ⟨b, Nat.le_trans hb (Nat.mul_le_mul_right hi hn), eb⟩
  · unfold sup1 rSum1
    rw [← n1]
    refine sumI_congr (fun q hq => ?_)
    unfold gvI rF1 rgv
    rcases other_eq a4 a6 hq (nI j) with ⟨e1, e2⟩ | ⟨k, hk, e1, e2⟩
    · rw [if_pos e1, if_pos e2]
    · rw [if_neg (by rw [e1]; exact nI_ne_m1 (by omega)), if_neg (by rw [e2]; exact nI_ne_m4 (by omega)), ← n0]
      exact maxI_congr (fun t ht => (key t ht q hq).2.1.resolve_right (by rw [e1]; exact nI_ne_m1 (by omega)))
  · have hn : sS (tB v) ≤ 8 := a6.1.2
    obtain ⟨b, hb, eb⟩ := upto_sum (f := fun q => gvI (svOther (tB v) q (nI j)) (fun t => bIn C (svOther (tA v) t (nI i)) (svOther (tB v) q (nI j))) (sS (tA v))) (hi := hi) (n := sS (tB v)) (fun q hq => by
      unfold gvI
      split
      · exact upto_0 _
      · exact upto_max (fun t ht => (key t ht q hq).2.2))
    exact ⟨b, Nat.le_trans hb (Nat.mul_le_mul_right hi hn), eb⟩
theorem relB_s {v : TV} {S : SN} (h : RT v S) {lo hi : Nat} {p : BC} {b : BN} (hB : relB lo hi p.1 b.1) (hlo : 2 ≤ lo) (hhi : hi ≤ 100000000) : relB (lo / 2) (3 * hi) (impS v p).1 (rImpS (nS S) (nF S) (nT S) b).1 := by
  intro i j hi8 hj8
  have e1 : (impS v p).1 i j = impF v (cpyR p.1 p.2 8) p.1 i j := fillB_in hi8 hj8
  have e2 : (rImpS (nS S) (nF S) (nT S) b).1 (8 * i + j) = rImp (nS S) (nF S) (nT S) b.1 (8 * i + j) := by
    show tkF (tkF (rImp (nS S) (nF S) (nT S) b.1) b.2 64) b.1 64 (8 * i + j) = _
    rw [tkF_in (by omega), tkF_in (by omega)]
  rw [e1, e2]
  unfold impF rImp
  rw [show (8 * i + j) / 8 = i by omega, show (8 * i + j) % 8 = j by omega, cpyR_in hi8 hj8]
  obtain ⟨⟨s1, x, hx, s2⟩, ⟨s3, y, hy, s4⟩⟩ := sup_eq h hB (by omega) (C := cpyR p.1 p.2 8) (fun a b ha hb => cpyR_in ha hb) i j
  rcases hB i j hi8 hj8 with ⟨f1, f2⟩ | ⟨c, h1, h2, f1, f2⟩
  · rw [f1, f2, if_pos (by decide), if_pos rfl]
    exact Or.inl ⟨rfl, rfl⟩
  · rw [f1, f2, if_neg (nI_nle (by omega) (by omega)), if_neg (nI_ne_m4 (by omega)), ← s1, ← s3, s2, s4, nI_add, pk_div (by omega) (by decide) (by decide), pk_div (by omega) (by decide) (by decide), nI_add]
    exact Or.inr ⟨c / 2 + (x + y) / 8, by omega, by omega, rfl, rfl⟩
theorem relB_n {v : TV} {S : SN} (h : RT v S) {p : BC} {b : BN} (hB : relB 512 210000 p.1 b.1) : ∀ n, n ≤ 3 → relB (512 / 2 ^ n) (210000 * 3 ^ n) (impN v n p).1 (rImpN (nS S) (nF S) (nT S) n b).1
  | 0, _ => hB
  | n + 1, hn => by
    have ih := relB_n h hB n (by omega)
    have h3 := relB_s h ih (by rcases (show n = 0 ∨ n = 1 ∨ n = 2 by omega) with rfl | rfl | rfl <;> decide) (by rcases (show n = 0 ∨ n = 1 ∨ n = 2 by omega) with rfl | rfl | rfl <;> decide)
    have e1 : 512 / 2 ^ n / 2 = 512 / 2 ^ (n + 1) := by rcases (show n = 0 ∨ n = 1 ∨ n = 2 by omega) with rfl | rfl | rfl <;> decide
    have e2 : 3 * (210000 * 3 ^ n) = 210000 * 3 ^ (n + 1) := by rcases (show n = 0 ∨ n = 1 ∨ n = 2 by omega) with rfl | rfl | rfl <;> decide
    rw [e1, e2] at h3
    exact h3
def relBe (B : Nat → Nat → Int32) (be : Nat → Int32) : Prop := relB 1 10000000 B be
theorem bel_all {v : TV} {S : SN} (h : RT v S) (p : BC) (b : BN) : relBe (belAll v p).1 (rBelAll (nR S) (nN S) (nM S) (nS S) (nKd S) (nX S) (nY S) (nF S) (nT S) b).1 := by
  unfold belAll rBelAll
  have e : tN v = nN S := h.2.1
  have hn := h.2.2.2.2.2.2
  rw [← e]
  have h3 := relB_n h (p := (fillB (belF v) p.1 8 0, p.2)) (b := (tkF (rFstK (nR S) (nM S) (nKd S) (nX S) (nY S)) b.1 64, b.2)) (relB_0 h p.1 b.1) (tN v) hn
  intro i j hi hj
  rcases h3 i j hi hj with q | ⟨c, h1, h2, h4⟩
  · exact Or.inl q
  · have l1 : 1 ≤ 512 / 2 ^ tN v := by rcases (show tN v = 0 ∨ tN v = 1 ∨ tN v = 2 ∨ tN v = 3 by omega) with q | q | q | q <;> rw [q] <;> decide
    have l2 : 210000 * 3 ^ tN v ≤ 10000000 := by rcases (show tN v = 0 ∨ tN v = 1 ∨ tN v = 2 ∨ tN v = 3 by omega) with q | q | q | q <;> rw [q] <;> decide
    exact Or.inr ⟨c, by omega, by omega, h4⟩
