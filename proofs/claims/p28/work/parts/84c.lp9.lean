/-! ===== ways, names, places: what the law asks of them ===== -/
theorem wy_2 (v : SV) (x y : Int32) (w w' : WY) : (wyFind v x y w).2 = (wyFind v x y w').2 := by
  unfold wyFind
  by_cases h0 : (hasN (sM v) x && hasN (sM v) y) = true
  · rw [if_pos h0, if_pos h0]
    by_cases h1 : sbQ v x y = true
    · rw [if_pos h1, if_pos h1]
    · rw [if_neg h1, if_neg h1]
      by_cases h2 : (f1W v x y).isSome = true
      · rw [if_pos h2, if_pos h2]
      · rw [if_neg h2, if_neg h2]
        by_cases h3 : (f2W v x y).isSome = true
        · rw [if_pos h3, if_pos h3]
        · rw [if_neg h3, if_neg h3]
  · rw [if_neg h0, if_neg h0]
theorem wy1_0 (f : Nat → Int32) (o : Option Nat) : wy1 f o 0 = f 0 := by
  cases o with
  | none => rfl
  | some m => exact upd_n _ _ (by decide)
theorem wy2_0 (v : SV) (x y : Int32) (f : Nat → Int32) : wy2 v x y f 0 = f 0 := by
  unfold wy2
  cases f2W v x y with
  | none => rfl
  | some m =>
    dsimp only
    cases f2I v x y m with
    | none => rfl
    | some n =>
      dsimp only
      rw [upd_n _ _ (by decide), upd_n _ _ (by decide)]
theorem wy_full (v : SV) (x y : Int32) (w : WY) : (wyFind v x y w).2 = 0 ∨ (1 ≤ (wyFind v x y w).2 ∧ (wyFind v x y w).2 ≤ 3 ∧ hasN (sM v) x = true ∧ hasN (sM v) y = true ∧ (wyFind v x y w).1 0 = x ∧ (wyFind v x y w).1 (wyFind v x y w).2 = y) := by
  unfold wyFind
  by_cases h0 : (hasN (sM v) x && hasN (sM v) y) = true
  · rw [if_pos h0]
    have h00 := h0
    simp only [Bool.and_eq_true] at h00
    by_cases h1 : sbQ v x y = true
    · rw [if_pos h1]
      refine Or.inr ⟨Nat.le_refl 1, by show (1 : Nat) ≤ 3; decide, h00.1, h00.2, ?_, ?_⟩
      · show upd (upd w.1 0 x) 1 y 0 = x
        rw [upd_n _ _ (by decide), upd_s]
      · exact upd_s (upd w.1 0 x) 1 y
    · rw [if_neg h1]
      by_cases h2 : (f1W v x y).isSome = true
      · rw [if_pos h2]
        refine Or.inr ⟨by show (1 : Nat) ≤ 2; decide, by show (2 : Nat) ≤ 3; decide, h00.1, h00.2, ?_, ?_⟩
        · show upd (wy1 (upd w.1 0 x) (f1W v x y)) 2 y 0 = x
          rw [upd_n _ _ (by decide), wy1_0, upd_s]
        · exact upd_s (wy1 (upd w.1 0 x) (f1W v x y)) 2 y
      · rw [if_neg h2]
        by_cases h3 : (f2W v x y).isSome = true
        · rw [if_pos h3]
          refine Or.inr ⟨by show (1 : Nat) ≤ 3; decide, by show (3 : Nat) ≤ 3; decide, h00.1, h00.2, ?_, ?_⟩
          · show upd (wy2 v x y (wy1 (upd w.1 0 x) (f1W v x y))) 3 y 0 = x
            rw [upd_n _ _ (by decide), wy2_0, wy1_0, upd_s]
          · exact upd_s (wy2 v x y (wy1 (upd w.1 0 x) (f1W v x y))) 3 y
        · rw [if_neg h3]
          exact Or.inl rfl
  · rw [if_neg h0]
    exact Or.inl rfl
theorem wy_one {v : SV} {x y : Int32} (w : WY) (hx : hasN (sM v) x = true) (hy : hasN (sM v) y = true) (h : ¬ (wyFind v x y w).2 = 1) : sbQ v x y = false := by
  cases q : sbQ v x y with
  | false => rfl
  | true =>
    refine absurd ?_ h
    unfold wyFind
    rw [hx, hy, if_pos (by rfl), if_pos q]
section WAY
variable {v : TV} {d e : Nat → Int32}
/-- the way of a street -/
abbrev cW (v : TV) (k : Nat) : WY := exW v (mkP v p00 zf zf).2.1 k w00
theorem xs_cnt (M : Nat → Int32) (w : WY) : ∀ n, (xsN v M n w).1 = cntB (fun k => decide (0 < (exW v M k w00).2)) n
  | 0 => rfl
  | n + 1 => by
    have ih := xs_cnt M w n
    show (if 0 < (exW v M n (xsN v M n w).2).2 then (xsN v M n w).1 + 1 else (xsN v M n w).1) = cntB (fun k => decide (0 < (exW v M k w00).2)) n + (if decide (0 < (exW v M n w00).2) = true then 1 else 0)
    rw [ih, show (exW v M n (xsN v M n w).2).2 = (exW v M n w00).2 from wy_2 _ _ _ _ _]
    by_cases c : 0 < (exW v M n w00).2
    · rw [if_pos c, if_pos (decide_eq_true c)]
    · rw [if_neg c, if_neg (by rw [decide_eq_false c]; decide)]
      rfl
def toC (v : TV) (n : Nat) : Nat := cntB (fun k => decide (0 < (cW v k).2)) n
theorem wh_5c : aWhl v (nI 5) = nI (toC v (sS (tA v))) := by rw [wh_5, xs_cnt]; rfl
theorem tol_m1 (h : RV v) {k : Nat} (hk : k < sS (tA v)) : aTol v (nI k) (-1) = if 0 < (cW v k).2 then nI (cW v k).2 else -4 := by
  have h8 := h.ok.1.2
  have ht : tolA v (nI k) (-1) = true := by
    unfold tolA
    rw [hasS_d h.ok (by decide) (by omega), decide_eq_true (show k < ssV v 0 from hk)]
    decide
  unfold aTol
  rw [if_pos ht, nI_clamp (by omega)]
  unfold tolV
  rw [if_pos (show (-1 : Int32) = -1 from rfl)]
theorem tol_at (h : RV v) {k n : Nat} (hk : k < sS (tA v)) (hn : n ≤ 100) : aTol v (nI k) (nI n) = if 0 < (cW v k).2 ∧ n ≤ (cW v k).2 then (cW v k).1 n else -4 := by
  have h8 := h.ok.1.2
  have hw : (cW v k).2 ≤ 3 := exW_3 _ _ _ _
  have hm1 : (-1 : Int32).toInt = -1 := by decide
  have hlt : ¬ nI n < -1 := by
    rw [i_lt, nI_toInt (by omega), hm1]
    omega
  have ht : tolA v (nI k) (nI n) = true := by
    unfold tolA
    rw [hasS_d h.ok (by decide) (by omega), decide_eq_true (show k < ssV v 0 from hk), decide_eq_true hlt]
    rfl
  unfold aTol
  rw [if_pos ht, nI_clamp (show k < 2 ^ 31 by omega)]
  unfold tolV wyStop
  rw [if_neg (nI_ne_m1 (show n < 2 ^ 31 by omega)), inR_d (by omega) (by omega) (show (exW v (cM v) k w00).2 < 2 ^ 31 from Nat.lt_of_le_of_lt hw (by decide)), nI_clamp (show n < 2 ^ 31 by omega)]
  by_cases c : 0 < (exW v (cM v) k w00).2
  · rw [if_pos c, decide_eq_true c, Bool.true_and]
    by_cases c2 : n ≤ (exW v (cM v) k w00).2
    · rw [if_pos (decide_eq_true ⟨Nat.zero_le _, c2⟩), if_pos (show 0 < (cW v k).2 ∧ n ≤ (cW v k).2 from ⟨c, c2⟩)]
    · rw [if_neg (by rw [decide_eq_false (show ¬ (0 ≤ n ∧ n ≤ (exW v (cM v) k w00).2) from fun n => c2 n.2)]; decide), if_neg (show ¬ (0 < (cW v k).2 ∧ n ≤ (cW v k).2) from fun n => c2 n.2)]
  · rw [if_neg c, if_neg (show ¬ (0 < (cW v k).2 ∧ n ≤ (cW v k).2) from fun n => c n.1)]
theorem nam_at (h : RV v) {k : Nat} (hk : k < sS (tA v)) : aNam v (nI k) = if sNm (tA v) k = 0 then cmL (tB v) (cW v k) (cW v k).2 0 (nI 0) else sNm (tA v) k := by
  have h8 := h.ok.1.2
  unfold aNam
  rw [if_pos (by rw [hasS_d h.ok (by decide) (by omega)]; exact decide_eq_true (show k < ssV v 0 from hk)), nI_clamp (by omega)]
theorem cml_0 {w : SV} {W : WY} {n : Nat} (hn : n = 0) : cmL w W n 0 (nI 0) = nI 0 := by subst hn; rfl
theorem cml_1 {w : SV} {W : WY} {n : Nat} (hn : n = 1) : cmL w W n 0 (nI 0) = nmW w W 0 := by
  subst hn
  show (if 0 < 0 ∧ ¬ nmW w W 0 = nI 0 then nI 0 else cmL w W 0 1 (nmW w W 0)) = _
  rw [if_neg (fun q => Nat.lt_irrefl 0 q.1)]
  rfl
/-- a street's ends, their matches, its way -/
theorem st_or (h : DE v d e) {k : Nat} (hk : k < sS (tA v)) : ∃ a b, a < sM (tA v) ∧ b < sM (tA v) ∧ strtV v (nI 0) (nI k) (nI 0) = nI a ∧ strtV v (nI 0) (nI k) (nI 1) = nI b ∧ strtV v (nI 0) (nI k) (nI 2) = sNm (tA v) k ∧ cW v k = wyFind (tB v) (cM v a) (cM v b) w00 := by
  have h8 := h.ok.1
  obtain ⟨a, b, ha, hb, -, ea, eb⟩ := (h.good (g := 0) (by decide)).2.2.1 k hk
  have ea : sU (tA v) k = nI a := ea
  have eb : sV (tA v) k = nI b := eb
  have ha : a < sM (tA v) := ha
  have hb : b < sM (tA v) := hb
  have hs := h8.2
  have hm := h8.1
  have e0 : hasS v (nI 0) (nI k) = true := by rw [hasS_d h.ok (by decide) (by omega)]; exact decide_eq_true (show k < ssV v 0 from hk)
  refine ⟨a, b, ha, hb, ?_, ?_, ?_, ?_⟩
  · unfold strtV
    rw [if_pos e0, if_pos rfl, svOf_0, nI_clamp (by omega), ea]
  · unfold strtV
    rw [if_pos e0, if_neg (show ¬ nI 1 = nI 0 by decide), if_pos rfl, svOf_0, nI_clamp (by omega), eb]
  · unfold strtV
    rw [if_pos e0, if_neg (show ¬ nI 2 = nI 0 by decide), if_neg (show ¬ nI 2 = nI 1 by decide), if_pos rfl, svOf_0, nI_clamp (by omega)]
  · show exW v (cM v) k w00 = _
    unfold exW
    rw [ea, eb, mtI_at (by omega), mtI_at (by omega)]
/-- one street of the way, as the law finds it -/
theorem way_st (h : DE v d e) {k j : Nat} (hj : j < (cW v k).2) : ∃ s, s < ssV v 1 ∧ stL e 1 ((cW v k).1 j) ((cW v k).1 (j + 1)) (ssV v 1) = nI s ∧ strtV v (nI 1) (nI s) (nI 2) = nmW (tB v) (cW v k) j := by
  have h8 := h.ok.2.1.2
  obtain ⟨s, es⟩ := (wyFind_ok (tB v) (mtI (cM v) (sU (tA v) k)) (mtI (cM v) (sV (tA v) k)) w00).2 j hj
  have es : sbF (tB v) ((cW v k).1 j) ((cW v k).1 (j + 1)) = some s := es
  have hs : s < sS (tB v) := sbF_lt es
  refine ⟨s, hs, stL_some h (g := 1) (by decide) es, ?_⟩
  unfold strtV nmW
  rw [if_pos (by rw [hasS_d h.ok (by decide) (by omega)]; exact decide_eq_true (show s < ssV v 1 from hs)), if_neg (show ¬ nI 2 = nI 0 by decide), if_neg (show ¬ nI 2 = nI 1 by decide), if_pos rfl, svOf_1, nI_clamp (by omega), es]
  rfl
/-- no street between the matches of a street that is not told by one -/
theorem way_no (h : DE v d e) {k a b ja jb : Nat} (hW : cW v k = wyFind (tB v) (cM v a) (cM v b) w00) (ha : cM v a = nI ja) (hb : cM v b = nI jb) (hja : ja < sM (tB v)) (hjb : jb < sM (tB v)) (h1 : ¬ (cW v k).2 = 1) : stL e 1 (nI ja) (nI jb) (ssV v 1) < 0 := by
  have h8 := h.ok.2.1.1
  rw [hW, ha, hb] at h1
  have hq := wy_one w00 (hasN_t hja (by omega)) (hasN_t hjb (by omega)) h1
  refine (stL_iff h (g := 1) (by decide) (nI ja) (nI jb)).1.mp ?_
  unfold sbQ at hq
  have hq := of_decide_eq_false hq
  show oI (sbF (tB v) (nI ja) (nI jb)) = -1
  by_cases c : oI (sbF (tB v) (nI ja) (nI jb)) = -1
  · exact c
  · exact absurd c hq
theorem hasN_m1' {n : Nat} {x : Int32} (h : hasN n x = true) : ¬ x = -1 := fun q => by
  rw [q, hasN_m1] at h
  exact absurd h (by decide)
/-! where it comes to -/
theorem red_1 {x : Nat} (hx : x ≤ 60) : redV (nI x) (nI x) (nI 1) = nI x ∧ redV (nI 1) (nI x) (nI 1) = nI 1 := by
  have hb : bd 2000000000 (nI x) := ⟨by rw [nI_toInt (by omega)]; omega, by rw [nI_toInt (by omega)]; omega⟩
  have hg : rGc (nI x) (nI 1) = 1 := by
    unfold rGc
    rw [show (nI 1).toNatClampNeg = 1 from by decide]
    exact Nat.gcd_one_right _
  rw [red_eq hb (by omega) (by omega), red_eq hb (by omega) (by omega), hg]
  exact ⟨by rw [pk_div (by omega) (by decide) (by decide), Nat.div_one], by decide⟩
theorem com_mt (h : DE v d e) {i j : Nat} (hi : i < sM (tA v)) (hj : j < sM (tB v)) (e0 : cM v i = nI j) : aCom v (nI i) (nI 0) = nI 100000 + d (24 + j) ∧ aCom v (nI i) (nI 1) = nI 1 ∧ aCom v (nI i) (nI 2) = nI 100000 + d (40 + j) ∧ aCom v (nI i) (nI 3) = nI 1 := by
  have h8 := h.ok.1.1
  have m8 := h.ok.2.1.1
  obtain ⟨-, ex, ey⟩ := h.px (G := 1) (by decide) (show j < mmV v 1 from hj)
  have ex : sX (tB v) j = d (24 + j) := ex.trans (by rw [show 16 + (8 * 1 + j) = 24 + j by omega])
  have ey : sY (tB v) j = d (40 + j) := ey.trans (by rw [show 32 + (8 * 1 + j) = 40 + j by omega])
  obtain ⟨⟨x, hx, qx⟩, ⟨y, hy, qy⟩⟩ := (h.good (g := 1) (by decide)).2.1 j hj
  have qx : sX (tB v) j = nI x := qx
  have qy : sY (tB v) j = nI y := qy
  have hmt : mtI (cM v) (nI i) = nI j := by rw [mtI_at (by omega)]; exact e0
  have hN : mtN (cM v) i = j := by unfold mtN; rw [hmt, nI_clamp (by omega)]
  have eT : trFind v (cM v) i (0, 0, 1, 0, 0, 0) = (sX (tB v) j, sY (tB v) j, nI 1, 0, 0, 0) := by
    unfold trFind
    rw [if_pos (by rw [hmt]; exact nI_ne_m1 (by omega)), hN]
  have eC : ∀ q, aCom v (nI i) q = cmsV v (nI x, nI y, nI 1, 0, 0, 0) q := fun q => by
    unfold aCom
    rw [if_pos (by rw [hasM_d h.ok (by decide) (by omega)]; exact decide_eq_true (show i < mmV v 0 from hi)), nI_clamp (by omega), show trFind v (mkP v p00 zf zf).2.1 i (0, 0, 1, 0, 0, 0) = _ from eT, qx, qy]
  rw [eC, eC, eC, eC, ← ex, ← ey, qx, qy]
  unfold cmsV
  refine ⟨?_, ?_, ?_, ?_⟩
  · rw [if_pos rfl]
    show nI 100000 + redV (nI x) (nI x) (nI 1) = _
    rw [(red_1 hx).1]
  · rw [if_neg (show ¬ nI 1 = nI 0 by decide), if_pos rfl]
    exact (red_1 hx).2
  · rw [if_neg (show ¬ nI 2 = nI 0 by decide), if_neg (show ¬ nI 2 = nI 1 by decide), if_pos rfl]
    show nI 100000 + redV (nI y) (nI y) (nI 1) = _
    rw [(red_1 hy).1]
  · rw [if_neg (show ¬ nI 3 = nI 0 by decide), if_neg (show ¬ nI 3 = nI 1 by decide), if_neg (show ¬ nI 3 = nI 2 by decide), if_pos rfl]
    exact (red_1 hy).2
theorem red_pos {y : Int32} {z : Nat} (hy : bd 2000000000 y) (hz : 1 ≤ z) (hz2 : z < 2 ^ 31) : ∃ n, 1 ≤ n ∧ n < 2 ^ 31 ∧ redV (nI z) y (nI z) = nI n := by
  have hg : 0 < rGc y (nI z) ∧ rGc y (nI z) ≤ z := by
    unfold rGc
    rw [nI_clamp hz2]
    exact ⟨Nat.gcd_pos_of_pos_right _ hz, Nat.gcd_le_right _ hz⟩
  rw [red_eq hy hz hz2, pk_div hz2 hg.1 (by omega)]
  exact ⟨_, (Nat.le_div_iff_mul_le hg.1).mpr (by omega), Nat.lt_of_le_of_lt (Nat.div_le_self _ _) hz2, rfl⟩
theorem com_pos (h : RV v) {i : Nat} (hi : i < sM (tA v)) : (∃ n, 1 ≤ n ∧ n < 2 ^ 31 ∧ aCom v (nI i) (nI 1) = nI n) ∧ ∃ n, 1 ≤ n ∧ n < 2 ^ 31 ∧ aCom v (nI i) (nI 3) = nI n := by
  have hk := h.ok
  have h8 := hk.1.1
  obtain ⟨S, H, -⟩ := h
  have m0 : sM (tA v) = nM S 0 := H.2.2.1.1.1
  have hm := mts_S H p00 b00 zf zf zf
  obtain ⟨c1, c2, c3, c4, b1, b2, z, hz, hz2, ez⟩ := cm_rel H hm (p := i) (by omega) (0, 0, 1, 0, 0, 0)
  have eC : ∀ q, aCom v (nI i) q = cmsV v (trFind v (mkP v p00 zf zf).2.1 i (0, 0, 1, 0, 0, 0)) q := fun q => by
    unfold aCom
    rw [if_pos (by rw [hasM_d hk (by decide) (by omega)]; exact decide_eq_true (show i < mmV v 0 from hi)), nI_clamp (by omega)]
  rw [eC, eC]
  generalize trFind v (mkP v p00 zf zf).2.1 i (0, 0, 1, 0, 0, 0) = R at *
  unfold cmsV
  constructor
  · rw [if_neg (show ¬ nI 1 = nI 0 by decide), if_pos rfl, ez]
    exact red_pos (by rw [c1]; exact b1) hz hz2
  · rw [if_neg (show ¬ nI 3 = nI 0 by decide), if_neg (show ¬ nI 3 = nI 1 by decide), if_neg (show ¬ nI 3 = nI 2 by decide), if_pos rfl, ez]
    exact red_pos (by rw [c2]; exact b2) hz hz2
end WAY
