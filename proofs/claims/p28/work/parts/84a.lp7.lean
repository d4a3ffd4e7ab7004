/-! ===== what the class answers of the matching, whatever its rows hold ===== -/
def RV (v : TV) : Prop := ∃ S : SN, RT1 v S
theorem DE.rv {v : TV} {d e : Nat → Int32} (h : DE v d e) : RV v := ⟨_, h.1⟩
theorem RV.ok {v : TV} (h : RV v) : okT v := by obtain ⟨S, H, -⟩ := h; exact H.ok
abbrev p00 : BC := (rz, rz)
abbrev b00 : BN := (zf, zf)
abbrev w00 : WY := (zf, 0)
abbrev cB (v : TV) : Nat → Nat → Int32 := (mkB v p00).1
abbrev cP (v : TV) : PU := mkP v p00 zf zf
abbrev cM (v : TV) : Nat → Int32 := (mkP v p00 zf zf).2.1
abbrev cN (v : TV) : Nat → Int32 := (mkP v p00 zf zf).2.2
def aBel (v : TV) (x y : Int32) : Int32 := belV v p00 x y
def aMat (v : TV) (z i : Int32) : Int32 := matV v (cM v) (cN v) z i
def aTol (v : TV) (s k : Int32) : Int32 := if tolA v s k then tolV v (exW v (cM v) s.toNatClampNeg w00) k else -1
def aNam (v : TV) (s : Int32) : Int32 := if hasS v (nI 0) s then (if sNm (tA v) s.toNatClampNeg = 0 then cmL (tB v) (exW v (cM v) s.toNatClampNeg w00) (exW v (cM v) s.toNatClampNeg w00).2 0 (nI 0) else sNm (tA v) s.toNatClampNeg) else -1
def aCom (v : TV) (i q : Int32) : Int32 := if hasM v (nI 0) i then cmsV v (trFind v (cM v) i.toNatClampNeg (0, 0, 1, 0, 0, 0)) q else -1
def aWhl (v : TV) (q : Int32) : Int32 := whlV v (mkP v p00 zf zf) (smB (mkB v p00).1 (mkP v p00 zf zf).2.1 zf zf) (xsN v (mkP v p00 zf zf).2.1 (sS (tA v)) w00).1 q
section CAN
variable {v : TV}
theorem bel_can (h : RV v) (p : BC) (x y : Int32) : belV v p x y = aBel v x y := by
  obtain ⟨S, H, -⟩ := h
  exact (R_belief H p b00 x y).trans (R_belief H p00 b00 x y).symm
theorem mat_can (h : RV v) (p : BC) (M N : Nat → Int32) (z i : Int32) : matV v (mkP v p M N).2.1 (mkP v p M N).2.2 z i = aMat v z i := by
  obtain ⟨S, H, -⟩ := h
  exact (R_match H p b00 M N zf z i).trans (R_match H p00 b00 zf zf zf z i).symm
theorem tol_can (h : RV v) (p : BC) (M N : Nat → Int32) (wv : WY) (s k : Int32) : (if tolA v s k then tolV v (exW v (mkP v p M N).2.1 s.toNatClampNeg wv) k else -1) = aTol v s k := by
  obtain ⟨S, H, -⟩ := h
  exact (R_told H p b00 M N zf wv zf s k).trans (R_told H p00 b00 zf zf zf w00 zf s k).symm
theorem nam_can (h : RV v) (p : BC) (M N : Nat → Int32) (wv : WY) (s : Int32) : (if hasS v (nI 0) s then (if sNm (tA v) s.toNatClampNeg = 0 then cmL (tB v) (exW v (mkP v p M N).2.1 s.toNatClampNeg wv) (exW v (mkP v p M N).2.1 s.toNatClampNeg wv).2 0 (nI 0) else sNm (tA v) s.toNatClampNeg) else -1) = aNam v s := by
  obtain ⟨S, H, -⟩ := h
  exact (R_named H p b00 M N zf wv zf s).trans (R_named H p00 b00 zf zf zf w00 zf s).symm
theorem com_can (h : RV v) (p : BC) (M N : Nat → Int32) (uv : TR) (i q : Int32) : (if hasM v (nI 0) i then cmsV v (trFind v (mkP v p M N).2.1 i.toNatClampNeg uv) q else -1) = aCom v i q := by
  obtain ⟨S, H, -⟩ := h
  exact (R_comes H p b00 M N zf uv i q).trans (R_comes H p00 b00 zf zf zf (0, 0, 1, 0, 0, 0) i q).symm
theorem whl_can (h : RV v) (p : BC) (M N f0 g0 : Nat → Int32) (wv : WY) (q : Int32) : whlV v (mkP v p M N) (smB (mkB v p).1 (mkP v p M N).2.1 f0 g0) (xsN v (mkP v p M N).2.1 (sS (tA v)) wv).1 q = aWhl v q := by
  obtain ⟨S, H, -⟩ := h
  exact (R_whole H p b00 M N f0 g0 zf zf wv (0, zf) q).trans (R_whole H p00 b00 zf zf zf zf zf zf w00 (0, zf) q).symm
/-! beliefs -/
theorem cB_or (h : RV v) {i j : Nat} (hi : i < 8) (hj : j < 8) : cB v i j = 0 ∨ ∃ c, 1 ≤ c ∧ c ≤ 10000000 ∧ cB v i j = nI c := by
  obtain ⟨S, H, -⟩ := h
  rcases bel_all H p00 b00 i j hi hj with ⟨q, -⟩ | ⟨c, h1, h2, h3, -⟩
  · exact Or.inl q
  · exact Or.inr ⟨c, h1, h2, h3⟩
theorem imp_zero {S : SN} (h : RT v S) {lo hi : Nat} {p : BC} {b : BN} (hB : relB lo hi p.1 b.1) (hlo : 2 ≤ lo) (hhi : hi ≤ 100000000) {i j : Nat} (hi8 : i < 8) (hj8 : j < 8) : (impS v p).1 i j = 0 ↔ p.1 i j = 0 := by
  have e1 : (impS v p).1 i j = impF v (cpyR p.1 p.2 8) p.1 i j := fillB_in hi8 hj8
  rw [e1]
  unfold impF
  rw [cpyR_in hi8 hj8]
  obtain ⟨⟨-, x, hx, s2⟩, ⟨-, y, hy, s4⟩⟩ := sup_eq h hB (by omega) (C := cpyR p.1 p.2 8) (fun a b ha hb => cpyR_in ha hb) i j
  rcases hB i j hi8 hj8 with ⟨f1, -⟩ | ⟨c, h1, h2, f1, -⟩
  · rw [f1, if_pos (by decide)]
  · rw [f1, if_neg (nI_nle (by omega) (by omega)), s2, s4, nI_add, pk_div (by omega) (by decide) (by decide), pk_div (by omega) (by decide) (by decide), nI_add]
    exact ⟨fun q => absurd q (nI_ne0 (by omega) (by omega)), fun q => absurd q (nI_ne0 (by omega) (by omega))⟩
theorem imp_zeroN {S : SN} (h : RT v S) {p : BC} {b : BN} (hB : relB 512 210000 p.1 b.1) {i j : Nat} (hi8 : i < 8) (hj8 : j < 8) : ∀ n, n ≤ 3 → ((impN v n p).1 i j = 0 ↔ p.1 i j = 0)
  | 0, _ => Iff.rfl
  | n + 1, hn => by
    have ih := imp_zeroN h hB hi8 hj8 n (by omega)
    have hr := relB_n h hB n (by omega)
    exact (imp_zero h hr (by rcases (show n = 0 ∨ n = 1 ∨ n = 2 by omega) with rfl | rfl | rfl <;> decide) (by rcases (show n = 0 ∨ n = 1 ∨ n = 2 by omega) with rfl | rfl | rfl <;> decide) hi8 hj8).trans ih
theorem cB_zero (h : RV v) {i j : Nat} (hi : i < 8) (hj : j < 8) : cB v i j = 0 ↔ belF v i j = 0 := by
  obtain ⟨S, H, -⟩ := h
  have h0 := relB_0 H rz zf
  have h1 := imp_zeroN H (p := (fillB (belF v) rz 8 0, rz)) (b := (_, zf)) h0 hi hj (tN v) H.2.2.2.2.2.2
  have h2 : (fillB (belF v) rz 8 0) i j = belF v i j := fillB_in hi hj
  have h3 : (impN v (tN v) (fillB (belF v) rz 8 0, rz)).1 i j = cB v i j := rfl
  have h4 : ((fillB (belF v) rz 8 0, rz) : BC).1 i j = belF v i j := h2
  rw [h3, h4] at h1
  exact h1
/-- the first belief in numbers -/
theorem fst_v {S : SN} (H : RT v S) {i j : Nat} (hi : i < sM (tA v)) (hj : j < sM (tB v)) : ∃ r dd, 1 ≤ r ∧ r ≤ 20 ∧ dd ≤ 7200 ∧ tR v = nI r ∧ sqD v i j = nI dd ∧
    belF v i j = (if sqD v i j ≤ rch v i j * rch v i j then nI (512 * (if 1 < r * r + 1 - dd then r * r + 1 - dd else 1)) else 0) := by
  obtain ⟨a1, a2, ⟨a3, a4⟩, ⟨a5, a6⟩, a7, ⟨r, hr1, hr2, a8⟩, a9⟩ := H
  obtain ⟨⟨x1, hx1, q1⟩, y1, hy1, q2⟩ := a5.2.1 i hi
  obtain ⟨⟨x2, hx2, q3⟩, y2, hy2, q4⟩ := a6.2.1 j hj
  obtain ⟨dd, hd, q5⟩ := sq_nI hx1 hx2 hy1 hy2
  have ed : sqD v i j = nI dd := by
    unfold sqD
    rw [q1, q2, q3, q4]
    exact q5
  refine ⟨r, dd, hr1, hr2, hd, a8, ed, ?_⟩
  unfold belF firstB
  rw [if_pos ⟨hi, hj⟩]
  by_cases hp : sqD v i j ≤ rch v i j * rch v i j
  · rw [if_pos hp, if_pos hp, ed, a8, pk_mul, nI_add]
    have hrr : r * r ≤ 20 * 20 := Nat.mul_le_mul hr2 hr2
    have et : (nI (r * r + 1) - nI dd).toInt = ((r * r + 1 : Nat) : Int) - dd := pk_sub_toInt (by omega) (by omega)
    by_cases hb : nI 1 < nI (r * r + 1) - nI dd
    · rw [if_pos hb]
      rw [i_lt, et, nI_toInt (by decide)] at hb
      rw [if_pos (show 1 < r * r + 1 - dd by omega), pk_sub (by omega), pk_mul]
    · rw [if_neg hb]
      rw [i_lt, et, nI_toInt (by decide)] at hb
      rw [if_neg (show ¬ 1 < r * r + 1 - dd by omega), pk_mul]
  · rw [if_neg hp, if_neg hp]
    decide
theorem aBel_at (h : RV v) {i j : Nat} (hi : i < sM (tA v)) (hj : j < sM (tB v)) : aBel v (nI i) (nI j) = if cB v i j ≤ 0 then -4 else cB v i j := by
  have hk := h.ok
  have h1 := hk.1.1
  have h2 := hk.2.1.1
  have e0 : hasM v (nI 0) (nI i) = true := by rw [hasM_d hk (by decide) (by omega)]; exact decide_eq_true hi
  have e1 : hasM v (nI 1) (nI j) = true := by rw [hasM_d hk (by decide) (by omega)]; exact decide_eq_true hj
  unfold aBel belV
  rw [e0, e1, bIn_at (show i < 8 by omega) (show j < 8 by omega)]
  rfl
/-- reaches -/
theorem reach_z {R k : Int32} {r : Nat} (hR : R = nI r) (h1 : 1 ≤ r) (h2 : r ≤ 20) : ∃ z, z ≤ 20 ∧ reachV R k = nI z := by
  subst hR
  unfold reachV
  split
  · exact ⟨r / 2, by omega, pk_div (by omega) (by decide) (by decide)⟩
  split
  · rw [nI_add]
    split
    · rename_i q
      exact ⟨r + 5, by have := n_lt (by omega) (by omega) q; omega, rfl⟩
    · exact ⟨20, by omega, rfl⟩
  split
  · exact ⟨r / 2 + 1, by omega, by rw [pk_div (by omega) (by decide) (by decide), nI_add]⟩
  · exact ⟨r, h2, rfl⟩
def zRe (v : TV) (g i : Nat) : Nat := (reachV (tR v) (sKd (svG v g) i)).toNatClampNeg
theorem zRe_eq (h : RV v) (g i : Nat) : reachV (tR v) (sKd (svG v g) i) = nI (zRe v g i) ∧ zRe v g i ≤ 20 := by
  obtain ⟨S, H, -⟩ := h
  obtain ⟨r, h1, h2, e⟩ := H.2.2.2.2.2.1
  obtain ⟨z, hz, ez⟩ := reach_z (k := sKd (svG v g) i) e h1 h2
  unfold zRe
  rw [ez, nI_clamp (by omega)]
  exact ⟨rfl, hz⟩
theorem me3 (h : RV v) {g i : Nat} (hg : g < 2) (hi : i < mmV v g) : meetV v (nI g) (nI i) (nI 3) = nI (zRe v g i) := by
  have h8 := h.ok.mm g
  unfold meetV
  rw [if_pos (by rw [hasM_d h.ok hg (by omega)]; exact decide_eq_true hi), svOf_g v hg, nI_clamp (show i < 2 ^ 31 by omega), if_neg (by decide), if_neg (by decide), if_neg (by decide), if_pos rfl]
  exact (zRe_eq h g i).1
theorem rch_eq (h : RV v) (i j : Nat) : rch v i j * rch v i j = nI (min (zRe v 0 i) (zRe v 1 j) * min (zRe v 0 i) (zRe v 1 j)) := by
  obtain ⟨a1, a2⟩ := zRe_eq h 0 i
  obtain ⟨b1, b2⟩ := zRe_eq h 1 j
  have a1 : reachV (tR v) (sKd (tA v) i) = nI (zRe v 0 i) := a1
  have b1 : reachV (tR v) (sKd (tB v) j) = nI (zRe v 1 j) := b1
  have e : rch v i j = nI (min (zRe v 0 i) (zRe v 1 j)) := by
    unfold rch
    rw [a1, b1]
    by_cases c : nI (zRe v 1 j) < nI (zRe v 0 i)
    · rw [if_pos c]
      have := n_lt (by omega) (by omega) c
      congr 1; omega
    · rw [if_neg c]
      have := n_nlt (by omega) (by omega) c
      congr 1; omega
  rw [e, pk_mul]
theorem be_or (h : RV v) {i j : Nat} (hi : i < sM (tA v)) (hj : j < sM (tB v)) : ∃ r dd, 1 ≤ r ∧ r ≤ 20 ∧ dd ≤ 7200 ∧ tR v = nI r ∧ sqD v i j = nI dd ∧
    ((aBel v (nI i) (nI j) = -4 ∧ cB v i j = 0 ∧ min (zRe v 0 i) (zRe v 1 j) * min (zRe v 0 i) (zRe v 1 j) < dd) ∨ ∃ c, 1 ≤ c ∧ c ≤ 10000000 ∧ aBel v (nI i) (nI j) = nI c ∧ cB v i j = nI c ∧ dd ≤ min (zRe v 0 i) (zRe v 1 j) * min (zRe v 0 i) (zRe v 1 j) ∧ (tN v = 0 → c = 512 * (if 1 < r * r + 1 - dd then r * r + 1 - dd else 1))) := by
  have hz0 := (zRe_eq h 0 i).2
  have hz1 := (zRe_eq h 1 j).2
  have hmm : min (zRe v 0 i) (zRe v 1 j) * min (zRe v 0 i) (zRe v 1 j) ≤ 20 * 20 := Nat.mul_le_mul (by omega) (by omega)
  have hb := aBel_at h hi hj
  have hr := rch_eq h i j
  have hk := h.ok
  have h1 := hk.1.1
  have h2 := hk.2.1.1
  have hz := cB_zero h (show i < 8 by omega) (show j < 8 by omega)
  have hc := cB_or h (show i < 8 by omega) (show j < 8 by omega)
  obtain ⟨S, H, -⟩ := h
  obtain ⟨r, dd, r1, r2, d1, eR, eD, eF⟩ := fst_v H hi hj
  refine ⟨r, dd, r1, r2, d1, eR, eD, ?_⟩
  rw [eD, hr] at eF
  have hrr : r * r ≤ 20 * 20 := Nat.mul_le_mul r2 r2
  have hpos : 1 ≤ (if 1 < r * r + 1 - dd then r * r + 1 - dd else 1) ∧ (if 1 < r * r + 1 - dd then r * r + 1 - dd else 1) ≤ 401 := by split <;> omega
  by_cases q : nI dd ≤ nI (min (zRe v 0 i) (zRe v 1 j) * min (zRe v 0 i) (zRe v 1 j))
  · rw [if_pos q] at eF
    have q2 := n_le (by omega) (by omega) q
    have hne : ¬ cB v i j = 0 := fun c => by
      rw [hz, eF] at c
      exact nI_ne0 (by omega) (by omega) c
    obtain ⟨c, c1, c2, ec⟩ := hc.resolve_left hne
    refine Or.inr ⟨c, c1, c2, ?_, ec, q2, fun hn => ?_⟩
    · rw [hb, ec, if_neg (nI_nle (by omega) (by omega))]
    · have e5 : cB v i j = belF v i j := by
        show (impN v (tN v) (fillB (belF v) rz 8 0, rz)).1 i j = _
        rw [hn]
        exact fillB_in (by omega) (by omega)
      rw [ec, eF] at e5
      exact n_eq (by omega) (by omega) e5
  · rw [if_neg q] at eF
    have q2 := n_nle (by omega) (by omega) q
    have e0 := hz.mpr eF
    refine Or.inl ⟨?_, e0, q2⟩
    rw [hb, e0, if_pos (by decide)]
end CAN
