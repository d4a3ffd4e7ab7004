/-! ===== the surveys that the law draws: what it has written so far ===== -/
abbrev SMd (e d : Nat → Int32) (mm ss : Nat → Nat) (N : Nat) : SN := (e 52, N, mm, ss, d, fun i => d (16 + i), fun i => d (32 + i), e, fun i => e (16 + i), fun i => e (32 + i))
def okD (d : Nat → Int32) : Prop := ∀ k, k < 16 → (∃ c, c ≤ 3 ∧ d k = nI c) ∧ (∃ x, x ≤ 60 ∧ d (16 + k) = nI x) ∧ ∃ y, y ≤ 60 ∧ d (32 + k) = nI y
def SI (w : TXT) (d e : Nat → Int32) (mm ss : Nat → Nat) (N : Nat) : Prop :=
  PSg w (SMd e d mm ss N) ∧ okD d ∧ e 53 = nI N ∧ N ≤ 3 ∧ w.2 ≤ 7 + 9 * (mm 0 + mm 1) + 7 * (ss 0 + ss 1) ∧ ∀ z, z < 2 → mm z ≤ 6 ∧ ss z ≤ 6 ∧ e (50 + z) = nI (ss z)
theorem inS_g {v : TV} {S : SN} (h : RT v S) {g : Nat} (hg : g < 2) : inS v S (nI g) g := by
  rcases (show g = 0 ∨ g = 1 by omega) with rfl | rfl
  · exact inS_0 h
  · exact inS_1 h
theorem okD.xy {d : Nat → Int32} (h : okD d) : okXY (fun i => d (16 + i)) ∧ okXY (fun i => d (32 + i)) := ⟨fun k hk => (h k hk).2.1, fun k hk => (h k hk).2.2⟩
theorem SI.w {w : TXT} {d e : Nat → Int32} {mm ss : Nat → Nat} {N : Nat} (h : SI w d e mm ss N) : w.2 < 200 := by
  have a0 := h.2.2.2.2.2 0 (by decide)
  have a1 := h.2.2.2.2.2 1 (by decide)
  have := h.2.2.2.2.1
  omega
theorem okD_3 {d : Nat → Int32} (h : okD d) {a K X Y : Nat} (ha : a < 16) (hK : K ≤ 3) (hX : X ≤ 60) (hY : Y ≤ 60) : okD (upd (upd (upd d a (nI K)) (16 + a) (nI X)) (32 + a) (nI Y)) := by
  intro k hk
  obtain ⟨h1, h2, h3⟩ := h k hk
  refine ⟨?_, ?_, ?_⟩
  · rw [upd_n _ _ (by omega), upd_n _ _ (by omega)]
    by_cases q : k = a
    · subst q; rw [upd_s]; exact ⟨K, hK, rfl⟩
    · rw [upd_n _ _ q]; exact h1
  · rw [upd_n _ _ (by omega)]
    by_cases q : k = a
    · subst q; rw [upd_s]; exact ⟨X, hX, rfl⟩
    · rw [upd_n _ _ (by omega), upd_n _ _ (by omega)]; exact h2
  · by_cases q : k = a
    · subst q; rw [upd_s]; exact ⟨Y, hY, rfl⟩
    · rw [upd_n _ _ (by omega), upd_n _ _ (by omega), upd_n _ _ (by omega)]; exact h3
theorem upN_n (r : Nat → Nat) {i j : Nat} (k : Nat) (h : i ≠ j) : upN r j k i = r i := if_neg h
theorem si_meet {w : TXT} {d e : Nat → Int32} {mm ss : Nat → Nat} {N g K X Y : Nat} (h : SI w d e mm ss N) (hg : g < 2) (hi : mm g < 6) (hK : K ≤ 3) (hX : X ≤ 60) (hY : Y ≤ 60) :
    SI (itW w (97 + g) K X Y) (upd (upd (upd d (8 * g + mm g) (nI K)) (16 + (8 * g + mm g)) (nI X)) (32 + (8 * g + mm g)) (nI Y)) e (upN mm g (mm g + 1)) ss N := by
  obtain ⟨h1, h2, h3, h4, h5, h6⟩ := h
  have a0 := h6 0 (by decide)
  have a1 := h6 1 (by decide)
  have n1 : nd K = 2 := nd_1 (by omega)
  have n2 := nd_b X
  have n3 := nd_b Y
  have hsum : mm 0 + mm 1 ≤ 11 ∧ upN mm g (mm g + 1) 0 + upN mm g (mm g + 1) 1 = mm 0 + mm 1 + 1 := by
    rcases (show g = 0 ∨ g = 1 by omega) with rfl | rfl
    · rw [upN_s, upN_n _ _ (by decide)]; omega
    · rw [upN_s, upN_n _ _ (by decide)]; omega
  have hok := okD_3 h2 (a := 8 * g + mm g) (by omega) hK hX hY
  obtain ⟨hgr, hL⟩ := it_one (w := w) (l := 97 + g) (a := K) (b := X) (c := Y) (by omega) (by omega) (by omega) (by omega) (by omega)
  refine ⟨ps_three h1 hgr (by omega) ?_ hL (fun T hT => ?_), hok, h3, h4, ?_, fun z hz => ?_⟩
  · rcases (show g = 0 ∨ g = 1 by omega) with rfl | rfl <;> decide
  · have hi' := inS_g hT hg
    have hM : sM (svOf T (nI g)) = mm g := hi'.2.2.1.1
    have hadd : addMok (svOf T (nI g)) (nI K) (nI X) (nI Y) = true := by
      unfold addMok
      rw [hM, decide_eq_true (show mm g < 8 by omega), inR_t ⟨Nat.zero_le _, hK⟩ (by decide), inR_t ⟨Nat.zero_le _, hX⟩ (by decide), inR_t ⟨Nat.zero_le _, hY⟩ (by decide)]
      rfl
    have H := RT_meet hT hi' hadd
    refine ⟨_, RT_congr H rfl rfl ⟨rfl, rfl, fun j hj => ?_⟩ ⟨rfl, rfl, fun j hj => ?_⟩ hok.xy.1 hok.xy.2, fun F e0 e1 e2 => ?_⟩
    · refine ⟨?_, ?_, ?_, rfl, rfl, rfl⟩
      · show upd (upd (upd d _ _) _ _) _ _ _ = upd d _ _ _
        rw [upd_n _ _ (by omega), upd_n _ _ (by omega)]
      · show upd (upd (upd d _ _) _ _) _ _ _ = upd (fun i => d (16 + i)) _ _ _
        rw [upd_n _ _ (by omega)]
        by_cases q : 8 * 0 + j = 8 * g + mm g
        · rw [q, upd_s, upd_s]
        · rw [upd_n _ _ (by omega), upd_n _ _ (by omega), upd_n _ _ q]
      · show upd (upd (upd d _ _) _ _) _ _ _ = upd (fun i => d (32 + i)) _ _ _
        by_cases q : 8 * 0 + j = 8 * g + mm g
        · rw [q, upd_s, upd_s]
        · rw [upd_n _ _ (by omega), upd_n _ _ (by omega), upd_n _ _ (by omega), upd_n _ _ q]
    · refine ⟨?_, ?_, ?_, rfl, rfl, rfl⟩
      · show upd (upd (upd d _ _) _ _) _ _ _ = upd d _ _ _
        rw [upd_n _ _ (by omega), upd_n _ _ (by omega)]
      · show upd (upd (upd d _ _) _ _) _ _ _ = upd (fun i => d (16 + i)) _ _ _
        rw [upd_n _ _ (by omega)]
        by_cases q : 8 * 1 + j = 8 * g + mm g
        · rw [q, upd_s, upd_s]
        · rw [upd_n _ _ (by omega), upd_n _ _ (by omega), upd_n _ _ q]
      · show upd (upd (upd d _ _) _ _) _ _ _ = upd (fun i => d (32 + i)) _ _ _
        by_cases q : 8 * 1 + j = 8 * g + mm g
        · rw [q, upd_s, upd_s]
        · rw [upd_n _ _ (by omega), upd_n _ _ (by omega), upd_n _ _ (by omega), upd_n _ _ q]
    · rcases (show g = 0 ∨ g = 1 by omega) with rfl | rfl
      · unfold rdTake
        rw [if_pos (show nI (97 + 0) = nI 97 from rfl), e0, e1, e2]
        rw [svOf_0] at hadd ⊢
        rw [tPut_0, hadd]
      · unfold rdTake
        rw [if_neg (show ¬ nI (97 + 1) = nI 97 by decide), if_pos (show nI (97 + 1) = nI 98 from rfl), e0, e1, e2]
        rw [svOf_1] at hadd ⊢
        rw [tPut_1, hadd]
  · rw [hgr.1, hsum.2]
    omega
  · by_cases q : z = g
    · subst q
      rw [upN_s]
      exact ⟨by omega, (h6 z hz).2⟩
    · rw [upN_n _ _ q]
      exact h6 z hz
theorem si_street {w : TXT} {d e : Nat → Int32} {mm ss : Nat → Nat} {N g a b c : Nat} (h : SI w d e mm ss N) (hg : g < 2) (hs : ss g < 6) (ha : a < mm g) (hb : b < mm g) (hab : ¬ a = b) (hc : c ≤ 9) (hst : stL e g (nI a) (nI b) (ss g) < 0) :
    SI (itW w (115 + g) a b c) d (jnE e g (ss g) (nI a) (nI b) (nI c)) mm (upN ss g (ss g + 1)) N := by
  obtain ⟨h1, h2, h3, h4, h5, h6⟩ := h
  have a0 := h6 0 (by decide)
  have a1 := h6 1 (by decide)
  have ag := h6 g hg
  have n1 : nd a = 2 := nd_1 (by omega)
  have n2 : nd b = 2 := nd_1 (by omega)
  have n3 : nd c = 2 := nd_1 hc
  have hsum : ss 0 + ss 1 ≤ 11 ∧ upN ss g (ss g + 1) 0 + upN ss g (ss g + 1) 1 = ss 0 + ss 1 + 1 := by
    rcases (show g = 0 ∨ g = 1 by omega) with rfl | rfl
    · rw [upN_s, upN_n _ _ (by decide)]; omega
    · rw [upN_s, upN_n _ _ (by decide)]; omega
  have hfar : ∀ k, 48 ≤ k → k ≠ 50 + g → jnE e g (ss g) (nI a) (nI b) (nI c) k = e k := fun k hk hne => by
    unfold jnE
    rw [upd_n _ _ hne, upd_n _ _ (by omega), upd_n _ _ (by omega), upd_n _ _ (by omega)]
  obtain ⟨hgr, hL⟩ := it_one (w := w) (l := 115 + g) (a := a) (b := b) (c := c) (by omega) (by omega) (by omega) (by omega) (by omega)
  refine ⟨ps_three h1 hgr (by omega) ?_ hL (fun T hT => ?_), h2, ?_, h4, ?_, fun z hz => ?_⟩
  · rcases (show g = 0 ∨ g = 1 by omega) with rfl | rfl <;> decide
  · have hi' := inS_g hT hg
    have hM : sM (svOf T (nI g)) = mm g := hi'.2.2.1.1
    have hS : sS (svOf T (nI g)) = ss g := hi'.2.2.1.2.1
    have hr := hi'.2.2.1.2.2.2
    have hnone : sbF (svOf T (nI g)) (nI a) (nI b) = none := by
      refine findF_all.mpr (fun k hk => ?_)
      rw [hS] at hk
      have hk2 := hr k (by rw [hS]; exact hk)
      cases q : sbP (svOf T (nI g)) (nI a) (nI b) k with
      | false => rfl
      | true =>
        have hgd := hi'.2.2.2.1
        have e1 : stP e g (nI a) (nI b) k = true := by
          rw [← q]
          unfold stP sbP
          rw [hk2.1, hk2.2.1]
        have e2 : stL e g (nI a) (nI b) (ss g) = nI k := by
          refine las_one hk e1 (fun k' hk' hne => ?_)
          cases q' : stP e g (nI a) (nI b) k' with
          | false => rfl
          | true =>
            have hk3 := hr k' (by rw [hS]; exact hk')
            have e3 : sbP (svOf T (nI g)) (nI a) (nI b) k' = true := by
              rw [← q']
              unfold stP sbP
              rw [hk3.1, hk3.2.1]
            exact absurd (sbP_one hgd (by rw [hS]; exact hk') (by rw [hS]; exact hk) e3 q) hne
        rw [e2] at hst
        exact absurd hst (nI_pos (by omega))
    have hadd : addSok (svOf T (nI g)) (nI a) (nI b) (nI c) = true := by
      unfold addSok
      rw [hM, hS, hnone, decide_eq_true (show ss g < 8 by omega), hasN_t ha (by omega), hasN_t hb (by omega), show decide (¬ nI a = nI b) = true from decide_eq_true (fun n => hab (n_eq (by omega) (by omega) n)), inR_t ⟨Nat.zero_le _, hc⟩ (by decide)]
      rfl
    have H := RT_join hT hi' hadd
    have h52 : jnE e g (ss g) (nI a) (nI b) (nI c) 52 = e 52 := hfar 52 (by omega) (by omega)
    have hsame : ∀ z, z < 2 → ∀ j, j < 8 → jnE e g (ss g) (nI a) (nI b) (nI c) (8 * z + j) = upd e (8 * g + ss g) (nI a) (8 * z + j) ∧ jnE e g (ss g) (nI a) (nI b) (nI c) (16 + (8 * z + j)) = upd (fun i => e (16 + i)) (8 * g + ss g) (nI b) (8 * z + j) ∧ jnE e g (ss g) (nI a) (nI b) (nI c) (32 + (8 * z + j)) = upd (fun i => e (32 + i)) (8 * g + ss g) (nI c) (8 * z + j) := fun z hz j hj => by
      unfold jnE
      refine ⟨?_, ?_, ?_⟩
      · rw [upd_n _ _ (by omega), upd_n _ _ (by omega), upd_n _ _ (by omega)]
      · rw [upd_n _ _ (by omega), upd_n _ _ (by omega)]
        by_cases q : 8 * z + j = 8 * g + ss g
        · rw [q, upd_s, upd_s]
        · rw [upd_n _ _ (by omega), upd_n _ _ (by omega), upd_n _ _ q]
      · rw [upd_n _ _ (by omega)]
        by_cases q : 8 * z + j = 8 * g + ss g
        · rw [q, upd_s, upd_s]
        · rw [upd_n _ _ (by omega), upd_n _ _ (by omega), upd_n _ _ (by omega), upd_n _ _ q]
    refine ⟨_, RT_congr H h52 rfl ⟨rfl, rfl, fun j hj => ⟨rfl, rfl, rfl, (hsame 0 (by decide) j hj).1, (hsame 0 (by decide) j hj).2.1, (hsame 0 (by decide) j hj).2.2⟩⟩ ⟨rfl, rfl, fun j hj => ⟨rfl, rfl, rfl, (hsame 1 (by decide) j hj).1, (hsame 1 (by decide) j hj).2.1, (hsame 1 (by decide) j hj).2.2⟩⟩ h2.xy.1 h2.xy.2, fun F e0 e1 e2 => ?_⟩
    rcases (show g = 0 ∨ g = 1 by omega) with rfl | rfl
    · unfold rdTake
      rw [if_neg (show ¬ nI (115 + 0) = nI 97 by decide), if_neg (show ¬ nI (115 + 0) = nI 98 by decide), if_neg (show ¬ nI (115 + 0) = nI 110 by decide), if_neg (show ¬ nI (115 + 0) = nI 114 by decide), if_pos (show nI (115 + 0) = nI 115 from rfl), e0, e1, e2]
      rw [svOf_0] at hadd ⊢
      rw [tPut_0, hadd]
    · unfold rdTake
      rw [if_neg (show ¬ nI (115 + 1) = nI 97 by decide), if_neg (show ¬ nI (115 + 1) = nI 98 by decide), if_neg (show ¬ nI (115 + 1) = nI 110 by decide), if_neg (show ¬ nI (115 + 1) = nI 114 by decide), if_neg (show ¬ nI (115 + 1) = nI 115 by decide), if_pos (show nI (115 + 1) = nI 116 from rfl), e0, e1, e2]
      rw [svOf_1] at hadd ⊢
      rw [tPut_1, hadd]
  · rw [hfar 53 (by omega) (by omega)]
    exact h3
  · rw [hgr.1, hsum.2]
    omega
  · by_cases q : z = g
    · subst q
      rw [upN_s]
      refine ⟨ag.1, by omega, ?_⟩
      unfold jnE
      rw [upd_s]
    · rw [upN_n _ _ q, hfar (50 + z) (by omega) (by omega)]
      exact h6 z hz
theorem si_start {d e : Nat → Int32} {R N : Nat} (w : TXT) (hd : okD d) (h52 : e 52 = nI R) (h53 : e 53 = nI N) (hR1 : 1 ≤ R) (hR : R ≤ 20) (hN : N ≤ 3) (h50 : e 50 = nI 0) (h51 : e 51 = nI 0) :
    SI (twW (txW (twW (txW (w.1, 0) (nI 114)) R 59) (nI 110)) N 59) d e (fun _ => 0) (fun _ => 0) N := by
  have p0 : PSg (w.1, 0) (nI 10, 2, fun _ => 0, fun _ => 0, d, fun i => d (16 + i), fun i => d (32 + i), e, fun i => e (16 + i), fun i => e (32 + i)) := fun dv =>
    ⟨0, tClear dv, Nat.le_refl _, ⟨rfl, rfl, ⟨⟨rfl, rfl, fun j hj => absurd hj (Nat.not_lt_zero j), fun j hj => absurd hj (Nat.not_lt_zero j)⟩, ⟨rfl, rfl, fun j hj => absurd hj (Nat.not_lt_zero j), fun j hj => absurd hj (Nat.not_lt_zero j)⟩⟩,
      ⟨⟨okS_clear _, fun j hj => absurd hj (Nat.not_lt_zero j), fun j hj => absurd hj (Nat.not_lt_zero j), fun q r _ hr => absurd hr (Nat.not_lt_zero r)⟩, ⟨okS_clear _, fun j hj => absurd hj (Nat.not_lt_zero j), fun j hj => absurd hj (Nat.not_lt_zero j), fun q r _ hr => absurd hr (Nat.not_lt_zero r)⟩⟩,
      hd.xy, ⟨10, by decide, by decide, rfl⟩, by show (2 : Nat) ≤ 3; decide⟩, fun L _ len m f _ => ⟨f, by rw [Nat.zero_add]⟩⟩
  have b1 := nd_b R
  have b2 : nd N = 2 := nd_1 (by omega)
  have t1 : ∀ T, RT T (nI 10, 2, fun _ => 0, fun _ => 0, d, fun i => d (16 + i), fun i => d (32 + i), e, fun i => e (16 + i), fun i => e (32 + i)) → ∃ T', RT T' (nI R, 2, fun _ => 0, fun _ => 0, d, fun i => d (16 + i), fun i => d (32 + i), e, fun i => e (16 + i), fun i => e (32 + i)) ∧ ∀ F : Nat → Int32, F 0 = nI R → rdTake (nI 114) F T = (true, T') := fun T hT => by
    obtain ⟨a1, a2, a3, a4, a5, a6, a7⟩ := hT
    refine ⟨(tA T, tB T, nI R, tN T), ⟨rfl, a2, a3, a4, a5, ⟨R, hR1, hR, rfl⟩, a7⟩, fun F e0 => ?_⟩
    unfold rdTake
    rw [if_neg (show ¬ nI 114 = nI 97 by decide), if_neg (show ¬ nI 114 = nI 98 by decide), if_neg (show ¬ nI 114 = nI 110 by decide), if_pos rfl, e0, inR_t ⟨hR1, hR⟩ (by decide)]
    unfold tSetR
    rw [inR_t ⟨hR1, hR⟩ (by decide), if_pos rfl]
  have t2 : ∀ T, RT T (nI R, 2, fun _ => 0, fun _ => 0, d, fun i => d (16 + i), fun i => d (32 + i), e, fun i => e (16 + i), fun i => e (32 + i)) → ∃ T', RT T' (SMd e d (fun _ => 0) (fun _ => 0) N) ∧ ∀ F : Nat → Int32, F 0 = nI N → rdTake (nI 110) F T = (true, T') := fun T hT => by
    obtain ⟨a1, a2, a3, a4, a5, a6, a7⟩ := hT
    refine ⟨(tA T, tB T, tR T, N), ⟨a1.trans h52.symm, rfl, a3, a4, a5, a6, hN⟩, fun F e0 => ?_⟩
    unfold rdTake
    rw [if_neg (show ¬ nI 110 = nI 97 by decide), if_neg (show ¬ nI 110 = nI 98 by decide), if_pos rfl, e0, inR_t ⟨Nat.zero_le _, hN⟩ (by decide)]
    unfold tSetN
    rw [inR_t ⟨Nat.zero_le _, hN⟩ (by decide), if_pos rfl, nI_clamp (by omega)]
  have q1 := ps_one (l := 114) (a := R) p0 (by show 0 + _ ≤ 200; omega) (by decide) (by omega) (by decide) t1
  have s1 := q1.2
  have q2 := ps_one (l := 110) (a := N) q1.1 (by rw [s1]; show 0 + _ + _ ≤ 200; omega) (by decide) (by omega) (by decide) t2
  have s2 := q2.2
  refine ⟨q2.1, hd, h53, hN, ?_, fun z hz => ⟨Nat.zero_le _, Nat.zero_le _, ?_⟩⟩
  · rw [s2, s1]
    show 0 + _ + _ ≤ _
    omega
  · rcases (show z = 0 ∨ z = 1 by omega) with rfl | rfl
    · exact h50
    · exact h51
theorem si_end {w : TXT} {d e : Nat → Int32} {mm ss : Nat → Nat} {N : Nat} (h : SI w d e mm ss N) (hm : ∀ z, z < 2 → 1 ≤ mm z ∧ e (48 + z) = nI (mm z)) {T : TV} (hT : RT T (SMd e d mm ss N)) (v : TV) (p : Nat) (f : Nat → Int32) :
    layOk (-4, p, f, T) = true ∧ nI (sM (tA T) + sM (tB T)) = e 48 + e 49 ∧ DE (tCopy T v) d e := by
  obtain ⟨h1, h2, h3, h4, h5, h6⟩ := h
  have m0 : sM (tA T) = mm 0 := hT.2.2.1.1.1
  have m1 : sM (tB T) = mm 1 := hT.2.2.1.2.1
  have c0 := hm 0 (by decide)
  have c1 := hm 1 (by decide)
  have s0 : sS (tA T) = ss 0 := hT.2.2.1.1.2.1
  have s1 : sS (tB T) = ss 1 := hT.2.2.1.2.2.1
  have c48 : e 48 = nI (mm 0) := c0.2
  have c49 : e 49 = nI (mm 1) := c1.2
  refine ⟨?_, ?_, ⟨⟨RT_congr (RT_copy hT) rfl hT.2.1 ⟨m0, s0, fun j hj => ⟨rfl, rfl, rfl, rfl, rfl, rfl⟩⟩ ⟨m1, s1, fun j hj => ⟨rfl, rfl, rfl, rfl, rfl, rfl⟩⟩ h2.xy.1 h2.xy.2, ?_, ?_⟩, fun g hg => ?_, ?_, fun k hk => (h2 k hk).1⟩⟩
  · unfold layOk
    rw [m0, m1, decide_eq_true (show ¬ mm 0 = 0 by omega), decide_eq_true (show ¬ mm 1 = 0 by omega), decide_eq_true (show (-4 : Int32) = -4 from rfl)]
    rfl
  · rw [m0, m1, c48, c49, nI_add]
  · show 1 ≤ sM (tA T)
    rw [m0]; exact c0.1
  · show 1 ≤ sM (tB T)
    rw [m1]; exact c1.1
  · rcases (show g = 0 ∨ g = 1 by omega) with rfl | rfl
    · exact ⟨by show e 48 = nI (sM (tA T)); rw [m0]; exact c48, by show e 50 = nI (sS (tA T)); rw [s0]; exact (h6 0 (by decide)).2.2⟩
    · exact ⟨by show e 49 = nI (sM (tB T)); rw [m1]; exact c49, by show e 51 = nI (sS (tB T)); rw [s1]; exact (h6 1 (by decide)).2.2⟩
  · show e 53 = nI (tN T)
    rw [hT.2.1]
    exact h3
