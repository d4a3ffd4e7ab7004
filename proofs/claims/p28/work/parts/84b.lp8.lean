/-! ===== the matches: both ways round, none left over ===== -/
theorem itR_idx {σ : Type} {P : Nat → σ → Prop} {f : Nat → σ → σ} : ∀ (n : Nat) (s : σ), P 0 s → (∀ k s, k < n → P k s → P (k + 1) (f k s)) → P n (itR f n s)
  | 0, _, h, _ => h
  | n + 1, s, h, hf => hf n _ (Nat.lt_succ_self n) (itR_idx n s h (fun k s hk => hf k s (Nat.lt_succ_of_lt hk)))
section PUQ
variable {B : Nat → Nat → Int32} {f g : Nat → Int32}
/-- what the scan has gone through is no better than what it holds -/
theorem scan_max : ∀ a b, a < 8 → b < 8 → f a = -1 → g b = -1 → B a b ≤ (bScan false B f g 8).1 := by
  have step : ∀ (a : Nat) (s : Int32 × Nat × Nat), (∀ a' b', a' < a → b' < 8 → f a' = -1 → g b' = -1 → B a' b' ≤ s.1) →
      (∀ a' b', (a' < a ∧ b' < 8) ∨ (a' = a ∧ b' < 8) → f a' = -1 → g b' = -1 → B a' b' ≤ (itR (bst false B f g a) 8 s).1) := fun a s hs => by
    refine itR_idx (P := fun (k : Nat) (s : Int32 × Nat × Nat) => ∀ a' b', (a' < a ∧ b' < 8) ∨ (a' = a ∧ b' < k) → f a' = -1 → g b' = -1 → B a' b' ≤ s.1) 8 s ?_ ?_
    · intro a' b' h1 h2 h3
      rcases h1 with h1 | h1
      · exact hs a' b' h1.1 h1.2 h2 h3
      · omega
    · intro k s _ ih a' b' h1 h2 h3
      unfold bst
      by_cases c : f (if false = true then k else a) = -1 ∧ g (if false = true then a else k) = -1 ∧ ¬ B (if false = true then k else a) (if false = true then a else k) ≤ s.1
      · rw [if_pos c]
        show B a' b' ≤ B a k
        have c3 : ¬ B a k ≤ s.1 := c.2.2
        by_cases e : a' = a ∧ b' = k
        · rw [e.1, e.2, i_le]
          exact Int.le_refl _
        · have := ih a' b' (by omega) h2 h3
          rw [i_le] at this c3 ⊢
          omega
      · rw [if_neg c]
        by_cases e : a' = a ∧ b' = k
        · obtain ⟨rfl, rfl⟩ := e
          by_cases q : B a' b' ≤ s.1
          · exact q
          · exact absurd ⟨h2, h3, q⟩ c
        · exact ih a' b' (by omega) h2 h3
  have all : ∀ a' b', a' < 8 → b' < 8 → f a' = -1 → g b' = -1 → B a' b' ≤ (bScan false B f g 8).1 := by
    unfold bScan
    refine itR_idx (P := fun (k : Nat) (s : Int32 × Nat × Nat) => ∀ a' b', a' < k → b' < 8 → f a' = -1 → g b' = -1 → B a' b' ≤ s.1) 8 _ (fun a' b' h => by omega) (fun k s _ ih a' b' h1 h2 h3 h4 => ?_)
    exact step k s ih a' b' (by omega) h3 h4
  exact all
/-- the pair that the scan holds is free -/
theorem scan_free : (bScan false B f g 8).1 = 0 ∨ (f (bScan false B f g 8).2.1 = -1 ∧ g (bScan false B f g 8).2.2 = -1) := by
  unfold bScan
  refine itR_inv (P := fun s : Int32 × Nat × Nat => s.1 = 0 ∨ (f s.2.1 = -1 ∧ g s.2.2 = -1)) 8 _ (Or.inl rfl) (fun a s _ hs => itR_inv (P := fun s : Int32 × Nat × Nat => s.1 = 0 ∨ (f s.2.1 = -1 ∧ g s.2.2 = -1)) 8 s hs (fun b s _ hs => ?_))
  unfold bst
  by_cases c : f (if false = true then b else a) = -1 ∧ g (if false = true then a else b) = -1 ∧ ¬ B (if false = true then b else a) (if false = true then a else b) ≤ s.1
  · rw [if_pos c]
    exact Or.inr ⟨c.1, c.2.1⟩
  · rw [if_neg c]
    exact hs
end PUQ
def frC (f : Nat → Int32) : Nat := cntB (fun i => decide (f i = -1)) 8
def mtC (f : Nat → Int32) (n : Nat) : Nat := cntB (fun i => decide (¬ f i = -1)) n
theorem mtC_upd {f : Nat → Int32} {i : Nat} {x : Int32} (hi : i < 8) (h : f i = -1) (hx : ¬ x = -1) : mtC (upd f i x) 8 = mtC f 8 + 1 := by
  unfold mtC
  refine cntB_one (k := i) hi (fun j _ hne => ?_) (decide_eq_false (fun n => n h)) (decide_eq_true (by rw [upd_s]; exact hx))
  show decide (¬ f j = -1) = decide (¬ upd f i x j = -1)
  rw [upd_n _ _ hne]
theorem frC_upd {f : Nat → Int32} {i : Nat} {x : Int32} (hi : i < 8) (h : f i = -1) (hx : ¬ x = -1) : frC f = frC (upd f i x) + 1 := by
  unfold frC
  refine cntB_one (k := i) hi (fun j _ hne => ?_) (decide_eq_false (by rw [upd_s]; exact hx)) (decide_eq_true h)
  show decide (upd f i x j = -1) = decide (f j = -1)
  rw [upd_n _ _ hne]
/-- what holds of the rows that are gone through -/
theorem pu_inv {B : Nat → Nat → Int32} {P : (Nat → Int32) → (Nat → Int32) → Prop} (hP : ∀ f g i j, i < 8 → j < 8 → f i = -1 → g j = -1 → ¬ B i j ≤ 0 → P f g → P (upd f i (nI j)) (upd g j (nI i))) :
    ∀ (m k : Nat) (f g : Nat → Int32), P f g → P (pu false B m k f g).2.1 (pu false B m k f g).2.2
  | 0, k, f, g, h => h
  | m + 1, k, f, g, h => by
    unfold pu
    by_cases e : (bScan false B f g 8).1 = 0
    · rw [if_pos e]; exact h
    · rw [if_neg e]
      have hl := bScan_lt false B f g (n := 8) (Nat.le_refl 8)
      have hh := (scan_hit false B f g 8).resolve_left e
      have hf := (scan_free (B := B) (f := f) (g := g)).resolve_left e
      refine pu_inv hP m _ _ _ ?_
      unfold puF puG
      rw [if_neg e, if_neg e]
      exact hP f g _ _ hl.1 hl.2 hf.1 hf.2 (by rw [← hh.2]; exact hh.1) h
theorem pu_stop {B : Nat → Nat → Int32} : ∀ (m k : Nat) (f g : Nat → Int32), frC f ≤ m → (bScan false B (pu false B m k f g).2.1 (pu false B m k f g).2.2 8).1 = 0
  | 0, k, f, g, h => by
    show (bScan false B f g 8).1 = 0
    rcases scan_free (B := B) (f := f) (g := g) with e | ⟨e, -⟩
    · exact e
    · have hl := bScan_lt false B f g (n := 8) (Nat.le_refl 8)
      have := frC_upd (x := nI 0) hl.1 e (by decide)
      omega
  | m + 1, k, f, g, h => by
    unfold pu
    by_cases e : (bScan false B f g 8).1 = 0
    · rw [if_pos e]; exact e
    · rw [if_neg e]
      have hl := bScan_lt false B f g (n := 8) (Nat.le_refl 8)
      have hf := (scan_free (B := B) (f := f) (g := g)).resolve_left e
      refine pu_stop m _ _ _ ?_
      unfold puF
      rw [if_neg e]
      have := frC_upd (x := nI (bScan false B f g 8).2.2) hl.1 hf.1 (nI_ne_m1 (by omega))
      omega
theorem pa_pos {B : Nat → Nat → Int32} {f g : Nat → Int32} {i j : Nat} (hi : i < 8) (hj : j < 8) (e : (puAll false B f g).2.1 i = nI j) : ¬ B i j ≤ 0 := by
  unfold puAll at e
  exact pu_inv (B := B) (P := fun f _ => ∀ a b, a < 8 → b < 8 → f a = nI b → ¬ B a b ≤ 0) (fun f g i j hi hj _ _ hb hP a b ha hb' e => by
    by_cases q : a = i
    · subst q
      rw [upd_s] at e
      rw [← n_eq (by omega) (by omega) e]
      exact hb
    · rw [upd_n _ _ q] at e
      exact hP a b ha hb' e) 8 0 (ngF f 8) (ngF g 8) (fun a b ha _ e => by
    unfold ngF at e
    rw [if_pos ha] at e
    exact absurd e.symm (nI_ne_m1 (by omega))) i j hi hj e
theorem ng_cnt (f : Nat → Int32) : mtC (ngF f 8) 8 = 0 := by
  unfold mtC
  rw [cntB_cut (n := 0) (Nat.zero_le 8) (fun i _ hi => decide_eq_false (fun c => c (if_pos hi)))]
  rfl
theorem pa_cnt {B : Nat → Nat → Int32} {f g : Nat → Int32} : mtC (puAll false B f g).2.1 8 = mtC (puAll false B f g).2.2 8 := by
  unfold puAll
  exact pu_inv (B := B) (P := fun f g => mtC f 8 = mtC g 8) (fun f g i j hi hj h1 h2 _ hP => by
    rw [mtC_upd hi h1 (nI_ne_m1 (by omega)), mtC_upd hj h2 (nI_ne_m1 (by omega)), hP]) 8 0 (ngF f 8) (ngF g 8) (by rw [ng_cnt, ng_cnt])
theorem pa_max {B : Nat → Nat → Int32} {f g : Nat → Int32} {i j : Nat} (hi : i < 8) (hj : j < 8) (h1 : (puAll false B f g).2.1 i = -1) (h2 : (puAll false B f g).2.2 j = -1) : B i j ≤ 0 := by
  have hs : (bScan false B (puAll false B f g).2.1 (puAll false B f g).2.2 8).1 = 0 := by
    unfold puAll
    exact pu_stop 8 0 (ngF f 8) (ngF g 8) (cntB_le _ _)
  have := scan_max (B := B) i j hi hj h1 h2
  rw [hs] at this
  exact this
section MT
variable {v : TV}
theorem cM_rel (h : RV v) : ∃ hh : Nat → Int32, relM (sM (tA v)) (sM (tB v)) (mkP v p00 zf zf).2.1 (mkP v p00 zf zf).2.2 hh ∧ (mkP v p00 zf zf).1 = mtC (mkP v p00 zf zf).2.1 (sM (tA v)) := by
  obtain ⟨S, H, -⟩ := h
  have m0 : sM (tA v) = nM S 0 := H.2.2.1.1.1
  have m1 : sM (tB v) = nM S 1 := H.2.2.1.2.1
  have hr := mts_S H p00 b00 zf zf zf
  have h1 : (mkP v p00 zf zf).1 = rCnt (mtS S b00 zf) (nM S 0) := by unfold mkP; exact (mts_rel H false p00 b00 zf zf zf).2
  have h8 := H.mm 0 (by decide)
  generalize mkP v p00 zf zf = X at *
  refine ⟨mtS S b00 zf, by rw [m0, m1]; exact hr, ?_⟩
  rw [m0, h1]
  unfold rCnt mtC
  refine cntB_congr (fun i hi => ?_)
  have hf := relM_f hr (show i < 8 by omega)
  by_cases c : X.2.1 i = -1
  · rw [decide_eq_false (fun n => n (hf.mp c)), decide_eq_false (fun n => n c)]
  · rw [decide_eq_true (show ¬ mtS S b00 zf i = -4 from fun n => c (hf.mpr n)), decide_eq_true c]
theorem cM_pos {i j : Nat} (hi : i < 8) (hj : j < 8) (e : (mkP v p00 zf zf).2.1 i = nI j) : ¬ (mkB v p00).1 i j ≤ 0 := by
  unfold mkP at e
  unfold mkB
  exact pa_pos hi hj e
theorem cM_cnt : mtC (mkP v p00 zf zf).2.1 8 = mtC (mkP v p00 zf zf).2.2 8 := by
  unfold mkP
  exact pa_cnt
theorem cM_max {i j : Nat} (hi : i < 8) (hj : j < 8) (h1 : (mkP v p00 zf zf).2.1 i = -1) (h2 : (mkP v p00 zf zf).2.2 j = -1) : (mkB v p00).1 i j ≤ 0 := by
  unfold mkP at h1 h2
  unfold mkB
  exact pa_max hi hj h1 h2
theorem aMat_0 (h : RV v) {i : Nat} (hi : i < sM (tA v)) : aMat v (nI 0) (nI i) = if cM v i = -1 then -4 else cM v i := by
  have hk := h.ok
  have h1 := hk.1.1
  unfold aMat matV
  rw [if_pos (by rw [hasM_d hk (by decide) (by omega)]; exact decide_eq_true hi), if_pos rfl, mtI_at (by omega)]
theorem aMat_1 (h : RV v) {j : Nat} (hj : j < sM (tB v)) : aMat v (nI 1) (nI j) = if cN v j = -1 then -4 else cN v j := by
  have hk := h.ok
  have h1 := hk.2.1.1
  unfold aMat matV
  rw [if_pos (by rw [hasM_d hk (by decide) (by omega)]; exact decide_eq_true hj), if_neg (show ¬ nI 1 = nI 0 by decide), mtI_at (by omega)]
theorem mt_or (h : RV v) {i : Nat} (hi : i < sM (tA v)) : (aMat v (nI 0) (nI i) = -4 ∧ cM v i = -1) ∨ ∃ j, j < sM (tB v) ∧ aMat v (nI 0) (nI i) = nI j ∧ cM v i = nI j ∧ aMat v (nI 1) (nI j) = nI i ∧ cN v j = nI i ∧ ∃ c, 1 ≤ c ∧ c ≤ 10000000 ∧ aBel v (nI i) (nI j) = nI c := by
  have hk := h.ok
  have h1 := hk.1.1
  have h2 := hk.2.1.1
  obtain ⟨hh, hm, -⟩ := cM_rel h
  rw [aMat_0 h hi]
  rcases hm.1 i (by omega) with ⟨q, -⟩ | ⟨j, a1, a2, a3, a4, -, a6, -⟩
  · rw [if_pos q]
    exact Or.inl ⟨rfl, q⟩
  · have hne := nI_ne_m1 (show j < 2 ^ 31 by omega)
    have a4 : cM v i = nI j := a4
    have a6 : cN v j = nI i := a6
    rw [if_neg (by rw [a4]; exact hne)]
    refine Or.inr ⟨j, a2, a4, a4, ?_, a6, ?_⟩
    · rw [aMat_1 h a2, a6, if_neg (nI_ne_m1 (by omega))]
    · have hp := cM_pos (show i < 8 by omega) a3 a4
      obtain ⟨c, c1, c2, ec⟩ := (cB_or h (show i < 8 by omega) a3).resolve_left (fun q => by have hp : ¬ cB v i j ≤ 0 := hp; rw [q] at hp; exact hp (by decide))
      refine ⟨c, c1, c2, ?_⟩
      rw [aBel_at h hi a2, ec, if_neg (nI_nle (by omega) (by omega))]
theorem nt_or (h : RV v) {j : Nat} (hj : j < sM (tB v)) : (aMat v (nI 1) (nI j) = -4 ∧ cN v j = -1) ∨ ∃ i, i < sM (tA v) ∧ aMat v (nI 1) (nI j) = nI i ∧ cN v j = nI i := by
  have hk := h.ok
  have h1 := hk.1.1
  have h2 := hk.2.1.1
  obtain ⟨hh, hm, -⟩ := cM_rel h
  rw [aMat_1 h hj]
  rcases hm.2 j (by omega) with ⟨q, -⟩ | ⟨i, a1, a2, a3, a4, -, a6, -⟩
  · rw [if_pos q]
    exact Or.inl ⟨rfl, q⟩
  · have a4 : cN v j = nI i := a4
    rw [if_neg (by rw [a4]; exact nI_ne_m1 (by omega))]
    exact Or.inr ⟨i, a1, a4, a4⟩
theorem cut_A (h : RV v) : mtC (cM v) (sM (tA v)) = mtC (cM v) 8 := by
  have hk := h.ok
  obtain ⟨hh, hm, -⟩ := cM_rel h
  refine (cntB_cut hk.1.1 (fun i h1 h2 => decide_eq_false (fun c => ?_))).symm
  rcases hm.1 i h2 with ⟨q, -⟩ | ⟨j, a1, -⟩
  · exact c q
  · omega
theorem cut_B (h : RV v) : mtC (cN v) (sM (tB v)) = mtC (cN v) 8 := by
  have hk := h.ok
  obtain ⟨hh, hm, -⟩ := cM_rel h
  refine (cntB_cut hk.2.1.1 (fun j h1 h2 => decide_eq_false (fun c => ?_))).symm
  rcases hm.2 j h2 with ⟨q, -⟩ | ⟨i, -, a1, -⟩
  · exact c q
  · omega
theorem mt_same (h : RV v) : mtC (cM v) (sM (tA v)) = mtC (cN v) (sM (tB v)) := by rw [cut_A h, cut_B h, cM_cnt]
/-! numbers of the whole -/
theorem wh_0 (h : RV v) : aWhl v (nI 0) = nI (mtC (cM v) (sM (tA v))) := by
  obtain ⟨hh, -, e⟩ := cM_rel h
  unfold aWhl whlV
  rw [if_pos (show inR (nI 0) (nI 0) (nI 5) = true by decide), if_pos rfl]
  exact congrArg nI e
theorem wh_3 : aWhl v (nI 3) = loneI (cM v) (sM (tA v)) := by
  unfold aWhl whlV
  rw [if_pos (show inR (nI 3) (nI 0) (nI 5) = true by decide), if_neg (show ¬ nI 3 = nI 0 by decide), if_neg (show ¬ nI 3 = nI 1 by decide), if_neg (show ¬ nI 3 = nI 2 by decide), if_pos rfl]
theorem wh_5 : aWhl v (nI 5) = nI (xsN v (cM v) (sS (tA v)) w00).1 := by
  unfold aWhl whlV
  rw [if_pos (show inR (nI 5) (nI 0) (nI 5) = true by decide), if_neg (show ¬ nI 5 = nI 0 by decide), if_neg (show ¬ nI 5 = nI 1 by decide), if_neg (show ¬ nI 5 = nI 2 by decide), if_neg (show ¬ nI 5 = nI 3 by decide), if_neg (show ¬ nI 5 = nI 4 by decide)]
theorem tr_b {k : Nat} {n : Nat} {mm : Nat → Nat} {xo yo mt : Nat → Int32} : ∀ n, rTuS mm xo yo mt n ≤ n
  | 0 => Nat.le_refl 0
  | n + 1 => by
    have ih := tr_b (k := k) (n := n) (mm := mm) (xo := xo) (yo := yo) (mt := mt) n
    show rTnK mm xo yo mt n (rTuS mm xo yo mt n) ≤ n + 1
    unfold rTnK
    split <;> omega
theorem wh_1 (h : RV v) : ∃ n, n ≤ 512 ∧ aWhl v (nI 1) = nI n := by
  obtain ⟨S, H, -⟩ := h
  have hm := mts_S H p00 b00 zf zf zf
  refine ⟨trAll v (cM v), ?_, ?_⟩
  · have e := tr_rel H hm
    rw [show trAll v (cM v) = trAll v (mkP v p00 zf zf).2.1 from rfl, e]
    exact tr_b (k := 0) (n := 0) 512
  · unfold aWhl whlV
    rw [if_pos (show inR (nI 1) (nI 0) (nI 5) = true by decide), if_neg (show ¬ nI 1 = nI 0 by decide), if_pos rfl]
theorem wh_2 (v : TV) : ∃ n, n ≤ 1 ∧ aWhl v (nI 2) = nI n := by
  have e : aWhl v (nI 2) = b2i (smB (cB v) (cM v) zf zf) := by
    unfold aWhl whlV
    rw [if_pos (show inR (nI 2) (nI 0) (nI 5) = true by decide), if_neg (show ¬ nI 2 = nI 0 by decide), if_neg (show ¬ nI 2 = nI 1 by decide), if_pos rfl]
  rw [e]
  cases smB (cB v) (cM v) zf zf
  · exact ⟨0, by omega, rfl⟩
  · exact ⟨1, by omega, rfl⟩
end MT
