/-! ===== the matches of both sides ===== -/
theorem itR_add {σ : Type} (f : Nat → σ → σ) (n : Nat) : ∀ (m : Nat) (s : σ), itR f (n + m) s = itR (fun t => f (n + t)) m (itR f n s)
  | 0, _ => rfl
  | m + 1, s => by
    show f (n + m) (itR f (n + m) s) = f (n + m) (itR (fun t => f (n + t)) m (itR f n s))
    rw [itR_add f n m s]
theorem itR_mul {σ : Type} (f : Nat → σ → σ) (b : Nat) : ∀ (n : Nat) (s : σ), itR f (b * n) s = itR (fun k s => itR (fun t => f (b * k + t)) b s) n s
  | 0, _ => rfl
  | n + 1, s => by
    show itR f (b * n + b) s = itR (fun t => f (b * n + t)) b (itR (fun k s => itR (fun t => f (b * k + t)) b s) n s)
    rw [itR_add f (b * n) b s, itR_mul f b n s]
theorem itR_rel {σ τ : Type} {P : σ → τ → Prop} {f : Nat → σ → σ} {g : Nat → τ → τ} : ∀ (n : Nat) (s : σ) (t : τ), P s t → (∀ k s t, k < n → P s t → P (f k s) (g k t)) → P (itR f n s) (itR g n t)
  | 0, _, _, h, _ => h
  | n + 1, s, t, h, hf => hf n _ _ (Nat.lt_succ_self n) (itR_rel n s t h (fun k s t hk => hf k s t (Nat.lt_succ_of_lt hk)))
theorem cntB_one {p q : Nat → Bool} {k : Nat} : ∀ {n : Nat}, k < n → (∀ i, i < n → i ≠ k → p i = q i) → p k = false → q k = true → cntB q n = cntB p n + 1
  | 0, h, _, _, _ => absurd h (Nat.not_lt_zero _)
  | n + 1, h, he, h1, h2 => by
    by_cases e : k = n
    · subst e
      have e1 : cntB q k = cntB p k := cntB_congr (fun i hi => (he i (by omega) (by omega)).symm)
      rw [← cntB_t h2, ← cntB_f h1, e1]
    · have e1 := cntB_one (p := p) (q := q) (k := k) (n := n) (by omega) (fun i hi hn => he i (by omega) hn) h1 h2
      show cntB q n + (if q n then 1 else 0) = cntB p n + (if p n then 1 else 0) + 1
      rw [e1, he n (by omega) (by omega)]
      omega
theorem cntB_cut {p : Nat → Bool} {n : Nat} : ∀ {m : Nat}, n ≤ m → (∀ i, n ≤ i → i < m → p i = false) → cntB p m = cntB p n
  | 0, h, _ => by rw [show n = 0 by omega]
  | m + 1, h, hf => by
    by_cases e : n = m + 1
    · rw [e]
    · rw [← cntB_f (hf m (by omega) (by omega))]
      exact cntB_cut (by omega) (fun i h1 h2 => hf i h1 (by omega))
/-- the mates here and there: both ways round, and of meetings -/
def relM (m0 m1 : Nat) (f g h : Nat → Int32) : Prop :=
  (∀ i, i < 8 → (f i = -1 ∧ h i = -4) ∨ ∃ j, i < m0 ∧ j < m1 ∧ j < 8 ∧ f i = nI j ∧ h i = nI j ∧ g j = nI i ∧ h (8 + j) = nI i) ∧
  (∀ j, j < 8 → (g j = -1 ∧ h (8 + j) = -4) ∨ ∃ i, i < m0 ∧ j < m1 ∧ i < 8 ∧ g j = nI i ∧ h (8 + j) = nI i ∧ f i = nI j ∧ h i = nI j)
theorem relM_0 (m0 m1 : Nat) (f g h : Nat → Int32) : relM m0 m1 (ngF f 8) (ngF g 8) (clrF h 16) := by
  refine ⟨fun i hi => Or.inl ⟨if_pos hi, if_pos (by omega)⟩, fun j hj => Or.inl ⟨if_pos hj, if_pos (by omega)⟩⟩
theorem rNx1_eq (h : Nat → Int32) {i j : Nat} (hj : j < 8) : rNx1 h (8 * i + j) = upd (upd h i (nI j)) (8 + j) (nI i) := by
  unfold rNx1
  rw [show (8 * i + j) / 8 = i by omega, show (8 * i + j) % 8 = j by omega]
theorem relM_upd {m0 m1 : Nat} {f g h : Nat → Int32} (H : relM m0 m1 f g h) {i j : Nat} (hi : i < 8) (hj : j < 8) (h0 : i < m0) (h1 : j < m1) (hf : f i = -1) (hg : g j = -1) : relM m0 m1 (upd f i (nI j)) (upd g j (nI i)) (rNx1 h (8 * i + j)) := by
  rw [rNx1_eq h hj]
  refine ⟨fun i' hi' => ?_, fun j' hj' => ?_⟩
  · by_cases e : i' = i
    · subst e
      refine Or.inr ⟨j, h0, h1, hj, upd_s _ _ _, ?_, upd_s _ _ _, upd_s _ _ _⟩
      rw [upd_n _ _ (by omega), upd_s]
    · rw [upd_n _ _ e, upd_n _ _ (by omega), upd_n _ _ e]
      rcases H.1 i' hi' with q | ⟨j', a1, a2, a3, a4, a5, a6, a7⟩
      · exact Or.inl q
      · have hne : j' ≠ j := fun c => by
          subst c
          rw [a6] at hg
          exact nI_ne_m1 (by omega) hg
        refine Or.inr ⟨j', a1, a2, a3, a4, a5, ?_, ?_⟩
        · rw [upd_n _ _ hne]; exact a6
        · rw [upd_n _ _ (by omega), upd_n _ _ (by omega)]; exact a7
  · by_cases e : j' = j
    · subst e
      refine Or.inr ⟨i, h0, h1, hi, upd_s _ _ _, upd_s _ _ _, upd_s _ _ _, ?_⟩
      rw [upd_n _ _ (by omega), upd_s]
    · rw [upd_n _ _ e, upd_n _ _ (by omega), upd_n _ _ (by omega)]
      rcases H.2 j' hj' with q | ⟨i', a1, a2, a3, a4, a5, a6, a7⟩
      · exact Or.inl q
      · have hne : i' ≠ i := fun c => by
          subst c
          rw [a6] at hf
          exact nI_ne_m1 (by omega) hf
        refine Or.inr ⟨i', a1, a2, a3, a4, a5, ?_, ?_⟩
        · rw [upd_n _ _ hne]; exact a6
        · rw [upd_n _ _ (by omega), upd_n _ _ hne]; exact a7
theorem relM_f {m0 m1 : Nat} {f g h : Nat → Int32} (H : relM m0 m1 f g h) {i : Nat} (hi : i < 8) : f i = -1 ↔ h i = -4 := by
  rcases H.1 i hi with q | ⟨j, a1, a2, a3, a4, a5, a6, a7⟩
  · exact ⟨fun _ => q.2, fun _ => q.1⟩
  · exact ⟨fun c => absurd (a4.symm.trans c) (nI_ne_m1 (by omega)), fun c => absurd (a5.symm.trans c) (nI_ne_m4 (by omega))⟩
theorem relM_g {m0 m1 : Nat} {f g h : Nat → Int32} (H : relM m0 m1 f g h) {j : Nat} (hj : j < 8) : g j = -1 ↔ h (8 + j) = -4 := by
  rcases H.2 j hj with q | ⟨i, a1, a2, a3, a4, a5, a6, a7⟩
  · exact ⟨fun _ => q.2, fun _ => q.1⟩
  · exact ⟨fun c => absurd (a4.symm.trans c) (nI_ne_m1 (by omega)), fun c => absurd (a5.symm.trans c) (nI_ne_m4 (by omega))⟩
/-- the best pair that is free, here and there -/
def scR (B : Nat → Nat → Int32) (be f g : Nat → Int32) (s : Int32 × Nat × Nat) (b : Int32) : Prop := (s.1 = 0 ∧ b = -4) ∨ ∃ i j c, i < 8 ∧ j < 8 ∧ 1 ≤ c ∧ c ≤ 10000000 ∧ s = (nI c, i, j) ∧ b = nI (8 * i + j) ∧ f i = -1 ∧ g j = -1 ∧ B i j = nI c ∧ be (8 * i + j) = nI c
theorem scR_step {sw : Bool} {B : Nat → Nat → Int32} {be f g h : Nat → Int32} {m0 m1 : Nat} (hB : relBe B be) (hM : relM m0 m1 f g h) {a b : Nat} (ha : a < 8) (hb : b < 8) {s : Int32 × Nat × Nat} {t : Int32} (hs : scR B be f g s t) : scR B be f g (bst sw B f g a b s) (rbst sw be h (8 * a + b) t) := by
  have ei : rbI sw (8 * a + b) = (if sw then b else a) := by
    cases sw
    · show (8 * a + b) / 8 = a; omega
    · show (8 * a + b) % 8 = b; omega
  have ej : rbJ sw (8 * a + b) = (if sw then a else b) := by
    cases sw
    · show (8 * a + b) % 8 = b; omega
    · show (8 * a + b) / 8 = a; omega
  have hi : (if sw then b else a) < 8 := by
    cases sw
    · exact ha
    · exact hb
  have hj : (if sw then a else b) < 8 := by
    cases sw
    · exact hb
    · exact ha
  unfold bst rbst rbA
  rw [ei, ej]
  generalize (if sw then b else a) = i at *
  generalize (if sw then a else b) = j at *
  rcases hB i j hi hj with ⟨e1, e2⟩ | ⟨c, c1, c2, e1, e2⟩
  · rw [if_neg (by
      rintro ⟨-, -, q⟩
      apply q
      rw [e1]
      rcases hs with ⟨q1, -⟩ | ⟨i', j', c', k1, k2, k3, k4, rfl, -⟩
      · rw [q1]; decide
      · show (0 : Int32) ≤ nI c'
        rw [i_le, i_0, nI_toInt (by omega)]; omega), if_neg (by rintro ⟨⟨q, -⟩, -⟩; exact q e2)]
    exact hs
  · by_cases fr : f i = -1 ∧ g j = -1
    · obtain ⟨f1, g1⟩ := fr
      have f2 := (relM_f hM hi).mp f1
      have g2 := (relM_g hM hj).mp g1
      have new : scR B be f g (nI c, i, j) (nI (8 * i + j)) := Or.inr ⟨i, j, c, hi, hj, c1, c2, rfl, rfl, f1, g1, e1, e2⟩
      rcases hs with ⟨q1, q2⟩ | ⟨i', j', c', k1, k2, k3, k4, rfl, rfl, k5, k6, k7, k8⟩
      · rw [if_pos ⟨f1, g1, by
          rw [e1, q1, i_le, i_0, nI_toInt (by omega)]; omega⟩, if_pos ⟨⟨by rw [e2]; exact nI_ne_m4 (by omega), f2, g2⟩, Or.inl q2⟩, e1]
        exact new
      · by_cases hc : nI c ≤ nI c'
        · rw [if_neg (by rintro ⟨-, -, q⟩; rw [e1] at q; exact q hc), if_neg (by
            rintro ⟨-, q | q⟩
            · exact nI_ne_m4 (by omega) q
            · rw [nI_clamp (by omega), e2, k8] at q; exact q hc)]
          exact Or.inr ⟨i', j', c', k1, k2, k3, k4, rfl, rfl, k5, k6, k7, k8⟩
        · rw [if_pos ⟨f1, g1, by rw [e1]; exact hc⟩, if_pos ⟨⟨by rw [e2]; exact nI_ne_m4 (by omega), f2, g2⟩, Or.inr (by rw [nI_clamp (by omega), e2, k8]; exact hc)⟩, e1]
          exact new
    · rw [if_neg (by rintro ⟨q1, q2, -⟩; exact fr ⟨q1, q2⟩), if_neg (by rintro ⟨⟨-, q1, q2⟩, -⟩; exact fr ⟨(relM_f hM hi).mpr q1, (relM_g hM hj).mpr q2⟩)]
      exact hs
theorem scR_all {sw : Bool} {B : Nat → Nat → Int32} {be f g h : Nat → Int32} {m0 m1 : Nat} (hB : relBe B be) (hM : relM m0 m1 f g h) : scR B be f g (bScan sw B f g 8) (rScan sw be h 64) := by
  unfold bScan rScan
  rw [show (64 : Nat) = 8 * 8 from rfl, itR_mul]
  exact itR_rel 8 _ _ (Or.inl ⟨rfl, rfl⟩) (fun a s t ha hs => itR_rel 8 _ _ hs (fun b s t hb hs => scR_step hB hM ha hb hs))
theorem rCnt_nx {m0 m1 : Nat} {f g h : Nat → Int32} (H : relM m0 m1 f g h) {i j : Nat} (hi : i < 8) (hj : j < 8) (hf : f i = -1) : rCnt (rNx1 h (8 * i + j)) 8 = rCnt h 8 + 1 := by
  unfold rCnt
  rw [rNx1_eq h hj]
  refine cntB_one (k := i) hi (fun a ha hne => ?_) ?_ ?_
  · rw [upd_n _ _ (by omega), upd_n _ _ hne]
  · exact decide_eq_false (fun c => c ((relM_f H hi).mp hf))
  · rw [upd_n _ _ (by omega), upd_s]
    exact decide_eq_true (nI_ne_m4 (by omega))
theorem pu_rel {sw : Bool} {B : Nat → Nat → Int32} {be : Nat → Int32} {m0 m1 : Nat} (hB : relBe B be) (hp : ∀ a b, a < 8 → b < 8 → ¬ B a b ≤ 0 → a < m0 ∧ b < m1) : ∀ (m k n : Nat) (f g h : Nat → Int32), relM m0 m1 f g h → frN h ≤ m → frN h < n → k = rCnt h 8 →
    relM m0 m1 (pu sw B m k f g).2.1 (pu sw B m k f g).2.2 (rMt sw be n h) ∧ (pu sw B m k f g).1 = rCnt (rMt sw be n h) 8
  | 0, k, n, f, g, h, H, h1, h2, hk => by
    by_cases e : rScan sw be h 64 = -4
    · rw [rMt_stop h2 e]
      exact ⟨H, hk⟩
    · obtain ⟨p, hp64, e1, e2, e3⟩ := rScan_nI sw be h e
      have := frN_nx hp64 e2
      omega
  | m + 1, k, n, f, g, h, H, h1, h2, hk => by
    have hs := scR_all (sw := sw) hB H
    unfold pu
    rcases hs with ⟨q1, q2⟩ | ⟨i, j, c, k1, k2, k3, k4, q1, q2, k5, k6, k7, k8⟩
    · rw [if_pos q1, rMt_stop h2 q2]
      exact ⟨H, hk⟩
    · have hne : ¬ (bScan sw B f g 8).1 = 0 := by
        rw [q1]
        exact nI_nz (by omega) (by omega)
      have h4 : h ((8 * i + j) / 8) = -4 := by
        rw [show (8 * i + j) / 8 = i by omega]
        exact (relM_f H k1).mp k5
      have hlt := frN_nx (h := h) (p := 8 * i + j) (by omega) h4
      rw [if_neg hne, rMt_go h2 q2 (by omega)]
      have hpos := hp i j k1 k2 (by rw [k7, i_le, i_0, nI_toInt (by omega)]; omega)
      have eF : puF sw B f g = upd f i (nI j) := by
        unfold puF
        rw [if_neg hne, q1]
      have eG : puG sw B f g = upd g j (nI i) := by
        unfold puG
        rw [if_neg hne, q1]
      rw [eF, eG]
      exact pu_rel hB hp m (k + 1) (n - 1) _ _ _ (relM_upd H k1 k2 hpos.1 hpos.2 k5 k6) (by omega) (by omega) (by rw [rCnt_nx H k1 k2 k5, hk])
theorem rCnt_0 (h : Nat → Int32) : rCnt (clrF h 16) 8 = 0 := by
  unfold rCnt
  rw [cntB_cut (n := 0) (Nat.zero_le 8) (fun i _ hi => decide_eq_false (fun c => c (if_pos (by omega))))]
  rfl
theorem mts_rel {v : TV} {S : SN} (H : RT v S) (sw : Bool) (p : BC) (b : BN) (M N mt : Nat → Int32) : relM (nM S 0) (nM S 1) (puAll sw (belAll v p).1 M N).2.1 (puAll sw (belAll v p).1 M N).2.2 (rMts sw (rBelAll (nR S) (nN S) (nM S) (nS S) (nKd S) (nX S) (nY S) (nF S) (nT S) b).1 mt) ∧ (puAll sw (belAll v p).1 M N).1 = rCnt (rMts sw (rBelAll (nR S) (nN S) (nM S) (nS S) (nKd S) (nX S) (nY S) (nF S) (nT S) b).1 mt) (nM S 0) := by
  have m0 : sM (tA v) = nM S 0 := H.2.2.1.1.1
  have m1 : sM (tB v) = nM S 1 := H.2.2.1.2.1
  have hp := posB_all v p
  unfold posB at hp
  rw [m0, m1] at hp
  have hle : frN (clrF mt 16) ≤ 8 := cntB_le _ _
  have h := pu_rel (sw := sw) (bel_all H p b) hp 8 0 9 (ngF M 8) (ngF N 8) (clrF mt 16) (relM_0 _ _ _ _ _) hle (by omega) (rCnt_0 mt).symm
  have h8 : nM S 0 ≤ 8 := by
    rw [← m0]
    exact H.2.2.2.1.1.1.1
  refine ⟨h.1, ?_⟩
  unfold puAll rMts
  rw [h.2]
  refine cntB_cut h8 (fun i h1 h2 => decide_eq_false (fun c => ?_))
  rcases h.1.1 i h2 with q | ⟨j, a1, -⟩
  · exact c q.2
  · omega
