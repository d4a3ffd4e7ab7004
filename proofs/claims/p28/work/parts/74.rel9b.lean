/-! ===== comes: triangles and the nearest ===== -/
section CMS
variable {v : TV} {S : SN}
theorem a0_eq (H : RT v S) {a b c : Nat} (ha : a < nM S 0) (hb : b < nM S 0) (hc : c < nM S 0) : svArea (tA v) a b c = rArea (nX S) (nY S) a b c := by
  have m0 : sM (tA v) = nM S 0 := H.2.2.1.1.1
  have h := area_eq H.2.2.1.1 (show a < sM (tA v) by omega) (show b < sM (tA v) by omega) (show c < sM (tA v) by omega)
  rw [show 8 * 0 + a = a by omega, show 8 * 0 + b = b by omega, show 8 * 0 + c = c by omega] at h
  exact h
theorem insB_eq (H : RT v S) {p a b c : Nat} (hp : p < nM S 0) (ha : a < nM S 0) (hb : b < nM S 0) (hc : c < nM S 0) : insB (tA v) p a b c = rIns (nX S) (nY S) p a b c := by
  unfold insB rIns
  rw [a0_eq H hp hb hc, a0_eq H ha hp hc, a0_eq H ha hb hp, a0_eq H ha hb hc, absI_eq, absI_eq, absI_eq, absI_eq]
theorem mat_iff {m0 m1 : Nat} {f g h : Nat → Int32} (hm : relM m0 m1 f g h) {a : Nat} (ha : a < 8) : mtI f (nI a) = -1 ↔ h a = -4 := by
  rw [mtI_at ha]
  exact relM_f hm ha
theorem amB_iff {m0 m1 : Nat} {f g h : Nat → Int32} (hm : relM m0 m1 f g h) {a b c : Nat} (ha : a < 8) (hb : b < 8) (hc : c < 8) : amB f a b c = (decide (¬ h a = -4) && (decide (¬ h b = -4) && decide (¬ h c = -4))) := by
  unfold amB
  simp only [mat_iff hm ha, mat_iff hm hb, mat_iff hm hc]
/-- the search for a triangle -/
def tgR (S : SN) (i : Nat) (h : Nat → Int32) (s : TG) (t : Int32 × Int32) : Prop := (s.1 = 0 ∧ t = (-4, nI 1073741824)) ∨ ∃ a b c, a < b ∧ b < c ∧ c < nM S 0 ∧ s = (farI (rArea (nX S) (nY S) a b c), nI a, nI b, nI c) ∧ t = (nI (64 * a + 8 * b + c), farI (rArea (nX S) (nY S) a b c)) ∧ ¬ farI (rArea (nX S) (nY S) a b c) ≤ 0 ∧ rIns (nX S) (nY S) i a b c = true ∧ ¬ h a = -4 ∧ ¬ h b = -4 ∧ ¬ h c = -4
theorem far_big (H : RT v S) {a b c : Nat} (ha : a < 16) (hb : b < 16) (hc : c < 16) : ¬ nI 1073741824 ≤ farI (rArea (nX S) (nY S) a b c) := by
  have h := (bd_far (area_bd H.2.2.2.2.1.1 H.2.2.2.2.1.2 ha hb hc) (by decide)).1.2
  rw [i_le, nI_toInt (by decide)]
  omega
theorem tg_step (H : RT v S) {M N h : Nat → Int32} (hm : relM (nM S 0) (nM S 1) M N h) {i : Nat} (hi : i < nM S 0) {a b c k : Nat} (ha8 : a < 8) (hb8 : b < 8) (hc8 : c < 8) (hk2 : k = 64 * a + 8 * b + c) {s : TG} {t : Int32 × Int32} (hs : tgR S i h s t) : tgR S i h (if a < b ∧ b < c ∧ c < nM S 0 then tg1 (tA v) M i a b c s else s) (rTg (nM S) (nX S) (nY S) h i a b c k t) := by
  by_cases hg : a < b ∧ b < c ∧ c < nM S 0
  · rw [if_pos hg]
    obtain ⟨g1, g2, g3⟩ := hg
    have eM : rMm (nM S) h a b c = amB M a b c := by
      rw [amB_iff hm ha8 hb8 hc8]
      unfold rMm
      rw [decide_eq_true g1, decide_eq_true g2, decide_eq_true g3]
      rfl
    have eA : absI (svArea (tA v) a b c) = farI (rArea (nX S) (nY S) a b c) := by rw [absI_eq, a0_eq H (by omega) (by omega) g3]
    have eI := insB_eq H hi (show a < nM S 0 by omega) (show b < nM S 0 by omega) g3
    have hbig := far_big H (show a < 16 by omega) (show b < 16 by omega) (show c < 16 by omega)
    unfold tg1 rTg
    have eq : tgOK (tA v) M i a b c s = (rMm (nM S) h a b c && ((decide (¬ farI (rArea (nX S) (nY S) a b c) ≤ 0) && decide (¬ t.2 ≤ farI (rArea (nX S) (nY S) a b c))) && rIns (nX S) (nY S) i a b c)) := by
      unfold tgOK
      rw [eM, eA, eI]
      have e2 : (decide (s.1 = 0) || decide (¬ s.1 ≤ farI (rArea (nX S) (nY S) a b c))) = decide (¬ t.2 ≤ farI (rArea (nX S) (nY S) a b c)) := by
        rcases hs with ⟨q1, rfl⟩ | ⟨a', b', c', k1, k2, k3, rfl, rfl, k4, -⟩
        · rw [decide_eq_true q1, decide_eq_true hbig]; rfl
        · rw [decide_eq_false (p := farI (rArea (nX S) (nY S) a' b' c') = 0) (fun q => k4 (by rw [q]; decide))]
          rfl
      rw [e2]
      cases amB M a b c <;> cases decide (¬ farI (rArea (nX S) (nY S) a b c) ≤ 0) <;> cases decide (¬ t.2 ≤ farI (rArea (nX S) (nY S) a b c)) <;> cases rIns (nX S) (nY S) i a b c <;> rfl
    rw [← eq]
    cases e : tgOK (tA v) M i a b c s with
    | false => exact hs
    | true =>
      rw [eq] at e
      simp only [Bool.and_eq_true, decide_eq_true_eq] at e
      rw [if_pos rfl, if_pos rfl, eA]
      have hl := (rMm_lt e.1).2
      exact Or.inr ⟨a, b, c, g1, g2, g3, rfl, by rw [hk2], e.2.1.1, e.2.2, hl.1, hl.2.1, hl.2.2⟩
  · rw [if_neg hg]
    rw [rTg_f (by
      have : rMm (nM S) h a b c = false := by
        cases e : rMm (nM S) h a b c with
        | false => rfl
        | true => exact absurd (rMm_lt e).1 hg
      rw [this]; rfl)]
    exact hs
theorem tg_rel (H : RT v S) {M N h : Nat → Int32} (hm : relM (nM S 0) (nM S 1) M N h) {i : Nat} (hi : i < nM S 0) (cs : Int32 × Int32 × Int32) : tgR S i h (tgAll (tA v) M i (nI 0, cs)) (rTgS (nM S) (nX S) (nY S) h i 512) := by
  have m0 : sM (tA v) = nM S 0 := H.2.2.1.1.1
  have h8 : nM S 0 ≤ 8 := H.mm 0 (by decide)
  have e0 : tgAll (tA v) M i (nI 0, cs) = itR (fun a s => itF (fun b s => itF (tg1 (tA v) M i a b) (b + 1) (sM (tA v)) s) (a + 1) (sM (tA v)) s) (sM (tA v)) (nI 0, cs) := rfl
  rw [e0, m0, tri_loop (tg1 (tA v) M i) h8]
  have h0 : tgR S i h (nI 0, cs) (-4, nI 1073741824) := Or.inl ⟨nI_0, rfl⟩
  have hstep : ∀ k s t, k < 512 → tgR S i h s t → tgR S i h (if k / 64 < k / 8 % 8 ∧ k / 8 % 8 < k % 8 ∧ k % 8 < nM S 0 then tg1 (tA v) M i (k / 64) (k / 8 % 8) (k % 8) s else s) (rTgK (nM S) (nX S) (nY S) h i k t) := fun k s t hk hs => tg_step H hm hi (by omega) (by omega) (by omega) (by omega) hs
  generalize (512 : Nat) = n at *
  unfold rTgS
  exact itR_rel n _ _ h0 hstep
/-- the nearest that is matched -/
def nrR (S : SN) (p : Nat) (h : Nat → Int32) (s : Int32 × Int32) (b : Int32) : Prop := (s.1 = -1 ∧ b = -4) ∨ ∃ j, j < nM S 0 ∧ s = (nI j, rDist (nX S) (nY S) p j) ∧ b = nI j ∧ ¬ h j = -4
theorem nr_c (xo yo h : Nat → Int32) (p k : Nat) {s : Int32 × Int32} {t : Int32} {S : SN} (h8 : nM S 0 ≤ 8) (hs : nrR S p h s t) : (decide (s.1 = -1) || decide (¬ s.2 ≤ rDist (nX S) (nY S) p k)) = (decide (t = -4) || decide (¬ rDist (nX S) (nY S) p t.toNatClampNeg ≤ rDist (nX S) (nY S) p k)) := by
  rcases hs with ⟨q1, q2⟩ | ⟨j, k1, rfl, rfl, k2⟩
  · rw [decide_eq_true q1, decide_eq_true q2, Bool.true_or, Bool.true_or]
  · have n1 : ¬ nI j = -1 := nI_ne_m1 (by omega)
    have n4 : ¬ nI j = -4 := nI_ne_m4 (by omega)
    rw [decide_eq_false n4, nI_clamp (by omega)]
    generalize rDist (nX S) (nY S) p j = D at *
    generalize rDist (nX S) (nY S) p k = F at *
    rw [show (decide ((nI j, D).1 = -1)) = false from decide_eq_false n1]
theorem nr_step (H : RT v S) {M N h : Nat → Int32} (hm : relM (nM S 0) (nM S 1) M N h) {p k : Nat} (hp : p < nM S 0) (hk : k < nM S 0) {s : Int32 × Int32} {t : Int32} (hs : nrR S p h s t) : nrR S p h (nr1 (tA v) M p k s) (rNr1 (nX S) (nY S) h p k t) := by
  have m0 : sM (tA v) = nM S 0 := H.2.2.1.1.1
  have h8 : nM S 0 ≤ 8 := H.mm 0 (by decide)
  have eS : sqS (tA v) k p = rDist (nX S) (nY S) p k := sqS_eq H.2.2.1.1 (by omega) (by omega)
  have e1 := nr_c (nX S) (nY S) h p k h8 hs
  have e2 : decide (¬ mtI M (nI k) = -1) = decide (¬ h k = -4) := by simp only [mat_iff hm (show k < 8 by omega)]
  have eq : ((decide (s.1 = -1) || decide (¬ s.2 ≤ sqS (tA v) k p)) && decide (¬ mtI M (nI k) = -1)) = (decide (¬ h k = -4) && (decide (t = -4) || decide (¬ rDist (nX S) (nY S) p t.toNatClampNeg ≤ rDist (nX S) (nY S) p k))) := by
    rw [eS, e1, e2, Bool.and_comm]
  cases e : (decide (¬ h k = -4) && (decide (t = -4) || decide (¬ rDist (nX S) (nY S) p t.toNatClampNeg ≤ rDist (nX S) (nY S) p k))) with
  | false =>
    rw [rNr1_f e, nr1_f (eq.trans e)]
    exact hs
  | true =>
    rw [rNr1_t e, nr1_t (eq.trans e), eS]
    simp only [Bool.and_eq_true, decide_eq_true_eq] at e
    exact Or.inr ⟨k, hk, rfl, rfl, e.1⟩
theorem nr_rel (H : RT v S) {M N h : Nat → Int32} (hm : relM (nM S 0) (nM S 1) M N h) {p : Nat} (hp : p < nM S 0) : nrR S p h (nrAll (tA v) M p (sM (tA v))) (rNrS (nX S) (nY S) h p (nM S 0)) := by
  have m0 : sM (tA v) = nM S 0 := H.2.2.1.1.1
  unfold nrAll rNrS
  rw [m0]
  exact itR_rel _ _ _ (Or.inl ⟨rfl, rfl⟩) (fun k s t hk hs => nr_step H hm hp hk hs)
/-- the place that a meeting comes to -/
theorem mt_at (H : RT v S) {M N h : Nat → Int32} (hm : relM (nM S 0) (nM S 1) M N h) {a : Nat} (ha : a < 8) (hn : ¬ h a = -4) : ∃ j, j < nM S 1 ∧ j < 8 ∧ mtN M a = j ∧ rmN h a = j ∧ sX (tB v) j = nX S (8 + j) ∧ sY (tB v) j = nY S (8 + j) := by
  have m1 : sM (tB v) = nM S 1 := H.2.2.1.2.1
  rcases hm.1 a ha with q | ⟨j, k1, k2, k3, k4, k5, -⟩
  · exact absurd q.2 hn
  · obtain ⟨-, e1, e2⟩ := H.2.2.1.2.2.2.1 j (by omega)
    refine ⟨j, k2, k3, ?_, ?_, e1, e2⟩
    · unfold mtN
      rw [mtI_at ha, k4, nI_clamp (by omega)]
    · unfold rmN
      rw [k5, nI_clamp (by omega)]
theorem own_at (H : RT v S) {a : Nat} (ha : a < nM S 0) : sX (tA v) a = nX S a ∧ sY (tA v) a = nY S a := by
  have m0 : sM (tA v) = nM S 0 := H.2.2.1.1.1
  obtain ⟨-, e1, e2⟩ := H.2.2.1.1.2.2.1 a (by omega)
  rw [show 8 * 0 + a = a by omega] at e1 e2
  exact ⟨e1, e2⟩
/-- top and bottom -/
def cmR (R : TR) (p0 p1 : Int32 × Int32) : Prop := R.1 = p0.1 ∧ R.2.1 = p1.1 ∧ R.2.2.1 = p0.2 ∧ R.2.2.1 = p1.2 ∧ bd 2000000000 p0.1 ∧ bd 2000000000 p1.1 ∧ ∃ z, 1 ≤ z ∧ z < 2 ^ 31 ∧ R.2.2.1 = nI z
theorem cm_rel (H : RT v S) {M N h : Nat → Int32} (hm : relM (nM S 0) (nM S 1) M N h) {p : Nat} (hp : p < nM S 0) (w : TR) : cmR (trFind v M p w) (rCm (nX S) (nX S) (nY S) (nM S) h p) (rCm (nY S) (nX S) (nY S) (nM S) h p) := by
  have h8 : nM S 0 ≤ 8 := H.mm 0 (by decide)
  have hx := H.2.2.2.2.1.1
  have hy := H.2.2.2.2.1.2
  unfold trFind
  by_cases e : h p = -4
  · rw [if_neg (fun c => c ((mat_iff hm (show p < 8 by omega)).mpr e))]
    have ht := tg_rel H hm hp w.2.2.2
    generalize tgAll (tA v) M p (nI 0, w.2.2.2) = T at *
    rcases ht with ⟨q1, q2⟩ | ⟨a, b, c, k1, k2, k3, rfl, q2, k4, k5, k6, k7, k8⟩
    · rw [if_neg (by rw [q1]; exact fun c => c (by decide))]
      have q3 : (rTgS (nM S) (nX S) (nY S) h p 512).1 = -4 := by rw [q2]
      have hn := nr_rel H hm hp
      have o1 := own_at H hp
      generalize nrAll (tA v) M p (sM (tA v)) = U at *
      rcases hn with ⟨u1, u2⟩ | ⟨j, j1, rfl, u2, u3⟩
      · rw [if_pos u1, rCm_0 e q3 u2, rCm_0 e q3 u2, o1.1, o1.2]
        have z0 : ∀ x : Int32, x + nI 0 = x := fun x => by rw [nI_0]; simp
        refine ⟨(z0 _).symm, (z0 _).symm, rfl, rfl, ?_, ?_, 1, by decide, by decide, rfl⟩
        · show bd _ (nX S p + nI 0)
          rw [z0]; exact bd_mono (okXY_bd hx (by omega)) (by decide)
        · show bd _ (nY S p + nI 0)
          rw [z0]; exact bd_mono (okXY_bd hy (by omega)) (by decide)
      · obtain ⟨m, n1, n2, n3, n4, n5, n6⟩ := mt_at H hm (show j < 8 by omega) u3
        have o2 := own_at H j1
        rw [if_neg (nI_ne_m1 (show j < 2 ^ 31 by omega)), rCm_n e q3 u2 (by omega), rCm_n e q3 u2 (by omega)]
        show cmR (sX (tA v) p + (sX (tB v) (mtN M (nI j).toNatClampNeg) - sX (tA v) (nI j).toNatClampNeg), sY (tA v) p + (sY (tB v) (mtN M (nI j).toNatClampNeg) - sY (tA v) (nI j).toNatClampNeg), nI 1, T.2) _ _
        rw [nI_clamp (by omega), n3, n4, n5, n6, o1.1, o1.2, o2.1, o2.2]
        refine ⟨rfl, rfl, rfl, rfl, ?_, ?_, 1, by decide, by decide, rfl⟩
        · exact bd_mono (bd_add (okXY_bd hx (show p < 16 by omega)) (bd_sub (okXY_bd hx (show 8 + m < 16 by omega)) (okXY_bd hx (show j < 16 by omega)) (by decide)).1 (by decide)).1 (by decide)
        · exact bd_mono (bd_add (okXY_bd hy (show p < 16 by omega)) (bd_sub (okXY_bd hy (show 8 + m < 16 by omega)) (okXY_bd hy (show j < 16 by omega)) (by decide)).1 (by decide)).1 (by decide)
    · have q3 : (rTgS (nM S) (nX S) (nY S) h p 512).1 = nI (64 * a + 8 * b + c) := by rw [q2]
      rw [if_pos k4, rCm_t e q3 (by omega), rCm_t e q3 (by omega), show (64 * a + 8 * b + c) / 64 = a by omega, show (64 * a + 8 * b + c) / 8 % 8 = b by omega, show (64 * a + 8 * b + c) % 8 = c by omega]
      show cmR (blV (sX (tB v)) v M p (nI a).toNatClampNeg (nI b).toNatClampNeg (nI c).toNatClampNeg, blV (sY (tB v)) v M p (nI a).toNatClampNeg (nI b).toNatClampNeg (nI c).toNatClampNeg, blD v p (nI a).toNatClampNeg (nI b).toNatClampNeg (nI c).toNatClampNeg, _) _ _
      rw [nI_clamp (show a < 2 ^ 31 by omega), nI_clamp (show b < 2 ^ 31 by omega), nI_clamp (show c < 2 ^ 31 by omega)]
      obtain ⟨i1, a1, a2, a3, a4, a5, a6⟩ := mt_at H hm (show a < 8 by omega) k6
      obtain ⟨i2, b1, b2, b3, b4, b5, b6⟩ := mt_at H hm (show b < 8 by omega) k7
      obtain ⟨i3, c1, c2, c3, c4, c5, c6⟩ := mt_at H hm (show c < 8 by omega) k8
      have eA : wtA v p b c = farI (rArea (nX S) (nY S) p b c) := by unfold wtA; rw [absI_eq, a0_eq H hp (by omega) (by omega)]
      have eB : wtB v p a c = farI (rArea (nX S) (nY S) a p c) := by unfold wtB; rw [absI_eq, a0_eq H (by omega) hp (by omega)]
      have eC : wtC v p a b = farI (rArea (nX S) (nY S) a b p) := by unfold wtC; rw [absI_eq, a0_eq H (by omega) (by omega) hp]
      have eX : blV (sX (tB v)) v M p a b c = rSm (nX S) (nX S) (nY S) h p a b c := by
        unfold blV rSm
        rw [eA, eB, eC, a3, b3, c3, a4, b4, c4, a5, b5, c5]
      have eY : blV (sY (tB v)) v M p a b c = rSm (nY S) (nX S) (nY S) h p a b c := by
        unfold blV rSm
        rw [eA, eB, eC, a3, b3, c3, a4, b4, c4, a6, b6, c6]
      have eD : blD v p a b c = farI (rArea (nX S) (nY S) a b c) := by
        unfold blD
        rw [eA, eB, eC]
        exact of_decide_eq_true k5
      have hb := bd_far (area_bd hx hy (show a < 16 by omega) (show b < 16 by omega) (show c < 16 by omega)) (by decide)
      have h0 := far_nn (area_bd hx hy (show a < 16 by omega) (show b < 16 by omega) (show c < 16 by omega)) (by decide)
      obtain ⟨z, hz, ez⟩ := nI_of h0
      rw [eX, eY, eD]
      refine ⟨rfl, rfl, rfl, rfl, ?_, ?_, z, ?_, hz, ez⟩
      · unfold rSm
        rw [a4, b4, c4]
        exact bd_mono (rSm_bd (mt := h) hx hx hy (show p < 16 by omega) (show a < 16 by omega) (show b < 16 by omega) (show c < 16 by omega) (show 8 + i1 < 16 by omega) (show 8 + i2 < 16 by omega) (show 8 + i3 < 16 by omega)) (by decide)
      · unfold rSm
        rw [a4, b4, c4]
        exact bd_mono (rSm_bd (mt := h) hy hx hy (show p < 16 by omega) (show a < 16 by omega) (show b < 16 by omega) (show c < 16 by omega) (show 8 + i1 < 16 by omega) (show 8 + i2 < 16 by omega) (show 8 + i3 < 16 by omega)) (by decide)
      · rw [ez, i_le, i_0, nI_toInt hz] at k4
        omega
  · obtain ⟨j, j1, j2, j3, j4, j5, j6⟩ := mt_at H hm (show p < 8 by omega) e
    rw [if_pos (fun c => e ((mat_iff hm (show p < 8 by omega)).mp c)), rCm_m e, rCm_m e, j3, j4, j5, j6]
    exact ⟨rfl, rfl, rfl, rfl, bd_mono (okXY_bd hx (show 8 + j < 16 by omega)) (by decide), bd_mono (okXY_bd hy (show 8 + j < 16 by omega)) (by decide), 1, by decide, by decide, rfl⟩
theorem red_bot {x : Int32} {z : Nat} (y : Int32) (hy : bd 2000000000 y) (hz : 1 ≤ z) (hz2 : z < 2 ^ 31) : redV x y (nI z) = x / nI (rGc y (nI z)) := red_eq hy hz hz2
theorem cms_eq {R : TR} {p0 p1 : Int32 × Int32} (h : cmR R p0 p1) (q : Int32) : cmsV v R q = if inR q (nI 0) (nI 3) then rCv q p0 p1 else -1 := by
  obtain ⟨h1, h2, h3, h4, h5, h6, z, hz, hz2, h7⟩ := h
  unfold cmsV
  by_cases c : inR q (nI 0) (nI 3) = true
  · rw [if_pos c, h1, h2]
    unfold rCv rCx rCy
    rw [← h3, ← h4, h7, red_bot _ h5 hz hz2, red_bot _ h5 hz hz2, red_bot _ h6 hz hz2, red_bot _ h6 hz hz2, Int32.add_comm (nI 100000), Int32.add_comm (nI 100000)]
    by_cases q0 : q = nI 0
    · rw [if_pos q0, if_pos q0]
    · rw [if_neg q0, if_neg q0]
      by_cases q1 : q = nI 1
      · rw [if_pos q1, if_pos q1]
      · rw [if_neg q1, if_neg q1]
        by_cases q2 : q = nI 2
        · rw [if_pos q2, if_pos q2]
        · rw [if_neg q2, if_neg q2]
          obtain ⟨j, hj, rfl⟩ := inR_nI c (by decide)
          have hj3 : j = 3 := by
            rcases (show j = 0 ∨ j = 1 ∨ j = 2 ∨ j = 3 by omega) with rfl | rfl | rfl | rfl
            · exact absurd rfl q0
            · exact absurd rfl q1
            · exact absurd rfl q2
            · rfl
          rw [hj3, if_pos rfl]
  · rw [if_neg c]
    have c : inR q (nI 0) (nI 3) = false := by simpa using c
    have hq := inR_f5 c (by decide)
    rw [if_neg (hq 0 (by decide)), if_neg (hq 1 (by decide)), if_neg (hq 2 (by decide)), if_neg (hq 3 (by decide))]
theorem R_comes (H : RT v S) (p : BC) (b : BN) (M N mt : Nat → Int32) (uv : TR) (i q : Int32) : (if hasM v (nI 0) i then cmsV v (trFind v (mkP v p M N).2.1 i.toNatClampNeg uv) q else -1) = (if (hasR (nM S) (nI 0) i && inR q (nI 0) (nI 3)) then rCv q (rCm (nX S) (nX S) (nY S) (nM S) (mtS S b mt) i.toNatClampNeg) (rCm (nY S) (nX S) (nY S) (nM S) (mtS S b mt) i.toNatClampNeg) else -1) := by
  rw [← hasM_eq H]
  by_cases c : hasM v (nI 0) i = true
  · obtain ⟨g, j, ⟨-, ez, hr, hg, -⟩, e1, hj, e2, h8, -⟩ := hasM_ex H c
    have hj : j < sM (tA v) := hj
    have m0 : sM (tA v) = nM S 0 := H.2.2.1.1.1
    rw [if_pos c, c, e2, Bool.true_and]
    have hc := cm_rel H (mts_S H p b M N mt) (show j < nM S 0 by omega) uv
    generalize trFind v (mkP v p M N).2.1 j uv = R at *
    generalize rCm (nX S) (nX S) (nY S) (nM S) (mtS S b mt) j = P0 at *
    generalize rCm (nY S) (nX S) (nY S) (nM S) (mtS S b mt) j = P1 at *
    exact cms_eq hc q
  · rw [if_neg c, if_neg (by simp only [Bool.and_eq_true]; exact fun h => c h.1)]
end CMS
