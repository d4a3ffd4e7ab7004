/-! ===== kept, tuned, cut, moved, undone: small rows ===== -/
theorem RV_copy {v : TV} (h : RV v) (x : TV) : RV (tCopy v x) := by
  obtain ⟨S, H⟩ := h
  exact ⟨S, RT1_copy H⟩
theorem de_copy {v : TV} {d e : Nat → Int32} (h : DE v d e) (x : TV) : DE (tCopy v x) d e := ⟨RT1_copy h.1, h.2.1, h.2.2.1, h.2.2.2⟩
theorem de_uni {v v' : TV} {d e : Nat → Int32} (h : DE v d e) (h' : DE v' d e) : dSN v d e = dSN v' d e := by
  have hn : tN v = tN v' := by
    have a := h.ok.2.2
    have b := h'.ok.2.2
    have c := h.2.2.1.symm.trans h'.2.2.1
    exact n_eq (by omega) (by omega) c
  have hg : ∀ g, g < 2 → mmV v g = mmV v' g ∧ ssV v g = ssV v' g := fun g hg => by
    have a1 := h.ok.mm g
    have a2 := h'.ok.mm g
    have b1 := h.ok.ss g
    have b2 := h'.ok.ss g
    exact ⟨n_eq (by omega) (by omega) ((h.2.1 g hg).1.symm.trans (h'.2.1 g hg).1), n_eq (by omega) (by omega) ((h.2.1 g hg).2.symm.trans (h'.2.1 g hg).2)⟩
  have hm : mmV v = mmV v' := by
    funext g
    by_cases q : g = 0
    · subst q; exact (hg 0 (by decide)).1
    · have := (hg 1 (by decide)).1
      unfold mmV at this ⊢
      rw [if_neg q, if_neg q]
      exact this
  have hs : ssV v = ssV v' := by
    funext g
    by_cases q : g = 0
    · subst q; exact (hg 0 (by decide)).2
    · have := (hg 1 (by decide)).2
      unfold ssV at this ⊢
      rw [if_neg q, if_neg q]
      exact this
  unfold dSN
  rw [hn, hm, hs]
theorem mt_uni {v v' : TV} {d e : Nat → Int32} (h : DE v d e) (h' : DE v' d e) : mtC (cM v) (sM (tA v)) = mtC (cM v') (sM (tA v')) := by
  obtain ⟨-, -, a⟩ := cM_rel h.rv
  obtain ⟨-, -, b⟩ := cM_rel h'.rv
  have a2 : (mkP v p00 zf zf).1 = rCnt (mtS (dSN v d e) b00 zf) (nM (dSN v d e) 0) := by unfold mkP; exact (mts_rel h.1.1 false p00 b00 zf zf zf).2
  have b2 : (mkP v' p00 zf zf).1 = rCnt (mtS (dSN v' d e) b00 zf) (nM (dSN v' d e) 0) := by unfold mkP; exact (mts_rel h'.1.1 false p00 b00 zf zf zf).2
  have hu := de_uni h h'
  rw [← a, ← b, a2, b2, hu]
theorem rv_cut {v : TV} (h : RV v) {i : Nat} (hi : i < sS (tA v)) : RV (tPut v (nI 0) (svDrop (tA v) i)) := by
  obtain ⟨S, H, h1, h2⟩ := h
  obtain ⟨q1, q2⟩ := drop_ok (H.2.2.1.1) (H.2.2.2.1.1) hi
  have hn : sS (tA v) = nS S 0 := H.2.2.1.1.2.1
  have h8 : sS (tA v) ≤ 8 := H.2.2.2.1.1.1.2
  refine ⟨_, RT_put H (inS_0 H) q1 q2 (same_drop (by decide) (by omega) (by omega) _) H.2.2.2.2.1 rfl rfl, ?_⟩
  rw [tPut_0]
  exact ⟨h1, h2⟩
theorem rv_tune {v : TV} (h : RV v) : RV (tA v, tB v, tR v, 0) := by
  obtain ⟨S, ⟨a1, a2, a3, a4, a5, a6, a7⟩, h1⟩ := h
  exact ⟨(nR S, 0, nM S, nS S, nKd S, nX S, nY S, nF S, nT S, nNm S), ⟨a1, rfl, a3, a4, a5, a6, Nat.zero_le _⟩, h1⟩
theorem tn_0 {v : TV} (h : 0 < tN v) (h3 : tN v ≤ 3) : tnV v (nI 1) (nI 0) = nI (tN v) ∧ tnB v (nI 1) (nI 0) = true ∧ tnT v (nI 1) (nI 0) = (tA v, tB v, tR v, 0) := by
  have hne : ¬ nI (tN v) = nI 0 := fun q => by have := n_eq (by omega) (by omega) q; omega
  have ha : tnA (nI 1) (nI 0) = true := by decide
  have hb : tnB v (nI 1) (nI 0) = true := by
    unfold tnB
    rw [ha, if_neg (show ¬ nI 1 = 0 by decide), decide_eq_true hne]
    rfl
  refine ⟨?_, hb, ?_⟩
  · unfold tnV
    rw [if_pos ha, if_pos hb, if_neg (show ¬ nI 1 = 0 by decide)]
  · unfold tnT
    rw [if_pos hb, if_neg (show ¬ nI 1 = 0 by decide)]
    unfold tSetN
    rw [if_pos (show inR (nI 0) (nI 0) (nI 3) = true by decide)]
    rfl
theorem ct_0 {v : TV} (h : okT v) {i : Nat} (hi : i < sS (tA v)) : hasS v (nI 0) (nI i) = true ∧ ctV v (nI 0) (nI i) = nI (sS (tA v) - 1) := by
  have h8 := h.1.2
  have hs : hasS v (nI 0) (nI i) = true := by rw [hasS_d h (by decide) (by omega)]; exact decide_eq_true (show i < ssV v 0 from hi)
  refine ⟨hs, ?_⟩
  unfold ctV
  rw [if_pos hs, svOf_0]
/-- a meeting of survey 0 is moved elsewhere, and back -/
theorem mv_0 {v : TV} (h : okT v) {i x y X Y : Nat} (hi : i < sM (tA v)) (hx : x ≤ 60) (hy : y ≤ 60) (eX : sX (tA v) i = nI X) (eY : sY (tA v) i = nI Y) (hX : X ≤ 60) (hY : Y ≤ 60) :
    mvB v (nI 0) (nI i) (nI x) (nI y) = decide (¬ (X = x ∧ Y = y)) ∧ mvV v (nI 0) (nI i) (nI x) (nI y) = if X = x ∧ Y = y then -2 else nI 1 := by
  have h8 := h.1.1
  have ha : mvA v (nI 0) (nI i) (nI x) (nI y) = true := by
    unfold mvA
    rw [hasM_d h (by decide) (by omega), inR_t ⟨Nat.zero_le _, hx⟩ (by decide), inR_t ⟨Nat.zero_le _, hy⟩ (by decide), decide_eq_true (show i < mmV v 0 from hi)]
    rfl
  have hb : mvB v (nI 0) (nI i) (nI x) (nI y) = decide (¬ (X = x ∧ Y = y)) := by
    unfold mvB
    rw [ha, Bool.true_and, svOf_0, nI_clamp (show i < 2 ^ 31 by omega), eX, eY]
    by_cases q : X = x ∧ Y = y
    · rw [decide_eq_false (show ¬ ¬ (X = x ∧ Y = y) from fun n => n q), decide_eq_false (show ¬ ¬ (nI X = nI x ∧ nI Y = nI y) from fun n => n ⟨by rw [q.1], by rw [q.2]⟩)]
    · rw [decide_eq_true q, decide_eq_true (show ¬ (nI X = nI x ∧ nI Y = nI y) from fun n => q ⟨n_eq (by omega) (by omega) n.1, n_eq (by omega) (by omega) n.2⟩)]
  refine ⟨hb, ?_⟩
  unfold mvV
  rw [if_pos ha, hb]
  by_cases q : X = x ∧ Y = y
  · rw [if_neg (by rw [decide_eq_false (show ¬ ¬ (X = x ∧ Y = y) from fun n => n q)]; decide), if_pos q]
  · rw [if_pos (decide_eq_true q), if_neg q]
theorem rn_0 {v : TV} (h : okT v) {i c K : Nat} (hi : i < sM (tA v)) (hc : c ≤ 3) (eK : sKd (tA v) i = nI K) (hK : K ≤ 3) (hne : ¬ K = c) : rnB v (nI 0) (nI i) (nI c) = true ∧ rnV v (nI 0) (nI i) (nI c) = nI K := by
  have h8 := h.1.1
  have ha : rnA v (nI 0) (nI i) (nI c) = true := by
    unfold rnA
    rw [hasM_d h (by decide) (by omega), inR_t ⟨Nat.zero_le _, hc⟩ (by decide), decide_eq_true (show i < mmV v 0 from hi)]
    rfl
  have hb : rnB v (nI 0) (nI i) (nI c) = true := by
    unfold rnB
    rw [ha, Bool.true_and, svOf_0, nI_clamp (show i < 2 ^ 31 by omega), eK]
    exact decide_eq_true (fun n => hne (n_eq (by omega) (by omega) n))
  refine ⟨hb, ?_⟩
  unfold rnV
  rw [if_pos ha, if_pos hb, svOf_0, nI_clamp (show i < 2 ^ 31 by omega), eK]
/-! shelves -/
theorem th_m {v : TV} (h : okT v) {i : Nat} (hi : i < sM (tA v)) : hasTh v (nI i) = true := by
  have h8 := h.1.1
  unfold hasTh
  rw [inR_t ⟨Nat.zero_le _, (show i ≤ 15 by omega)⟩ (by decide), if_neg (show ¬ nI 8 ≤ nI i from fun q => by have := n_le (by omega) (by omega) q; omega), hasM_d h (by decide) (by omega), decide_eq_true (show i < mmV v 0 from hi)]
  rfl
theorem th_8 {v : TV} (h : okT v) : hasTh v (nI 8) = decide (0 < sS (tA v)) := by
  unfold hasTh
  rw [inR_t ⟨by decide, by decide⟩ (by decide), if_pos (by decide), show nI 8 - nI 8 = nI 0 from by decide, hasS_d h (by decide) (by decide), Bool.true_and]
  rfl
theorem sh_in {s p : Nat} (hs : s ≤ 2) (hp : p ≤ 3) : (inR (nI s) (nI 0) (nI 2) && inR (nI p) (nI 0) (nI 3)) = true := by
  rw [inR_t ⟨Nat.zero_le _, hs⟩ (by decide), inR_t ⟨Nat.zero_le _, hp⟩ (by decide)]
  rfl
/-- shelve: the answer, the shelves -/
theorem sh_t {v : TV} {f : Nat → Int32} {s p : Nat} {x : Int32} (hs : s ≤ 2) (hp : p ≤ 3) (hx : hasTh v x = true) (ht : shTakes (nI s) x = true) : shV v (nI s) (nI p) x = nI 1 ∧ shF2 v f (nI s) (nI p) x = upd f (s * 4 + p) x := by
  have ha : shA v (nI s) (nI p) x = true := by unfold shA; rw [sh_in hs hp, hx]; rfl
  have hb : shB v (nI s) (nI p) x = true := by unfold shB; rw [ha, ht]; rfl
  unfold shV shF2
  rw [if_pos ha, if_pos hb, if_pos hb, nI_clamp (show s < 2 ^ 31 by omega), nI_clamp (show p < 2 ^ 31 by omega)]
  exact ⟨rfl, rfl⟩
theorem sh_f {v : TV} {f : Nat → Int32} {s p : Nat} {x : Int32} (hs : s ≤ 2) (hp : p ≤ 3) (hx : hasTh v x = true) (ht : shTakes (nI s) x = false) : shV v (nI s) (nI p) x = -2 ∧ shF2 v f (nI s) (nI p) x = f := by
  have ha : shA v (nI s) (nI p) x = true := by unfold shA; rw [sh_in hs hp, hx]; rfl
  have hb : ¬ shB v (nI s) (nI p) x = true := by unfold shB; rw [ha, ht]; decide
  unfold shV shF2
  rw [if_pos ha, if_neg hb, if_neg hb]
  exact ⟨rfl, rfl⟩
theorem sh_b {v : TV} {f : Nat → Int32} {s p x : Int32} (hx : hasTh v x = false) : shV v s p x = -1 ∧ shF2 v f s p x = f := by
  have ha : ¬ shA v s p x = true := by unfold shA; rw [hx, Bool.and_false]; decide
  have hb : ¬ shB v s p x = true := by unfold shB; rw [show shA v s p x = false from by cases q : shA v s p x; rfl; exact absurd q ha, Bool.false_and]; decide
  unfold shV shF2
  rw [if_neg ha, if_neg hb]
  exact ⟨rfl, rfl⟩
theorem sf_at {f : Nat → Int32} {s p : Nat} (hs : s ≤ 2) (hp : p ≤ 3) : sfV f (nI s) (nI p) = f (s * 4 + p) := by
  unfold sfV
  rw [if_pos (sh_in hs hp), nI_clamp (show s < 2 ^ 31 by omega), nI_clamp (show p < 2 ^ 31 by omega)]
theorem tk_m {s i : Nat} (hi : i < 8) : shTakes (nI 0) (nI i) = true ∧ shTakes (nI 1) (nI i) = false ∧ shTakes (nI 2) (nI i) = true := by
  have h : nI i < nI 8 := (nI_ltI (by omega) (by decide)).mpr hi
  unfold shTakes
  rw [decide_eq_false (show ¬ ¬ nI i < nI 8 from fun n => n h)]
  decide
theorem cnt_two {p : Nat → Bool} {n a b : Nat} (ha : a < b) (hb : b < n) (h1 : p a = true) (h2 : p b = true) : 2 ≤ cntB p n := by
  have mono : ∀ {m k : Nat}, m ≤ k → cntB p m ≤ cntB p k := fun {m k} h => by
    induction k with
    | zero => rw [show m = 0 by omega]; exact Nat.le_refl _
    | succ k ih =>
      by_cases q : m = k + 1
      · rw [q]; exact Nat.le_refl _
      · have := ih (by omega)
        show cntB p m ≤ cntB p k + (if p k then 1 else 0)
        omega
  have a1 := mono (m := a + 1) (k := b) (by omega)
  have b1 := mono (m := b + 1) (k := n) (by omega)
  have a2 := cntB_t h1
  have b2 := cntB_t h2
  omega
theorem upT_s (f : Nat → TV) (k : Nat) (x : TV) : upT f k x k = x := if_pos rfl
theorem upT_n (f : Nat → TV) {i k : Nat} (x : TV) (h : i ≠ k) : upT f k x i = f i := if_neg h
