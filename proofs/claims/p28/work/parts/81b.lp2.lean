/-! ===== acts: what the law tells and what the class does ===== -/
theorem RT_congr {v : TV} {S S' : SN} (h : RT v S) (e1 : nR S' = nR S) (e2 : nN S' = nN S) (h0 : sameB S S' 0) (h1 : sameB S S' 1) (hx : okXY (nX S')) (hy : okXY (nY S')) : RT v S' := by
  obtain ⟨a1, a2, ⟨a3, a4⟩, ⟨a5, a6⟩, a7, a8, a9⟩ := h
  exact ⟨a1.trans e1.symm, a2.trans e2.symm, ⟨a3.same a5.1 h0, a4.same a6.1 h1⟩, ⟨a5, a6⟩, ⟨hx, hy⟩, a8, a9⟩
theorem mm_put (v : TV) {g : Nat} (hg : g < 2) (w : SV) (g' : Nat) (hg' : g' < 2) : mmV (tPut v (nI g) w) g' = if g' = g then sM w else mmV v g' := by
  rcases (show g = 0 ∨ g = 1 by omega) with rfl | rfl <;> rcases (show g' = 0 ∨ g' = 1 by omega) with rfl | rfl <;> rfl
theorem ss_put (v : TV) {g : Nat} (hg : g < 2) (w : SV) (g' : Nat) (hg' : g' < 2) : ssV (tPut v (nI g) w) g' = if g' = g then sS w else ssV v g' := by
  rcases (show g = 0 ∨ g = 1 by omega) with rfl | rfl <;> rcases (show g' = 0 ∨ g' = 1 by omega) with rfl | rfl <;> rfl
theorem tN_put (v : TV) (z : Int32) (w : SV) : tN (tPut v z w) = tN v ∧ tR (tPut v z w) = tR v := by
  unfold tPut
  split <;> exact ⟨rfl, rfl⟩
theorem xy_of {f : Nat → Int32} (h : ∀ k, k < 16 → ∃ j, j ≤ 60 ∧ f k = nI j) : okXY f := h
/-- one survey's new state, the law's rows with it -/
theorem DE_put {v : TV} {d e d' e' : Nat → Int32} (h : DE v d e) {g : Nat} (hg : g < 2) {w' : SV} {S1 : SN} (hr : relS w' g S1) (hgd : goodS w') (hm : 1 ≤ sM w') (hb : sameB (dSN v d e) S1 (1 - g)) (hx : okXY (nX S1) ∧ okXY (nY S1)) (e1 : nR S1 = e 52) (e2 : nN S1 = tN v)
    (h52 : e' 52 = e 52) (h53 : e' 53 = e 53) (hd : ∀ k, k < 16 → d' k = nKd S1 k ∧ d' (16 + k) = nX S1 k ∧ d' (32 + k) = nY S1 k ∧ e' k = nF S1 k ∧ e' (16 + k) = nT S1 k ∧ e' (32 + k) = nNm S1 k)
    (hc : ∀ g', g' < 2 → e' (48 + g') = nI (if g' = g then sM w' else mmV v g') ∧ e' (50 + g') = nI (if g' = g then sS w' else ssV v g')) (hk : ∀ k, k < 16 → ∃ c, c ≤ 3 ∧ d' k = nI c) : DE (tPut v (nI g) w') d' e' := by
  have H1 := RT_put h.1.1 (h.inS hg) hr hgd hb hx e1 e2
  have hM := tPut_M (h.inS hg) ⟨h.1.2.1, h.1.2.2⟩ hm
  have hmm : ∀ g', g' < 2 → nM (dSN (tPut v (nI g) w') d' e') g' = nM S1 g' ∧ nS (dSN (tPut v (nI g) w') d' e') g' = nS S1 g' := fun g' hg' => by
    show mmV _ g' = _ ∧ ssV _ g' = _
    rw [mm_put v hg w' g' hg', ss_put v hg w' g' hg']
    by_cases q : g' = g
    · subst q
      rw [if_pos rfl, if_pos rfl]
      exact ⟨hr.1, hr.2.1⟩
    · rw [if_neg q, if_neg q]
      have q2 : g' = 1 - g := by omega
      subst q2
      exact ⟨hb.1.symm, hb.2.1.symm⟩
  have hs : ∀ g', g' < 2 → sameB S1 (dSN (tPut v (nI g) w') d' e') g' := fun g' hg' => by
    refine ⟨(hmm g' hg').1, (hmm g' hg').2, fun j hj => ?_⟩
    obtain ⟨b1, b2, b3, b4, b5, b6⟩ := hd (8 * g' + j) (by omega)
    exact ⟨b1, b2, b3, b4, b5, b6⟩
  refine ⟨⟨RT_congr H1 (h52.trans e1.symm) ((tN_put v _ _).1.trans e2.symm) (hs 0 (by decide)) (hs 1 (by decide)) (xy_of (fun k hk => ?_)) (xy_of (fun k hk => ?_)), hM⟩, fun g' hg' => ?_, ?_, hk⟩
  · show ∃ j, j ≤ 60 ∧ d' (16 + k) = nI j
    rw [(hd k hk).2.1]
    exact hx.1 k hk
  · show ∃ j, j ≤ 60 ∧ d' (32 + k) = nI j
    rw [(hd k hk).2.2.1]
    exact hx.2 k hk
  · rw [mm_put v hg w' g' hg', ss_put v hg w' g' hg']
    exact hc g' hg'
  · rw [h53, h.2.2.1, (tN_put v _ _).1]
theorem DE.M {v : TV} {d e : Nat → Int32} (h : DE v d e) (g : Nat) : 1 ≤ sM (svG v g) := by rw [mm_sv]; exact h.m1 g
theorem DE.x {v : TV} {d e : Nat → Int32} (h : DE v d e) : okXY (fun i => d (16 + i)) ∧ okXY (fun i => d (32 + i)) := h.1.1.2.2.2.2.1
theorem de_move {v : TV} {d e : Nat → Int32} (h : DE v d e) {g i a b : Nat} (hg : g < 2) (hi : i < mmV v g) (ha : a ≤ 60) (hb : b ≤ 60) : DE (tPut v (nI g) (svPut (svG v g) i (nI a) (nI b))) (upd (upd d (16 + (8 * g + i)) (nI a)) (32 + (8 * g + i)) (nI b)) e := by
  have h8 := h.ok.mm g
  obtain ⟨q1, q2⟩ := put_ok (h.rel hg) (h.good hg) (j := i) (by rw [mm_sv]; exact hi) ha hb
  refine DE_put h hg q1 q2 (h.M g) (same_put hg (by omega) _ _) ⟨okXY_upd h.x.1 ha, okXY_upd h.x.2 hb⟩ rfl rfl rfl rfl (fun k hk => ⟨?_, ?_, ?_, rfl, rfl, rfl⟩) (fun g' hg' => ?_) (fun k hk => ?_)
  · rw [upd_n _ _ (by omega), upd_n _ _ (by omega)]
  · rw [upd_n _ _ (by omega)]
    show upd d _ _ _ = upd (fun i => d (16 + i)) _ _ _
    by_cases q : k = 8 * g + i
    · subst q; rw [upd_s, upd_s]
    · rw [upd_n _ _ (by omega), upd_n _ _ (by omega)]
  · show upd (upd d _ _) _ _ _ = upd (fun i => d (32 + i)) _ _ _
    by_cases q : k = 8 * g + i
    · subst q; rw [upd_s, upd_s]
    · rw [upd_n _ _ (by omega), upd_n _ _ (by omega), upd_n _ _ (by omega)]
  · rw [(h.2.1 g' hg').1, (h.2.1 g' hg').2]
    by_cases q : g' = g
    · subst q
      rw [if_pos rfl, if_pos rfl]
      exact ⟨by rw [← mm_sv]; rfl, by rw [← ss_sv]; rfl⟩
    · rw [if_neg q, if_neg q]
      exact ⟨rfl, rfl⟩
  · rw [upd_n _ _ (by omega), upd_n _ _ (by omega)]
    exact h.2.2.2 k hk
theorem de_kind {v : TV} {d e : Nat → Int32} (h : DE v d e) {g i c : Nat} (hg : g < 2) (hi : i < mmV v g) (hc : c ≤ 3) : DE (tPut v (nI g) (svKind (svG v g) i (nI c))) (upd d (8 * g + i) (nI c)) e := by
  have h8 := h.ok.mm g
  obtain ⟨q1, q2⟩ := kind_ok (h.rel hg) (h.good hg) i (nI c)
  refine DE_put h hg q1 q2 (h.M g) (same_kind hg (by omega) _) h.x rfl rfl rfl rfl (fun k hk => ⟨?_, ?_, ?_, rfl, rfl, rfl⟩) (fun g' hg' => ?_) (fun k hk => ?_)
  · show upd d _ _ _ = upd d _ _ _
    rfl
  · rw [upd_n _ _ (by omega)]
  · rw [upd_n _ _ (by omega)]
  · rw [(h.2.1 g' hg').1, (h.2.1 g' hg').2]
    by_cases q : g' = g
    · subst q
      rw [if_pos rfl, if_pos rfl]
      exact ⟨by rw [← mm_sv]; rfl, by rw [← ss_sv]; rfl⟩
    · rw [if_neg q, if_neg q]
      exact ⟨rfl, rfl⟩
  · by_cases q : k = 8 * g + i
    · subst q; rw [upd_s]; exact ⟨c, hc, rfl⟩
    · rw [upd_n _ _ q]; exact h.2.2.2 k hk
theorem de_name {v : TV} {d e : Nat → Int32} (h : DE v d e) {g i : Nat} (hg : g < 2) (hi : i < ssV v g) (n : Int32) : DE (tPut v (nI g) (svName (svG v g) i n)) d (upd e (32 + (8 * g + i)) n) := by
  have h8 := h.ok.ss g
  obtain ⟨q1, q2⟩ := name_ok (h.rel hg) (h.good hg) i n
  refine DE_put h hg q1 q2 (h.M g) (same_name hg (by omega) _) h.x rfl rfl (upd_n _ _ (by omega)) (upd_n _ _ (by omega)) (fun k hk => ⟨rfl, rfl, rfl, ?_, ?_, ?_⟩) (fun g' hg' => ?_) (fun k hk => h.2.2.2 k hk)
  · rw [upd_n _ _ (by omega)]
  · rw [upd_n _ _ (by omega)]
  · show upd e _ _ _ = upd (fun i => e (32 + i)) _ _ _
    by_cases q : k = 8 * g + i
    · subst q; rw [upd_s, upd_s]
    · rw [upd_n _ _ (by omega), upd_n _ _ (by omega)]
  · rw [upd_n _ _ (by omega), upd_n _ _ (by omega), (h.2.1 g' hg').1, (h.2.1 g' hg').2]
    by_cases q : g' = g
    · subst q
      rw [if_pos rfl, if_pos rfl]
      exact ⟨by rw [← mm_sv]; rfl, by rw [← ss_sv]; rfl⟩
    · rw [if_neg q, if_neg q]
      exact ⟨rfl, rfl⟩
/-- a street laid, in the law's row -/
def jnE (e : Nat → Int32) (g z : Nat) (u w n : Int32) : Nat → Int32 := upd (upd (upd (upd e (8 * g + z) u) (16 + (8 * g + z)) w) (32 + (8 * g + z)) n) (50 + g) (nI (z + 1))
theorem de_join {v : TV} {d e : Nat → Int32} (h : DE v d e) {g : Nat} (hg : g < 2) {u w n : Int32} (ha : addSok (svG v g) u w n = true) : DE (tPut v (nI g) (svAddS (svG v g) u w n)) d (jnE e g (ssV v g) u w n) := by
  have h8 : ssV v g < 8 := by
    have := ha
    simp only [addSok, Bool.and_eq_true, decide_eq_true_eq] at this
    rw [← ss_sv]; exact this.1
  obtain ⟨q1, q2⟩ := join_ok (h.rel hg) (h.good hg) ha
  have hM : sM (svAddS (svG v g) u w n) = mmV v g := by unfold svAddS; rw [if_pos ha]; exact mm_sv v g
  have hS : sS (svAddS (svG v g) u w n) = ssV v g + 1 := by unfold svAddS; rw [if_pos ha]; show sS (svG v g) + 1 = _; rw [ss_sv]
  refine DE_put h hg q1 q2 (by rw [hM]; exact h.m1 g) (same_join hg h8 _ _ _ _) h.x rfl rfl ?_ ?_ (fun k hk => ⟨rfl, rfl, rfl, ?_, ?_, ?_⟩) (fun g' hg' => ?_) (fun k hk => h.2.2.2 k hk)
  · unfold jnE
    rw [upd_n _ _ (by omega), upd_n _ _ (by omega), upd_n _ _ (by omega), upd_n _ _ (by omega)]
  · unfold jnE
    rw [upd_n _ _ (by omega), upd_n _ _ (by omega), upd_n _ _ (by omega), upd_n _ _ (by omega)]
  · unfold jnE
    show _ = upd e (8 * g + ssV v g) u k
    rw [upd_n _ _ (by omega), upd_n _ _ (by omega), upd_n _ _ (by omega)]
  · unfold jnE
    show _ = upd (fun i => e (16 + i)) (8 * g + ssV v g) w k
    rw [upd_n _ _ (by omega), upd_n _ _ (by omega)]
    by_cases q : k = 8 * g + ssV v g
    · subst q; rw [upd_s, upd_s]
    · rw [upd_n _ _ (by omega), upd_n _ _ (by omega), upd_n _ _ (by omega)]
  · unfold jnE
    show _ = upd (fun i => e (32 + i)) (8 * g + ssV v g) n k
    rw [upd_n _ _ (by omega)]
    by_cases q : k = 8 * g + ssV v g
    · subst q; rw [upd_s, upd_s]
    · rw [upd_n _ _ (by omega), upd_n _ _ (by omega), upd_n _ _ (by omega), upd_n _ _ (by omega)]
  · unfold jnE
    rw [upd_n _ _ (show 48 + g' ≠ 50 + g by omega), upd_n _ _ (show 48 + g' ≠ 32 + (8 * g + ssV v g) by omega), upd_n _ _ (show 48 + g' ≠ 16 + (8 * g + ssV v g) by omega), upd_n _ _ (show 48 + g' ≠ 8 * g + ssV v g by omega)]
    by_cases q : g' = g
    · subst q
      rw [upd_s, if_pos rfl, if_pos rfl, hM, hS]
      exact ⟨(h.2.1 g' hg').1, rfl⟩
    · rw [if_neg q, if_neg q, upd_n _ _ (show 50 + g' ≠ 50 + g by omega), upd_n _ _ (show 50 + g' ≠ 32 + (8 * g + ssV v g) by omega), upd_n _ _ (show 50 + g' ≠ 16 + (8 * g + ssV v g) by omega), upd_n _ _ (show 50 + g' ≠ 8 * g + ssV v g by omega)]
      exact h.2.1 g' hg'
/-- three rows moved down between lo and hi -/
def cuE (e : Nat → Int32) (lo hi : Nat) : Nat → Int32 := fun q => if (lo ≤ q ∧ q < hi) ∨ (16 + lo ≤ q ∧ q < 16 + hi) ∨ (32 + lo ≤ q ∧ q < 32 + hi) then e (q + 1) else e q
theorem cuE_0 (e : Nat → Int32) (lo : Nat) : cuE e lo lo = e := by
  funext q
  unfold cuE
  rw [if_neg (by omega)]
theorem cuE_s (e : Nat → Int32) {lo k : Nat} (h1 : lo ≤ k) (h2 : k < 15) : upd (upd (upd (cuE e lo k) k (cuE e lo k (k + 1))) (16 + k) (upd (cuE e lo k) k (cuE e lo k (k + 1)) (17 + k))) (32 + k) (upd (upd (cuE e lo k) k (cuE e lo k (k + 1))) (16 + k) (upd (cuE e lo k) k (cuE e lo k (k + 1)) (17 + k)) (33 + k)) = cuE e lo (k + 1) := by
  rw [upd_n _ _ (show 33 + k ≠ 16 + k by omega), upd_n _ _ (show 33 + k ≠ k by omega), upd_n _ _ (show 17 + k ≠ k by omega)]
  have a1 : cuE e lo k (k + 1) = e (k + 1) := if_neg (by omega)
  have a2 : cuE e lo k (17 + k) = e (16 + k + 1) := by rw [show 16 + k + 1 = 17 + k by omega]; exact if_neg (by omega)
  have a3 : cuE e lo k (33 + k) = e (32 + k + 1) := by rw [show 32 + k + 1 = 33 + k by omega]; exact if_neg (by omega)
  rw [a1, a2, a3]
  funext q
  by_cases q3 : q = 32 + k
  · subst q3
    rw [upd_s]
    exact (if_pos (by omega)).symm
  rw [upd_n _ _ q3]
  by_cases q2 : q = 16 + k
  · subst q2
    rw [upd_s]
    exact (if_pos (by omega)).symm
  rw [upd_n _ _ q2]
  by_cases q1 : q = k
  · subst q1
    rw [upd_s]
    exact (if_pos (by omega)).symm
  rw [upd_n _ _ q1]
  unfold cuE
  by_cases c : (lo ≤ q ∧ q < k) ∨ (16 + lo ≤ q ∧ q < 16 + k) ∨ (32 + lo ≤ q ∧ q < 32 + k)
  · rw [if_pos c, if_pos (by omega)]
  · rw [if_neg c, if_neg (by omega)]
def ctE (e : Nat → Int32) (g z i : Nat) : Nat → Int32 := cuE (upd e (50 + g) (nI (z - 1))) (8 * g + i) (8 * g + (z - 1))
theorem de_cut {v : TV} {d e : Nat → Int32} (h : DE v d e) {g i : Nat} (hg : g < 2) (hi : i < ssV v g) : DE (tPut v (nI g) (svDrop (svG v g) i)) d (ctE e g (ssV v g) i) := by
  have h8 := h.ok.ss g
  obtain ⟨q1, q2⟩ := drop_ok (h.rel hg) (h.good hg) (j := i) (by rw [ss_sv]; exact hi)
  have hfar : ∀ k, 48 ≤ k → k ≠ 50 + g → ctE e g (ssV v g) i k = e k := fun k hk hne => by
    unfold ctE cuE
    rw [if_neg (by omega), upd_n _ _ hne]
  have hin : ∀ o, (o = 0 ∨ o = 16 ∨ o = 32) → ∀ k, k < 16 → ctE e g (ssV v g) i (o + k) = shG (fun i => e (o + i)) (8 * g + i) (8 * g + (ssV v g - 1)) k := fun o ho k hk => by
    unfold ctE cuE shG
    by_cases c : 8 * g + i ≤ k ∧ k < 8 * g + (ssV v g - 1)
    · rw [if_pos (by omega), if_pos c, upd_n _ _ (by omega)]
      rfl
    · rw [if_neg (by omega), if_neg c, upd_n _ _ (by omega)]
  refine DE_put h hg q1 q2 (h.M g) (same_drop hg hi h8 _) h.x rfl rfl (hfar 52 (by omega) (by omega)) (hfar 53 (by omega) (by omega)) (fun k hk => ⟨rfl, rfl, rfl, ?_, ?_, ?_⟩) (fun g' hg' => ?_) (fun k hk => h.2.2.2 k hk)
  · have := hin 0 (Or.inl rfl) k hk
    simp only [Nat.zero_add] at this
    exact this
  · exact hin 16 (Or.inr (Or.inl rfl)) k hk
  · exact hin 32 (Or.inr (Or.inr rfl)) k hk
  · rw [hfar (48 + g') (by omega) (by omega)]
    by_cases q : g' = g
    · subst q
      rw [if_pos rfl, if_pos rfl]
      refine ⟨(h.2.1 g' hg').1.trans (by rw [← mm_sv]; rfl), ?_⟩
      unfold ctE cuE
      rw [if_neg (by omega), upd_s]
      show nI (ssV v g' - 1) = nI (sS (svG v g') - 1)
      rw [ss_sv]
    · rw [if_neg q, if_neg q, hfar (50 + g') (by omega) (by omega)]
      exact h.2.1 g' hg'
theorem de_R {v : TV} {d e : Nat → Int32} (h : DE v d e) {t : Nat} (h1 : 1 ≤ t) (h2 : t ≤ 20) : DE (tA v, tB v, nI t, tN v) d (upd e 52 (nI t)) := by
  obtain ⟨⟨⟨a1, a2, a3, a4, a5, a6, a7⟩, a8⟩, b1, b2, b3⟩ := h
  have H : RT (tA v, tB v, nI t, tN v) (nI t, tN v, mmV v, ssV v, d, fun i => d (16 + i), fun i => d (32 + i), e, fun i => e (16 + i), fun i => e (32 + i)) := ⟨rfl, rfl, a3, a4, a5, ⟨t, h1, h2, rfl⟩, a7⟩
  refine ⟨⟨RT_congr H (show upd e 52 (nI t) 52 = nI t from upd_s _ _ _) rfl ?_ ?_ a5.1 a5.2, a8⟩, fun g hg => ?_, ?_, b3⟩
  · refine ⟨rfl, rfl, fun j hj => ⟨rfl, rfl, rfl, ?_, ?_, ?_⟩⟩
    · exact upd_n _ _ (by omega)
    · exact upd_n _ _ (by omega)
    · exact upd_n _ _ (by omega)
  · refine ⟨rfl, rfl, fun j hj => ⟨rfl, rfl, rfl, ?_, ?_, ?_⟩⟩
    · exact upd_n _ _ (by omega)
    · exact upd_n _ _ (by omega)
    · exact upd_n _ _ (by omega)
  · rw [upd_n _ _ (by omega), upd_n _ _ (by omega)]
    exact b1 g hg
  · rw [upd_n _ _ (by omega)]
    exact b2
theorem de_N {v : TV} {d e : Nat → Int32} (h : DE v d e) {t : Nat} (h2 : t ≤ 3) : DE (tA v, tB v, tR v, t) d (upd e 53 (nI t)) := by
  obtain ⟨⟨⟨a1, a2, a3, a4, a5, a6, a7⟩, a8⟩, b1, b2, b3⟩ := h
  have H : RT (tA v, tB v, tR v, t) (e 52, t, mmV v, ssV v, d, fun i => d (16 + i), fun i => d (32 + i), e, fun i => e (16 + i), fun i => e (32 + i)) := ⟨a1, rfl, a3, a4, a5, a6, h2⟩
  refine ⟨⟨RT_congr H (show upd e 53 (nI t) 52 = e 52 from upd_n _ _ (by decide)) rfl ?_ ?_ a5.1 a5.2, a8⟩, fun g hg => ?_, upd_s _ _ _, b3⟩
  · refine ⟨rfl, rfl, fun j hj => ⟨rfl, rfl, rfl, ?_, ?_, ?_⟩⟩
    · exact upd_n _ _ (by omega)
    · exact upd_n _ _ (by omega)
    · exact upd_n _ _ (by omega)
  · refine ⟨rfl, rfl, fun j hj => ⟨rfl, rfl, rfl, ?_, ?_, ?_⟩⟩
    · exact upd_n _ _ (by omega)
    · exact upd_n _ _ (by omega)
    · exact upd_n _ _ (by omega)
  · rw [upd_n _ _ (by omega), upd_n _ _ (by omega)]
    exact b1 g hg
