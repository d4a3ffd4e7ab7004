/-! ===== streets added and removed; kept states; all of both sides ===== -/
theorem join_ok {w : SV} {g : Nat} {S : SN} (h : relS w g S) (hg : goodS w) {x y n : Int32} (ha : addSok w x y n = true) : relS (svAddS w x y n) g (nR S, nN S, nM S, upN (nS S) g (nS S g + 1), nKd S, nX S, nY S, upd (nF S) (8 * g + nS S g) x, upd (nT S) (8 * g + nS S g) y, upd (nNm S) (8 * g + nS S g) n) ∧ goodS (svAddS w x y n) := by
  have ha0 := ha
  simp only [addSok, Bool.and_eq_true, decide_eq_true_eq] at ha
  obtain ⟨h8, hx, hy, hne, hb, hn⟩ := ha
  have hM := hg.1.1
  obtain ⟨a, ha1, rfl⟩ := hasN_nI (by omega) hx
  obtain ⟨b, hb1, rfl⟩ := hasN_nI (by omega) hy
  have hab : a ≠ b := fun e => hne (by rw [e])
  obtain ⟨h1, h2, h3, h4⟩ := h
  obtain ⟨g1, g2, g3, g4⟩ := hg
  have hnone : sbF w (nI a) (nI b) = none := by
    cases e : sbF w (nI a) (nI b) with
    | none => rfl
    | some j =>
      have hj := sbF_lt e
      rw [e] at hb
      exact absurd hb (nI_ne_m1 (by omega))
  unfold svAddS
  rw [if_pos ha0, ← h2]
  refine ⟨⟨h1, ?_, h3, fun i hi => ?_⟩, ⟨⟨hM, by show sS w + 1 ≤ 8; omega⟩, g2, fun q hq => ?_, fun q r hqr hr => ?_⟩⟩
  · show sS w + 1 = upN (nS S) g (sS w + 1) g
    rw [upN_s]
  · have hi : i < sS w + 1 := hi
    show upd (sU w) (sS w) (nI a) i = upd (nF S) (8 * g + sS w) (nI a) (8 * g + i) ∧ upd (sV w) (sS w) (nI b) i = upd (nT S) (8 * g + sS w) (nI b) (8 * g + i) ∧ upd (sNm w) (sS w) n i = upd (nNm S) (8 * g + sS w) n (8 * g + i)
    unfold upd
    by_cases e : i = sS w
    · rw [if_pos e, if_pos (by omega), if_pos e, if_pos (by omega), if_pos e, if_pos (by omega)]
      exact ⟨rfl, rfl, rfl⟩
    · rw [if_neg e, if_neg (by omega), if_neg e, if_neg (by omega), if_neg e, if_neg (by omega)]
      exact h4 i (by omega)
  · have hq : q < sS w + 1 := hq
    show ∃ a' b', a' < sM w ∧ b' < sM w ∧ a' ≠ b' ∧ upd (sU w) (sS w) (nI a) q = nI a' ∧ upd (sV w) (sS w) (nI b) q = nI b'
    unfold upd
    by_cases e : q = sS w
    · rw [if_pos e, if_pos e]
      exact ⟨a, b, ha1, hb1, hab, rfl, rfl⟩
    · rw [if_neg e, if_neg e]
      exact g3 q (by omega)
  · have hr : r < sS w + 1 := hr
    have e1 : ∀ x y, sbP (sKd w, sX w, sY w, upd (sU w) (sS w) (nI a), upd (sV w) (sS w) (nI b), upd (sNm w) (sS w) n, sM w, sS w + 1) x y q = sbP w x y q := fun x y => by
      show ((decide (upd (sU w) (sS w) (nI a) q = x) && decide (upd (sV w) (sS w) (nI b) q = y)) || (decide (upd (sU w) (sS w) (nI a) q = y) && decide (upd (sV w) (sS w) (nI b) q = x))) = _
      rw [upd_n _ _ (by omega), upd_n _ _ (by omega)]
      rfl
    rw [e1]
    show sbP w (upd (sU w) (sS w) (nI a) r) (upd (sV w) (sS w) (nI b) r) q = false
    by_cases e : r = sS w
    · subst e
      rw [upd_s, upd_s]
      exact findF_all.mp hnone q hqr
    · rw [upd_n _ _ e, upd_n _ _ e]
      exact g4 q r hqr (by omega)
theorem same_join {S : SN} {g : Nat} (hg : g < 2) (h8 : nS S g < 8) (x y n : Int32) (c : Nat) : sameB S (nR S, nN S, nM S, upN (nS S) g c, nKd S, nX S, nY S, upd (nF S) (8 * g + nS S g) x, upd (nT S) (8 * g + nS S g) y, upd (nNm S) (8 * g + nS S g) n) (1 - g) :=
  ⟨rfl, if_neg (by omega), fun i hi => ⟨rfl, rfl, rfl, upd_n _ _ (by omega), upd_n _ _ (by omega), upd_n _ _ (by omega)⟩⟩
theorem shG_rel {f F : Nat → Int32} {g n j : Nat} (h : ∀ i, i < n → f i = F (8 * g + i)) : ∀ i, i < n - 1 → shF f j n i = shG F (8 * g + j) (8 * g + (n - 1)) (8 * g + i) := by
  intro i hi
  unfold shF shG
  by_cases e : j ≤ i ∧ i + 1 < n
  · rw [if_pos e, if_pos (by omega), Nat.add_assoc]
    exact h (i + 1) e.2
  · rw [if_neg e, if_neg (by omega)]
    exact h i (by omega)
theorem drop_ok {w : SV} {g : Nat} {S : SN} (h : relS w g S) (hg : goodS w) {j : Nat} (hj : j < sS w) : relS (svDrop w j) g (nR S, nN S, nM S, upN (nS S) g (nS S g - 1), nKd S, nX S, nY S, shG (nF S) (8 * g + j) (8 * g + (nS S g - 1)), shG (nT S) (8 * g + j) (8 * g + (nS S g - 1)), shG (nNm S) (8 * g + j) (8 * g + (nS S g - 1))) ∧ goodS (svDrop w j) := by
  obtain ⟨h1, h2, h3, h4⟩ := h
  obtain ⟨g1, g2, g3, g4⟩ := hg
  rw [← h2]
  have hs : ∀ (f : Nat → Int32) i, i < sS w - 1 → ∃ i', i' < sS w ∧ (i' = i ∨ i' = i + 1) ∧ (i' = i ↔ ¬ j ≤ i) ∧ shF f j (sS w) i = f i' := by
    intro f i hi
    unfold shF
    by_cases e : j ≤ i ∧ i + 1 < sS w
    · rw [if_pos e]; exact ⟨i + 1, e.2, Or.inr rfl, ⟨fun q => by omega, fun q => absurd e.1 q⟩, rfl⟩
    · rw [if_neg e]; exact ⟨i, by omega, Or.inl rfl, ⟨fun _ q => e ⟨q, by omega⟩, fun _ => rfl⟩, rfl⟩
  refine ⟨⟨h1, ?_, h3, fun i hi => ?_⟩, ⟨⟨g1.1, by show sS w - 1 ≤ 8; have := g1.2; omega⟩, g2, fun q hq => ?_, fun q r hqr hr => ?_⟩⟩
  · show sS w - 1 = upN (nS S) g (sS w - 1) g
    rw [upN_s]
  · have hi : i < sS w - 1 := hi
    exact ⟨shG_rel (fun i hi => (h4 i hi).1) i hi, shG_rel (fun i hi => (h4 i hi).2.1) i hi, shG_rel (fun i hi => (h4 i hi).2.2) i hi⟩
  · have hq : q < sS w - 1 := hq
    obtain ⟨q1, b1, o1, c1, d1⟩ := hs (sU w) q hq
    obtain ⟨q2, b2, o2, c2, d2⟩ := hs (sV w) q hq
    have e : q2 = q1 := by by_cases hh : j ≤ q <;> omega
    subst e
    show ∃ a b, a < sM w ∧ b < sM w ∧ a ≠ b ∧ shF (sU w) j (sS w) q = nI a ∧ shF (sV w) j (sS w) q = nI b
    rw [d1, d2]
    exact g3 q2 b1
  · have hr : r < sS w - 1 := hr
    obtain ⟨q1, b1, o1, c1, d1⟩ := hs (sU w) q (by omega)
    obtain ⟨q2, b2, o2, c2, d2⟩ := hs (sV w) q (by omega)
    obtain ⟨r1, b3, o3, c3, d3⟩ := hs (sU w) r hr
    obtain ⟨r2, b4, o4, c4, d4⟩ := hs (sV w) r hr
    have e : q2 = q1 := by by_cases hh : j ≤ q <;> omega
    have e2 : r2 = r1 := by by_cases hh : j ≤ r <;> omega
    subst e; subst e2
    have hlt : q2 < r2 := by by_cases hh : j ≤ q <;> by_cases hh2 : j ≤ r <;> omega
    show ((decide (shF (sU w) j (sS w) q = shF (sU w) j (sS w) r) && decide (shF (sV w) j (sS w) q = shF (sV w) j (sS w) r)) || (decide (shF (sU w) j (sS w) q = shF (sV w) j (sS w) r) && decide (shF (sV w) j (sS w) q = shF (sU w) j (sS w) r))) = false
    rw [d1, d2, d3, d4]
    exact g4 q2 r2 hlt b3
theorem shG_far {f : Nat → Int32} {lo hi i : Nat} (h : i < lo ∨ hi ≤ i) : shG f lo hi i = f i := if_neg (by omega)
theorem same_drop {S : SN} {g j : Nat} (hg : g < 2) (hj : j < nS S g) (h8 : nS S g ≤ 8) (c : Nat) : sameB S (nR S, nN S, nM S, upN (nS S) g c, nKd S, nX S, nY S, shG (nF S) (8 * g + j) (8 * g + (nS S g - 1)), shG (nT S) (8 * g + j) (8 * g + (nS S g - 1)), shG (nNm S) (8 * g + j) (8 * g + (nS S g - 1))) (1 - g) :=
  ⟨rfl, if_neg (by omega), fun i hi => ⟨rfl, rfl, rfl, shG_far (by omega), shG_far (by omega), shG_far (by omega)⟩⟩
/-! copies -/
theorem cpy8 {f g : Nat → Int32} {j : Nat} (h : j < 8) : va_cpy f g 0 0 8 j = f j := by
  rw [pk_cpy_in (Nat.zero_le _) (by omega), Nat.zero_add, Nat.sub_zero]
theorem copy_relS {o w : SV} {g : Nat} {S : SN} (h : relS o g S) (hk : okS o) : relS (svCopy o w) g S := by
  refine ⟨h.1, h.2.1, fun j hj => ?_, fun j hj => ?_⟩
  · have hj : j < sM o := hj
    have := hk.1
    show va_cpy (sKd o) (sKd w) 0 0 8 j = _ ∧ va_cpy (sX o) (sX w) 0 0 8 j = _ ∧ va_cpy (sY o) (sY w) 0 0 8 j = _
    rw [cpy8 (by omega), cpy8 (by omega), cpy8 (by omega)]
    exact h.2.2.1 j hj
  · have hj : j < sS o := hj
    have := hk.2
    show va_cpy (sU o) (sU w) 0 0 8 j = _ ∧ va_cpy (sV o) (sV w) 0 0 8 j = _ ∧ va_cpy (sNm o) (sNm w) 0 0 8 j = _
    rw [cpy8 (by omega), cpy8 (by omega), cpy8 (by omega)]
    exact h.2.2.2 j hj
theorem copy_goodS {o w : SV} (h : goodS o) : goodS (svCopy o w) := by
  obtain ⟨h1, h2, h3, h4⟩ := h
  have hm := h1.1
  have hs := h1.2
  refine ⟨h1, fun j hj => ?_, fun q hq => ?_, fun q r hqr hr => ?_⟩
  · have hj : j < sM o := hj
    show (∃ x, x ≤ 60 ∧ va_cpy (sX o) (sX w) 0 0 8 j = nI x) ∧ ∃ y, y ≤ 60 ∧ va_cpy (sY o) (sY w) 0 0 8 j = nI y
    rw [cpy8 (by omega), cpy8 (by omega)]
    exact h2 j hj
  · have hq : q < sS o := hq
    show ∃ a b, a < sM o ∧ b < sM o ∧ a ≠ b ∧ va_cpy (sU o) (sU w) 0 0 8 q = nI a ∧ va_cpy (sV o) (sV w) 0 0 8 q = nI b
    rw [cpy8 (by omega), cpy8 (by omega)]
    exact h3 q hq
  · have hr : r < sS o := hr
    show ((decide (va_cpy (sU o) (sU w) 0 0 8 q = va_cpy (sU o) (sU w) 0 0 8 r) && decide (va_cpy (sV o) (sV w) 0 0 8 q = va_cpy (sV o) (sV w) 0 0 8 r)) || (decide (va_cpy (sU o) (sU w) 0 0 8 q = va_cpy (sV o) (sV w) 0 0 8 r) && decide (va_cpy (sV o) (sV w) 0 0 8 q = va_cpy (sU o) (sU w) 0 0 8 r))) = false
    rw [cpy8 (by omega), cpy8 (by omega), cpy8 (by omega), cpy8 (by omega)]
    exact h4 q r hqr hr
theorem RT_copy {o v : TV} {S : SN} (h : RT o S) : RT (tCopy o v) S :=
  ⟨h.1, h.2.1, ⟨copy_relS h.2.2.1.1 h.2.2.2.1.1.1, copy_relS h.2.2.1.2 h.2.2.2.1.2.1⟩, ⟨copy_goodS h.2.2.2.1.1, copy_goodS h.2.2.2.1.2⟩, h.2.2.2.2⟩
theorem RT1_copy {o v : TV} {S : SN} (h : RT1 o S) : RT1 (tCopy o v) S := ⟨RT_copy h.1, h.2⟩
/-- a state that is taken back -/
def tkS (T S : SN) : SN := (nR T, nN T, tkF (nM T) (nM S) 2, tkF (nS T) (nS S) 2, tkF (nKd T) (nKd S) 16, tkF (nX T) (nX S) 16, tkF (nY T) (nY S) 16, tkF (nF T) (nF S) 16, tkF (nT T) (nT S) 16, tkF (nNm T) (nNm S) 16)
theorem tkF_in {α : Type} {g f : Nat → α} {k i : Nat} (h : i < k) : tkF g f k i = g i := if_pos h
theorem relS_tk {w : SV} {g : Nat} {S T : SN} (h : relS w g T) (hk : okS w) (hg : g < 2) : relS w g (tkS T S) := by
  have hm := hk.1
  have hs := hk.2
  refine ⟨h.1.trans (tkF_in hg).symm, h.2.1.trans (tkF_in hg).symm, fun j hj => ?_, fun j hj => ?_⟩
  · obtain ⟨e1, e2, e3⟩ := h.2.2.1 j hj
    exact ⟨e1.trans (tkF_in (by omega)).symm, e2.trans (tkF_in (by omega)).symm, e3.trans (tkF_in (by omega)).symm⟩
  · obtain ⟨e1, e2, e3⟩ := h.2.2.2 j hj
    exact ⟨e1.trans (tkF_in (by omega)).symm, e2.trans (tkF_in (by omega)).symm, e3.trans (tkF_in (by omega)).symm⟩
theorem okXY_tk {g f : Nat → Int32} (h : okXY g) : okXY (tkF g f 16) := fun k hk => by rw [tkF_in hk]; exact h k hk
theorem RT_tk {v : TV} {S T : SN} (h : RT v T) : RT v (tkS T S) :=
  ⟨h.1, h.2.1, ⟨relS_tk h.2.2.1.1 h.2.2.2.1.1.1 (by decide), relS_tk h.2.2.1.2 h.2.2.2.1.2.1 (by decide)⟩, h.2.2.2.1, ⟨okXY_tk h.2.2.2.2.1.1, okXY_tk h.2.2.2.2.1.2⟩, h.2.2.2.2.2⟩
theorem RT1_tk {v : TV} {S T : SN} (h : RT1 v T) : RT1 v (tkS T S) := ⟨RT_tk h.1, h.2⟩
/-! stacks of states -/
theorem okSn_congr {F F' : Nat → Int32} {q q' : Nat} {T : SN} (h : okSn F q T) (e : ∀ i, i < 102 → F' (q' + i) = F (q + i)) : okSn F' q' T := by
  obtain ⟨h0, h1, h2, h4, h6, h22, h38, h54, h70, h86⟩ := h
  refine ⟨(e 0 (by decide)).trans h0, (e 1 (by decide)).trans h1, fun k hk => ?_, fun k hk => ?_, fun k hk => ?_, fun k hk => ?_, fun k hk => ?_, fun k hk => ?_, fun k hk => ?_, fun k hk => ?_⟩
  · rw [Nat.add_assoc, e _ (by omega), ← Nat.add_assoc]; exact h2 k hk
  · rw [Nat.add_assoc, e _ (by omega), ← Nat.add_assoc]; exact h4 k hk
  · rw [Nat.add_assoc, e _ (by omega), ← Nat.add_assoc]; exact h6 k hk
  · rw [Nat.add_assoc, e _ (by omega), ← Nat.add_assoc]; exact h22 k hk
  · rw [Nat.add_assoc, e _ (by omega), ← Nat.add_assoc]; exact h38 k hk
  · rw [Nat.add_assoc, e _ (by omega), ← Nat.add_assoc]; exact h54 k hk
  · rw [Nat.add_assoc, e _ (by omega), ← Nat.add_assoc]; exact h70 k hk
  · rw [Nat.add_assoc, e _ (by omega), ← Nat.add_assoc]; exact h86 k hk
def stkR (h : Nat) (o : Nat → Nat) (tv : Nat → TV) (F : Nat → Int32) : Prop := ∀ k, k < h → ∃ T : SN, okSn F (102 * k) T ∧ RT1 (tv (o k)) T
def ordO (N : Nat) (o : PO) : Prop := o.2 ≤ N ∧ (∀ k, k < N → o.1 k < N) ∧ ∀ i j, i < N → j < N → o.1 i = o.1 j → i = j
theorem stk_push0 {h N : Nat} {o : Nat → Nat} {tv : Nat → TV} {F : Nat → Int32} (hs : stkR h o tv F) (ho : ordO N (o, h)) (hh : h < N) {v x : TV} {S : SN} (hv : RT1 v S) : stkR (h + 1) o (upT tv (o h) (tCopy v x)) (lyF (snp S) F (102 * h)) := by
  intro k hk
  by_cases e : k = h
  · subst e
    refine ⟨S, okSn_ly S F _, ?_⟩
    rw [show upT tv (o k) (tCopy v x) (o k) = tCopy v x from if_pos rfl]
    exact RT1_copy hv
  · obtain ⟨T, h1, h2⟩ := hs k (by omega)
    refine ⟨T, okSn_congr h1 (fun i hi => if_neg (by omega)), ?_⟩
    rw [show upT tv (o h) (tCopy v x) (o k) = tv (o k) from if_neg (fun q => e (ho.2.2 k h (by omega) hh q))]
    exact h2
theorem ordO_push {N : Nat} {o : PO} (ho : ordO N o) (hN : 0 < N) : ordO N (pushO N o) := by
  obtain ⟨h1, h2, h3⟩ := ho
  unfold pushO plR plH
  by_cases e : o.2 < N
  · rw [if_pos e, if_pos e]
    exact ⟨e, h2, h3⟩
  · rw [if_neg e, if_neg e]
    refine ⟨Nat.le_refl N, rotN_lt h2 hN, fun i j hi hj => ?_⟩
    have hr : ∀ i, i < N → rotN o.1 N i = (if i = N - 1 then o.1 0 else o.1 (i + 1)) := fun i hi => by
      unfold rotN upN
      by_cases q : i = N - 1
      · rw [if_pos q, if_pos q]
      · rw [if_neg q, if_neg q]
        unfold shN
        rw [if_pos (by omega)]
    show rotN o.1 N i = rotN o.1 N j → i = j
    rw [hr i hi, hr j hj]
    intro q
    by_cases a : i = N - 1
    · by_cases b : j = N - 1
      · omega
      · rw [if_pos a, if_neg b] at q
        have := h3 0 (j + 1) hN (by omega) q
        omega
    · by_cases b : j = N - 1
      · rw [if_neg a, if_pos b] at q
        have := h3 (i + 1) 0 (by omega) hN q
        omega
      · rw [if_neg a, if_neg b] at q
        have := h3 (i + 1) (j + 1) (by omega) (by omega) q
        omega
/-- the acts' pile of eight -/
theorem stk_push8 {o : PO} {tv : Nat → TV} {F : Nat → Int32} (hs : stkR o.2 o.1 tv F) (ho : ordO 8 o) {v : TV} {S : SN} (hv : RT1 v S) : stkR (pushO 8 o).2 (pushO 8 o).1 (pushT 8 o tv v) (lyF (snp S) (ntF F o.2) (ntQ o.2)) := by
  unfold pushO pushT plR plH plK ntF ntQ
  by_cases e : o.2 < 8
  · rw [if_pos e, if_pos e, if_pos e, if_neg (by omega), if_neg (by omega)]
    exact stk_push0 (N := 8) hs ho e hv
  · have e8 : o.2 = 8 := by have := ho.1; omega
    rw [if_neg e, if_neg e, if_neg e, if_pos e8, if_pos e8]
    have hr : ∀ i, i < 8 → rotN o.1 8 i = (if i = 7 then o.1 0 else o.1 (i + 1)) := fun i hi => by
      unfold rotN upN
      by_cases q : i = 8 - 1
      · rw [if_pos q, if_pos q]
      · rw [if_neg q, if_neg q]
        unfold shN
        rw [if_pos (by omega)]
    intro k hk
    have hk : k < 8 := hk
    show ∃ T, okSn _ (102 * k) T ∧ RT1 (upT tv (rotN o.1 8 (8 - 1)) _ (rotN o.1 8 k)) T
    by_cases q : k = 7
    · subst q
      refine ⟨S, okSn_ly S _ _, ?_⟩
      rw [show upT tv (rotN o.1 8 (8 - 1)) (tCopy v (tv (rotN o.1 8 (8 - 1)))) (rotN o.1 8 7) = tCopy v (tv (rotN o.1 8 (8 - 1))) from if_pos rfl]
      exact RT1_copy hv
    · obtain ⟨T, h1, h2⟩ := hs (k + 1) (by omega)
      refine ⟨T, okSn_congr h1 (fun i hi => ?_), ?_⟩
      · unfold lyF shD
        rw [if_neg (by omega), if_pos (by omega)]
        congr 1; omega
      · have hne : ¬ rotN o.1 8 k = rotN o.1 8 (8 - 1) := fun h => by
          rw [hr k hk, hr 7 (by decide), if_neg q, if_pos rfl] at h
          have := ho.2.2 (k + 1) 0 (by omega) (by decide) h
          omega
        rw [show upT tv (rotN o.1 8 (8 - 1)) (tCopy v (tv (rotN o.1 8 (8 - 1)))) (rotN o.1 8 k) = tv (rotN o.1 8 k) from if_neg hne, hr k hk, if_neg q]
        exact h2
/-- ALL: both sides tell one state -/
def Rel (v : TV) (w : (Nat → Int32) × Nat) (f : Nat → Int32) (oa ok : PO) (ta tk : Nat → TV) (s : MD0) (mm ss : Nat → Nat) (kd xo yo fr tt nm ah sv sh tx : Nat → Int32) : Prop :=
  RT1 v (dR s, dN0 s, mm, ss, kd, xo, yo, fr, tt, nm) ∧ (dS s = w.2 ∧ w.2 ≤ 200 ∧ ∀ k, k < w.2 → w.1 k = tx k) ∧ (∀ k, k < 12 → f k = sh k) ∧ (dU s = oa.2 ∧ ordO 8 oa ∧ stkR oa.2 oa.1 ta ah) ∧ (dK s = ok.2 ∧ ordO 2 ok ∧ stkR ok.2 ok.1 tk sv)
