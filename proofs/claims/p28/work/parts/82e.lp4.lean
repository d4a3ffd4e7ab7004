/-! ===== the text that the law writes, read ===== -/
abbrev TXT : Type := (Nat → Int32) × Nat
/-- w has grown to w' -/
def grW (w w' : TXT) (n : Nat) : Prop := w'.2 = w.2 + n ∧ ∀ i, i < w.2 → w'.1 i = w.1 i
theorem grW.trans {a b c : TXT} {n m : Nat} (h : grW a b n) (k : grW b c m) : grW a c (n + m) :=
  ⟨by rw [k.1, h.1]; omega, fun i hi => by rw [k.2 i (by rw [h.1]; omega), h.2 i hi]⟩
/-- the letters of w -/
def agW (L : Nat → Int32) (w : TXT) : Prop := ∀ i, i < w.2 → L i = w.1 i
theorem agW.of {L : Nat → Int32} {a b : TXT} {n : Nat} (h : grW a b n) (k : agW L b) : agW L a := fun i hi => by
  rw [k i (by rw [h.1]; omega), h.2 i hi]
theorem tx_one {w : TXT} {x : Nat} (h : w.2 < 200) (h1 : 32 ≤ x) (h2 : x ≤ 126) : grW w (txW w (nI x)) 1 ∧ ∀ L, agW L (txW w (nI x)) → L w.2 = nI x := by
  have hr : inR (nI x) (nI 32) (nI 126) = true := inR_t ⟨h1, h2⟩ (by decide)
  have e : txW w (nI x) = (upd w.1 w.2 (nI x), w.2 + 1) := by
    unfold txW txAdd
    rw [if_pos hr, if_pos h, chr_eq hr]
  rw [e]
  refine ⟨⟨rfl, fun i hi => upd_n _ _ (by omega)⟩, fun L hL => ?_⟩
  rw [hL w.2 (show w.2 < w.2 + 1 by omega)]
  exact upd_s _ _ _
/-- how many signs a number takes, with its end -/
def nd (a : Nat) : Nat := if 9 < a then 3 else 2
theorem nd_b (a : Nat) : 2 ≤ nd a ∧ nd a ≤ 3 := by unfold nd; split <;> omega
theorem nd_1 {a : Nat} (h : a ≤ 9) : nd a = 2 := if_neg (by omega)
/-- a number is written, and its end -/
theorem tw_one {w : TXT} {a c : Nat} (h : w.2 + nd a ≤ 200) (ha : a ≤ 99) (hc : c = 44 ∨ c = 59) : grW w (twW w a c) (nd a) ∧ ∀ L, agW L (twW w a c) → dE L w.2 (nI c) ∧ vv L w.2 = nI a ∧ nx L w.2 = w.2 + nd a := by
  have hcn : inR (nI c) (nI 48) (nI 57) = false := by rcases hc with rfl | rfl <;> decide
  have hc2 : 32 ≤ c ∧ c ≤ 126 := by omega
  unfold twW
  by_cases h9 : 9 < a
  · have en : nd a = 3 := if_pos h9
    rw [en] at h ⊢
    rw [if_pos h9]
    obtain ⟨g1, l1⟩ := tx_one (w := w) (x := 48 + a / 10) (by omega) (by omega) (by omega)
    have s1 := g1.1
    obtain ⟨g2, l2⟩ := tx_one (w := txW w (nI (48 + a / 10))) (x := 48 + a % 10) (by omega) (by omega) (by omega)
    have s2 := g2.1
    obtain ⟨g3, l3⟩ := tx_one (w := txW (txW w (nI (48 + a / 10))) (nI (48 + a % 10))) (x := c) (by omega) hc2.1 hc2.2
    refine ⟨(g1.trans g2).trans g3, fun L hL => ?_⟩
    have a3 := l3 L hL
    have a2 := l2 L (hL.of g3)
    have a1 := l1 L (hL.of (g2.trans g3))
    rw [s1] at a2
    rw [s2, s1] at a3
    have r1 : inR (L w.2) (nI 48) (nI 57) = true := by rw [a1]; exact inR_t (by omega) (by decide)
    have r2 : inR (L (w.2 + 1)) (nI 48) (nI 57) = true := by rw [a2]; exact inR_t (by omega) (by decide)
    have e : rNv L w.2 = (nI a, w.2 + 1 + 1) := by
      unfold rNv
      rw [if_pos r2, a1, a2, pk_sub (by omega), pk_mul, nI_add, pk_sub (by omega)]
      congr 1
      congr 1
      omega
    refine ⟨⟨r1, ?_⟩, by show (rNv L w.2).1 = _; rw [e], by show (rNv L w.2).2 + 1 = _; rw [e]⟩
    rw [e]
    exact a3
  · have en : nd a = 2 := if_neg h9
    rw [en] at h ⊢
    rw [if_neg h9]
    obtain ⟨g2, l2⟩ := tx_one (w := w) (x := 48 + a % 10) (by omega) (by omega) (by omega)
    have s2 := g2.1
    obtain ⟨g3, l3⟩ := tx_one (w := txW w (nI (48 + a % 10))) (x := c) (by omega) hc2.1 hc2.2
    refine ⟨g2.trans g3, fun L hL => ?_⟩
    have a3 := l3 L hL
    have a2 := l2 L (hL.of g3)
    rw [s2] at a3
    have r1 : inR (L w.2) (nI 48) (nI 57) = true := by rw [a2]; exact inR_t (by omega) (by decide)
    have r2 : ¬ inR (L (w.2 + 1)) (nI 48) (nI 57) = true := by rw [a3, hcn]; decide
    have e : rNv L w.2 = (nI a, w.2 + 1) := by
      unfold rNv
      rw [if_neg r2, a2, pk_sub (by omega)]
      congr 1
      congr 1
      omega
    refine ⟨⟨r1, ?_⟩, by show (rNv L w.2).1 = _; rw [e], by show (rNv L w.2).2 + 1 = _; rw [e]⟩
    rw [e]
    exact a3
theorem it_one {w : TXT} {l a b c : Nat} (h : w.2 + (1 + nd a + nd b + nd c) ≤ 200) (hl : 32 ≤ l ∧ l ≤ 126) (ha : a ≤ 99) (hb : b ≤ 99) (hc : c ≤ 99) : grW w (itW w l a b c) (1 + nd a + nd b + nd c) ∧
    ∀ L, agW L (itW w l a b c) → L w.2 = nI l ∧ T3 L (w.2 + 1) ∧ vv L (w.2 + 1) = nI a ∧ vv L (nx L (w.2 + 1)) = nI b ∧ vv L (nx L (nx L (w.2 + 1))) = nI c ∧ nx L (nx L (nx L (w.2 + 1))) = w.2 + (1 + nd a + nd b + nd c) := by
  unfold itW
  have b1 := nd_b a
  have b2 := nd_b b
  have b3 := nd_b c
  obtain ⟨g0, l0⟩ := tx_one (w := w) (x := l) (by omega) hl.1 hl.2
  have s0 := g0.1
  obtain ⟨g1, l1⟩ := tw_one (w := txW w (nI l)) (a := a) (c := 44) (by omega) ha (Or.inl rfl)
  have s1 := g1.1
  obtain ⟨g2, l2⟩ := tw_one (w := twW (txW w (nI l)) a 44) (a := b) (c := 44) (by omega) hb (Or.inl rfl)
  have s2 := g2.1
  obtain ⟨g3, l3⟩ := tw_one (w := twW (twW (txW w (nI l)) a 44) b 44) (a := c) (c := 59) (by omega) hc (Or.inr rfl)
  refine ⟨((g0.trans g1).trans g2).trans g3, fun L hL => ?_⟩
  obtain ⟨x3, y3, z3⟩ := l3 L hL
  obtain ⟨x2, y2, z2⟩ := l2 L (hL.of g3)
  obtain ⟨x1, y1, z1⟩ := l1 L (hL.of (g2.trans g3))
  have x0 := l0 L (hL.of ((g1.trans g2).trans g3))
  rw [s0] at x1 y1 z1
  rw [s1, s0] at x2 y2 z2
  rw [s2, s1, s0] at x3 y3 z3
  have e1 : nx L (w.2 + 1) = w.2 + 1 + nd a := z1
  have e2 : nx L (nx L (w.2 + 1)) = w.2 + 1 + nd a + nd b := by rw [e1]; exact z2
  have e3 : nx L (nx L (nx L (w.2 + 1))) = w.2 + 1 + nd a + nd b + nd c := by rw [e2]; exact z3
  refine ⟨x0, ⟨x1, by rw [e1]; exact x2, by rw [e2]; exact x3⟩, y1, by rw [e1]; exact y2, by rw [e2]; exact y3, by rw [e3]; omega⟩
/-- the text so far tells the state S -/
def PSg (w : TXT) (S : SN) : Prop := ∀ dv : TV, ∃ (k : Nat) (T : TV), k ≤ w.2 ∧ RT T S ∧ ∀ L : Nat → Int32, agW L w → ∀ (len m : Nat) (f : Nat → Int32), w.2 ≤ len → ∃ f', rdAll L len (k + m) 0 f (tClear dv) = rdAll L len m w.2 f' T
theorem ps_step {w w' : TXT} {n : Nat} {S S' : SN} (h : PSg w S) (hg : grW w w' n) (hn : 1 ≤ n) (hit : ∀ T, RT T S → ∃ T', RT T' S' ∧ ∀ L, agW L w' → ∀ f, ∃ F, rdItem L w.2 f T = (true, w'.2, F, T')) : PSg w' S' := by
  intro dv
  obtain ⟨k, T, hk, hT, hr⟩ := h dv
  obtain ⟨T', hT', hi⟩ := hit T hT
  refine ⟨k + 1, T', by rw [hg.1]; omega, hT', fun L hL len m f hlen => ?_⟩
  have hlt : w.2 < len := by rw [hg.1] at hlen; omega
  obtain ⟨f1, e1⟩ := hr L (hL.of hg) len (m + 1) f (by omega)
  obtain ⟨F, e2⟩ := hi L hL f1
  refine ⟨F, ?_⟩
  rw [show k + 1 + m = k + (m + 1) by omega, e1]
  show (if w.2 < len then (if (rdItem L w.2 f1 T).1 then rdAll L len m (rdItem L w.2 f1 T).2.1 (rdItem L w.2 f1 T).2.2.1 (rdItem L w.2 f1 T).2.2.2 else (nI w.2, (rdItem L w.2 f1 T).2)) else (-4, w.2, f1, T)) = _
  rw [if_pos hlt, e2]
  rfl
theorem ps_read {w : TXT} {S : SN} (h : PSg w S) (hw : w.2 < 200) (dv : TV) (u : Nat → Int32) : ∃ (f : Nat → Int32) (T : TV), RT T S ∧ rdAll (txAt w) w.2 200 0 u (tClear dv) = (-4, w.2, f, T) := by
  obtain ⟨k, T, hk, hT, hr⟩ := h dv
  obtain ⟨f, e⟩ := hr (txAt w) (fun i hi => if_pos hi) w.2 (199 - k + 1) u (Nat.le_refl _)
  refine ⟨f, T, hT, ?_⟩
  rw [show (200 : Nat) = k + (199 - k + 1) by omega, e]
  show (if w.2 < w.2 then _ else (-4, w.2, f, T)) = _
  rw [if_neg (Nat.lt_irrefl _)]
/-- an item of three numbers -/
theorem ps_three {w : TXT} {S S' : SN} {l a b c n : Nat} (h : PSg w S) (hg : grW w (itW w l a b c) n) (hn : 1 ≤ n) (hw3 : wantN (nI l) = 3)
    (hL : ∀ L, agW L (itW w l a b c) → L w.2 = nI l ∧ T3 L (w.2 + 1) ∧ vv L (w.2 + 1) = nI a ∧ vv L (nx L (w.2 + 1)) = nI b ∧ vv L (nx L (nx L (w.2 + 1))) = nI c ∧ nx L (nx L (nx L (w.2 + 1))) = w.2 + n)
    (hT : ∀ T, RT T S → ∃ T', RT T' S' ∧ ∀ F : Nat → Int32, F 0 = nI a → F 1 = nI b → F 2 = nI c → rdTake (nI l) F T = (true, T')) : PSg (itW w l a b c) S' := by
  refine ps_step h hg hn (fun T hT0 => ?_)
  obtain ⟨T', h1, h2⟩ := hT T hT0
  refine ⟨T', h1, fun L hl f => ?_⟩
  obtain ⟨x0, x1, x2, x3, x4, x5⟩ := hL L hl
  refine ⟨F3 L (w.2 + 1) f, ?_⟩
  have e := it_t (T := T) (by rw [x0]; exact hw3) (rl3_t f x1)
  rw [e, x0, h2 _ (by rw [F3_0]; exact x2) (by rw [F3_1]; exact x3) (by rw [F3_2]; exact x4), x5, hg.1]
/-- an item of one number -/
theorem ps_one {w : TXT} {S S' : SN} {l a : Nat} (h : PSg w S) (hw : w.2 + (1 + nd a) ≤ 200) (hl : 32 ≤ l ∧ l ≤ 126) (ha : a ≤ 99) (hw1 : wantN (nI l) = 1)
    (hT : ∀ T, RT T S → ∃ T', RT T' S' ∧ ∀ F : Nat → Int32, F 0 = nI a → rdTake (nI l) F T = (true, T')) : PSg (twW (txW w (nI l)) a 59) S' ∧ (twW (txW w (nI l)) a 59).2 = w.2 + (1 + nd a) := by
  have b1 := nd_b a
  obtain ⟨g0, l0⟩ := tx_one (w := w) (x := l) (by omega) hl.1 hl.2
  have s0 := g0.1
  obtain ⟨g1, l1⟩ := tw_one (w := txW w (nI l)) (a := a) (c := 59) (by omega) ha (Or.inr rfl)
  have g := g0.trans g1
  refine ⟨ps_step h g (by omega) (fun T hT0 => ?_), g.1⟩
  obtain ⟨T', h1, h2⟩ := hT T hT0
  refine ⟨T', h1, fun L hL f => ?_⟩
  obtain ⟨x1, y1, z1⟩ := l1 L hL
  have x0 := l0 L (hL.of g1)
  rw [s0] at x1 y1 z1
  refine ⟨upd f 0 (vv L (w.2 + 1)), ?_⟩
  have e := it_t (T := T) (by rw [x0]; exact hw1) (rl1_t f x1)
  rw [e, x0, h2 _ (by rw [upd_s]; exact y1), z1, g.1, Nat.add_assoc]
