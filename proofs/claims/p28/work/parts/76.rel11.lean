/-! ===== the readers of both sides ===== -/
section READ
def dE (L : Nat → Int32) (p : Nat) (en : Int32) : Prop := inR (L p) (nI 48) (nI 57) = true ∧ L (rNv L p).2 = en
abbrev nx (L : Nat → Int32) (p : Nat) : Nat := (rNv L p).2 + 1
abbrev vv (L : Nat → Int32) (p : Nat) : Int32 := (rNv L p).1
theorem dig {x : Int32} (h : inR x (nI 48) (nI 57) = true) : ∃ d, d ≤ 9 ∧ x = nI (48 + d) := by
  have h := of_decide_eq_true h
  rw [i_lt, i_lt, nI_toInt (by decide), nI_toInt (by decide)] at h
  obtain ⟨j, hj, e⟩ := nI_of (x := x) (by rw [i_lt, i_0]; omega)
  rw [e, nI_toInt hj] at h
  exact ⟨j - 48, by omega, by rw [e]; congr 1; omega⟩
theorem dgt_1 {d : Nat} (h : d ≤ 9) : dgt (-1) (nI (48 + d)) = nI d := by
  unfold dgt
  rw [if_pos (by decide), pk_mul, nI_add, pk_sub (by omega)]
  congr 1
  omega
theorem dgt_2 {d e : Nat} (h : d ≤ 9) (h2 : e ≤ 9) : dgt (nI d) (nI (48 + e)) = nI 10 * nI d + nI (48 + e) - nI 48 := by
  unfold dgt
  rw [if_neg (by rw [i_lt, n_0, nI_toInt (by omega)]; omega), Int32.mul_comm]
theorem rd_t {L : Nat → Int32} {p : Nat} (h : inR (L p) (nI 48) (nI 57) = true) : rdNum L p = rNv L p ∧ ¬ (rNv L p).1 < 0 := by
  obtain ⟨d, hd, ed⟩ := dig h
  have e0 : nI (48 + d) - nI 48 = nI d := by
    rw [pk_sub (by omega)]
    congr 1
    omega
  unfold rdNum rNv
  rw [if_pos h]
  by_cases c : inR (L (p + 1)) (nI 48) (nI 57) = true
  · obtain ⟨e, he, ee⟩ := dig c
    rw [if_pos c, if_pos c, ed, ee, dgt_1 hd, dgt_2 hd he, e0]
    refine ⟨rfl, ?_⟩
    show ¬ nI 10 * nI d + nI (48 + e) - nI 48 < 0
    rw [pk_mul, nI_add, pk_sub (by omega), i_lt, i_0, nI_toInt (by omega)]
    omega
  · rw [if_neg c, if_neg c, ed, dgt_1 hd, e0]
    refine ⟨rfl, ?_⟩
    show ¬ nI d < 0
    rw [i_lt, i_0, nI_toInt (by omega)]
    omega
theorem rd_f {L : Nat → Int32} {p : Nat} (h : ¬ inR (L p) (nI 48) (nI 57) = true) : (rdNum L p).1 < 0 := by
  unfold rdNum
  rw [if_neg h]
  show (-1 : Int32) < 0
  decide
theorem rN_iff {L : Nat → Int32} {p : Nat} {lo hi en Q : Int32} : (rNum L p lo hi en Q).1 = true ↔ dE L p en ∧ inR (rNv L p).1 lo hi = true := by
  unfold rNum dE
  by_cases c : inR (L p) (nI 48) (nI 57) = true
  · rw [if_pos c]
    by_cases c2 : (decide (L (rNv L p).2 = en) && inR (rNv L p).1 lo hi) = true
    · rw [if_pos c2]
      simp only [Bool.and_eq_true, decide_eq_true_eq] at c2
      exact ⟨fun _ => ⟨⟨c, c2.1⟩, c2.2⟩, fun _ => rfl⟩
    · rw [if_neg c2]
      simp only [Bool.and_eq_true, decide_eq_true_eq] at c2
      exact ⟨fun q => absurd (show false = true from q) (by decide), fun q => absurd ⟨q.1.2, q.2⟩ c2⟩
  · rw [if_neg c]
    exact ⟨fun q => absurd (show false = true from q) (by decide), fun q => absurd q.1.1 c⟩
theorem rN_eq {L : Nat → Int32} {p : Nat} {lo hi en Q : Int32} (h : (rNum L p lo hi en Q).1 = true) : rNum L p lo hi en Q = (true, nx L p, vv L p) := by
  obtain ⟨⟨h1, h2⟩, h3⟩ := rN_iff.mp h
  unfold rNum
  rw [if_pos h1, if_pos (by rw [h2, h3, decide_eq_true rfl]; rfl)]
theorem rl_t {L : Nat → Int32} {w m n p : Nat} {f : Nat → Int32} (h : dE L p (mark n w)) : rdLoop L w (m + 1) n p f = rdLoop L w m (n + 1) (nx L p) (upd f n (vv L p)) := by
  obtain ⟨h1, h2⟩ := rd_t h.1
  show (if (rdNum L p).1 < 0 then (false, (rdNum L p).2, f) else if L (rdNum L p).2 = mark n w then rdLoop L w m (n + 1) ((rdNum L p).2 + 1) (upd f n (rdNum L p).1) else (false, (rdNum L p).2, f)) = _
  rw [h1, if_neg h2, if_pos h.2]
theorem rl_f {L : Nat → Int32} {w m n p : Nat} {f : Nat → Int32} (h : ¬ dE L p (mark n w)) : (rdLoop L w (m + 1) n p f).1 = false := by
  show (if (rdNum L p).1 < 0 then (false, (rdNum L p).2, f) else if L (rdNum L p).2 = mark n w then rdLoop L w m (n + 1) ((rdNum L p).2 + 1) (upd f n (rdNum L p).1) else (false, (rdNum L p).2, f)).1 = false
  by_cases c : inR (L p) (nI 48) (nI 57) = true
  · obtain ⟨h1, h2⟩ := rd_t c
    rw [h1, if_neg h2, if_neg (fun q => h ⟨c, q⟩)]
  · rw [if_pos (rd_f c)]
def T3 (L : Nat → Int32) (p : Nat) : Prop := dE L p (nI 44) ∧ dE L (nx L p) (nI 44) ∧ dE L (nx L (nx L p)) (nI 59)
def F3 (L : Nat → Int32) (p : Nat) (f : Nat → Int32) : Nat → Int32 := upd (upd (upd f 0 (vv L p)) 1 (vv L (nx L p))) 2 (vv L (nx L (nx L p)))
theorem F3_0 (L : Nat → Int32) (p : Nat) (f : Nat → Int32) : F3 L p f 0 = vv L p := by
  unfold F3
  rw [upd_n _ _ (by decide), upd_n _ _ (by decide), upd_s]
theorem F3_1 (L : Nat → Int32) (p : Nat) (f : Nat → Int32) : F3 L p f 1 = vv L (nx L p) := by
  unfold F3
  rw [upd_n _ _ (by decide), upd_s]
theorem F3_2 (L : Nat → Int32) (p : Nat) (f : Nat → Int32) : F3 L p f 2 = vv L (nx L (nx L p)) := by
  unfold F3
  rw [upd_s]
theorem rl3_t {L : Nat → Int32} {p : Nat} (f : Nat → Int32) (h : T3 L p) : rdLoop L 3 3 0 p f = (true, nx L (nx L (nx L p)), F3 L p f) := by
  rw [rl_t (m := 2) (n := 0) h.1, rl_t (m := 1) (n := 1) h.2.1, rl_t (m := 0) (n := 2) h.2.2]
  rfl
theorem rl3_f {L : Nat → Int32} {p : Nat} (f : Nat → Int32) (h : ¬ T3 L p) : (rdLoop L 3 3 0 p f).1 = false := by
  by_cases h1 : dE L p (nI 44)
  · rw [rl_t (m := 2) (n := 0) h1]
    by_cases h2 : dE L (nx L p) (nI 44)
    · rw [rl_t (m := 1) (n := 1) h2]
      by_cases h3 : dE L (nx L (nx L p)) (nI 59)
      · exact absurd ⟨h1, h2, h3⟩ h
      · exact rl_f (m := 0) (n := 2) h3
    · exact rl_f (m := 1) (n := 1) h2
  · exact rl_f (m := 2) (n := 0) h1
theorem rl1_t {L : Nat → Int32} {p : Nat} (f : Nat → Int32) (h : dE L p (nI 59)) : rdLoop L 1 1 0 p f = (true, nx L p, upd f 0 (vv L p)) := by
  rw [rl_t (m := 0) (n := 0) h]
  rfl
theorem rl1_f {L : Nat → Int32} {p : Nat} (f : Nat → Int32) (h : ¬ dE L p (nI 59)) : (rdLoop L 1 1 0 p f).1 = false := rl_f (m := 0) (n := 0) h
/-! an item of the class -/
theorem it_t {L : Nat → Int32} {p w q : Nat} {f F : Nat → Int32} {T : TV} (hw : wantN (L p) = w) (h : rdLoop L w w 0 (p + 1) f = (true, q, F)) : rdItem L p f T = ((rdTake (L p) F T).1, q, F, (rdTake (L p) F T).2) := by
  unfold rdItem
  rw [hw, h]
  rfl
theorem it_f {L : Nat → Int32} {p w : Nat} {f : Nat → Int32} {T : TV} (hw : wantN (L p) = w) (h : (rdLoop L w w 0 (p + 1) f).1 = false) : (rdItem L p f T).1 = false := by
  unfold rdItem
  rw [hw, h]
  rfl
/-! meetings -/
theorem rM_iff {m : Nat} {L : Nat → Int32} {p : Nat} {Q : Int32} : rMok m L p Q = true ↔ ¬ m = 8 ∧ T3 L p ∧ inR (vv L p) (nI 0) (nI 3) = true ∧ inR (vv L (nx L p)) (nI 0) (nI 60) = true ∧ inR (vv L (nx L (nx L p))) (nI 0) (nI 60) = true := by
  unfold rMok
  simp only [Bool.and_eq_true, decide_eq_true_eq]
  constructor
  · rintro ⟨h0, h1, h2, h3⟩
    have e1 := rN_eq h1
    have i1 := rN_iff.mp h1
    have h2 : (rNum L (rM1 L p Q).2.1 (nI 0) (nI 60) (nI 44) (rM1 L p Q).2.2).1 = true := h2
    have h3 : (rNum L (rM2 L p Q).2.1 (nI 0) (nI 60) (nI 59) (rM2 L p Q).2.2).1 = true := h3
    rw [show rM1 L p Q = (true, nx L p, vv L p) from e1] at h2
    have e2 : rM2 L p Q = (true, nx L (nx L p), vv L (nx L p)) := by
      show rNum L (rM1 L p Q).2.1 (nI 0) (nI 60) (nI 44) (rM1 L p Q).2.2 = _
      rw [show rM1 L p Q = (true, nx L p, vv L p) from e1]
      exact rN_eq h2
    rw [e2] at h3
    have i2 := rN_iff.mp h2
    have i3 := rN_iff.mp h3
    exact ⟨h0, ⟨i1.1, i2.1, i3.1⟩, i1.2, i2.2, i3.2⟩
  · rintro ⟨h0, ⟨t1, t2, t3⟩, r1, r2, r3⟩
    have h1 : (rM1 L p Q).1 = true := rN_iff.mpr ⟨t1, r1⟩
    have e1 : rM1 L p Q = (true, nx L p, vv L p) := rN_eq h1
    have h2 : (rM2 L p Q).1 = true := by
      show (rNum L (rM1 L p Q).2.1 (nI 0) (nI 60) (nI 44) (rM1 L p Q).2.2).1 = true
      rw [e1]
      exact rN_iff.mpr ⟨t2, r2⟩
    have e2 : rM2 L p Q = (true, nx L (nx L p), vv L (nx L p)) := by
      show rNum L (rM1 L p Q).2.1 (nI 0) (nI 60) (nI 44) (rM1 L p Q).2.2 = _
      rw [e1]
      exact rN_eq (rN_iff.mpr ⟨t2, r2⟩)
    have h3 : (rM3 L p Q).1 = true := by
      show (rNum L (rM2 L p Q).2.1 (nI 0) (nI 60) (nI 59) (rM2 L p Q).2.2).1 = true
      rw [e2]
      exact rN_iff.mpr ⟨t3, r3⟩
    exact ⟨h0, h1, h2, h3⟩
theorem rM_eq {m : Nat} {L : Nat → Int32} {p : Nat} {Q : Int32} (h : rMok m L p Q = true) : (rM1 L p Q).2.2 = vv L p ∧ (rM2 L p Q).2.2 = vv L (nx L p) ∧ (rM3 L p Q).2.2 = vv L (nx L (nx L p)) ∧ (rMpq m L p Q).1 = nx L (nx L (nx L p)) := by
  have h' := h
  simp only [rMok, Bool.and_eq_true, decide_eq_true_eq] at h'
  obtain ⟨h0, ⟨t1, t2, t3⟩, r1, r2, r3⟩ := rM_iff.mp h
  have e1 : rM1 L p Q = (true, nx L p, vv L p) := rN_eq (rN_iff.mpr ⟨t1, r1⟩)
  have e2 : rM2 L p Q = (true, nx L (nx L p), vv L (nx L p)) := by
    show rNum L (rM1 L p Q).2.1 (nI 0) (nI 60) (nI 44) (rM1 L p Q).2.2 = _
    rw [e1]
    exact rN_eq (rN_iff.mpr ⟨t2, r2⟩)
  have e3 : rM3 L p Q = (true, nx L (nx L (nx L p)), vv L (nx L (nx L p))) := by
    show rNum L (rM2 L p Q).2.1 (nI 0) (nI 60) (nI 59) (rM2 L p Q).2.2 = _
    rw [e2]
    exact rN_eq (rN_iff.mpr ⟨t3, r3⟩)
  refine ⟨by rw [e1], by rw [e2], by rw [e3], ?_⟩
  unfold rMpq
  rw [if_neg h0, if_pos h'.2.1, if_pos h'.2.2.1, e3]
theorem meet_ok {w : SV} {g : Nat} {S : SN} (h : relS w g S) (hg : goodS w) {k x y : Int32} (ha : addMok w k x y = true) : relS (svAddM w k x y) g (nR S, nN S, upN (nM S) g (nM S g + 1), nS S, upd (nKd S) (8 * g + nM S g) k, upd (nX S) (8 * g + nM S g) x, upd (nY S) (8 * g + nM S g) y, nF S, nT S, nNm S) ∧ goodS (svAddM w k x y) := by
  have ha0 := ha
  simp only [addMok, Bool.and_eq_true, decide_eq_true_eq] at ha
  obtain ⟨h8, hk, hx, hy⟩ := ha
  obtain ⟨x', hx1, rfl⟩ := inR_nI hx (by decide)
  obtain ⟨y', hy1, rfl⟩ := inR_nI hy (by decide)
  obtain ⟨h1, h2, h3, h4⟩ := h
  obtain ⟨g1, g2, g3, g4⟩ := hg
  unfold svAddM
  rw [if_pos ha0, ← h1]
  refine ⟨⟨?_, h2, fun i hi => ?_, h4⟩, ⟨⟨by show sM w + 1 ≤ 8; omega, g1.2⟩, fun i hi => ?_, fun q hq => ?_, g4⟩⟩
  · show sM w + 1 = upN (nM S) g (sM w + 1) g
    rw [upN_s]
  · have hi : i < sM w + 1 := hi
    show upd (sKd w) (sM w) k i = upd (nKd S) (8 * g + sM w) k (8 * g + i) ∧ upd (sX w) (sM w) (nI x') i = upd (nX S) (8 * g + sM w) (nI x') (8 * g + i) ∧ upd (sY w) (sM w) (nI y') i = upd (nY S) (8 * g + sM w) (nI y') (8 * g + i)
    unfold upd
    by_cases e : i = sM w
    · rw [if_pos e, if_pos (by omega), if_pos e, if_pos (by omega), if_pos e, if_pos (by omega)]
      exact ⟨rfl, rfl, rfl⟩
    · rw [if_neg e, if_neg (by omega), if_neg e, if_neg (by omega), if_neg e, if_neg (by omega)]
      exact h3 i (by omega)
  · have hi : i < sM w + 1 := hi
    show (∃ x, x ≤ 60 ∧ upd (sX w) (sM w) (nI x') i = nI x) ∧ ∃ y, y ≤ 60 ∧ upd (sY w) (sM w) (nI y') i = nI y
    unfold upd
    by_cases e : i = sM w
    · rw [if_pos e, if_pos e]
      exact ⟨⟨x', hx1, rfl⟩, y', hy1, rfl⟩
    · rw [if_neg e, if_neg e]
      exact g2 i (by omega)
  · obtain ⟨a, b, k1, k2, k3⟩ := g3 q hq
    exact ⟨a, b, Nat.lt_succ_of_lt k1, Nat.lt_succ_of_lt k2, k3⟩
theorem same_meet {S : SN} {g : Nat} (hg : g < 2) (h8 : nM S g < 8) (k x y : Int32) (c : Nat) : sameB S (nR S, nN S, upN (nM S) g c, nS S, upd (nKd S) (8 * g + nM S g) k, upd (nX S) (8 * g + nM S g) x, upd (nY S) (8 * g + nM S g) y, nF S, nT S, nNm S) (1 - g) :=
  ⟨if_neg (by omega), rfl, fun i hi => ⟨upd_n _ _ (by omega), upd_n _ _ (by omega), upd_n _ _ (by omega), rfl, rfl, rfl⟩⟩
theorem okXY_updI {F : Nat → Int32} (h : okXY F) {k : Nat} {x : Int32} (hx : inR x (nI 0) (nI 60) = true) : okXY (upd F k x) := by
  obtain ⟨x', hx1, rfl⟩ := inR_nI hx (by decide)
  exact okXY_upd h hx1
theorem RT_meet {v : TV} {S : SN} {z : Int32} {g : Nat} (h : RT v S) (hi : inS v S z g) {k x y : Int32} (ha : addMok (svOf v z) k x y = true) : RT (tPut v z (svAddM (svOf v z) k x y)) (nR S, nN S, upN (nM S) g (nM S g + 1), nS S, upd (nKd S) (8 * g + nM S g) k, upd (nX S) (8 * g + nM S g) x, upd (nY S) (8 * g + nM S g) y, nF S, nT S, nNm S) := by
  obtain ⟨r, gd⟩ := meet_ok hi.2.2.1 hi.2.2.2.1 ha
  simp only [addMok, Bool.and_eq_true, decide_eq_true_eq] at ha
  have h1 := hi.2.2.1.1
  exact RT_put h hi r gd (same_meet hi.1 (by omega) _ _ _ _) ⟨okXY_updI h.2.2.2.2.1.1 ha.2.2.1, okXY_updI h.2.2.2.2.1.2 ha.2.2.2⟩ rfl rfl
theorem RT_join {v : TV} {S : SN} {z : Int32} {g : Nat} (h : RT v S) (hi : inS v S z g) {x y n : Int32} (ha : addSok (svOf v z) x y n = true) : RT (tPut v z (svAddS (svOf v z) x y n)) (nR S, nN S, nM S, upN (nS S) g (nS S g + 1), nKd S, nX S, nY S, upd (nF S) (8 * g + nS S g) x, upd (nT S) (8 * g + nS S g) y, upd (nNm S) (8 * g + nS S g) n) := by
  obtain ⟨r, gd⟩ := join_ok hi.2.2.1 hi.2.2.2.1 ha
  simp only [addSok, Bool.and_eq_true, decide_eq_true_eq] at ha
  have h1 := hi.2.2.1.2.1
  exact RT_put h hi r gd (same_join hi.1 (by omega) _ _ _ _) h.2.2.2.2.1 rfl rfl
/-- an item that tells of a meeting -/
theorem itM_rel {L : Nat → Int32} {f : Nat → Int32} {T : TV} {z : RZ} {c : Int32} {g : Nat} (h : RT T z.2.2) (hi : inS T z.2.2 c g) (hw : wantN (L z.1) = 3) (hT : ∀ F, rdTake (L z.1) F T = (addMok (svOf T c) (F 0) (F 1) (F 2), tPut T c (svAddM (svOf T c) (F 0) (F 1) (F 2)))) (hR : rItm L z = rzM g L z) :
    (rdItem L z.1 f T).1 = (rItm L z).1 ∧ ((rItm L z).1 = true → (rdItem L z.1 f T).2.1 = (rItm L z).2.1 ∧ RT (rdItem L z.1 f T).2.2.2 (rItm L z).2.2.2) := by
  have hM : sM (svOf T c) = zM z g := hi.2.2.1.1
  have h8 : sM (svOf T c) ≤ 8 := hi.2.2.2.1.1.1
  rw [hR]
  by_cases t : T3 L (z.1 + 1)
  · have e := it_t (T := T) hw (rl3_t f t)
    rw [hT, F3_0, F3_1, F3_2] at e
    have eq : addMok (svOf T c) (vv L (z.1 + 1)) (vv L (nx L (z.1 + 1))) (vv L (nx L (nx L (z.1 + 1)))) = rMok (zM z g) L (z.1 + 1) z.2.1 := by
      rw [Bool.eq_iff_iff, rM_iff]
      simp only [addMok, Bool.and_eq_true, decide_eq_true_eq]
      constructor
      · rintro ⟨a1, a2, a3, a4⟩
        exact ⟨by omega, t, a2, a3, a4⟩
      · rintro ⟨a1, -, a2, a3, a4⟩
        exact ⟨by omega, a2, a3, a4⟩
    rw [e]
    refine ⟨eq, fun q => ?_⟩
    have q : rMok (zM z g) L (z.1 + 1) z.2.1 = true := q
    obtain ⟨m1, m2, m3, m4⟩ := rM_eq q
    refine ⟨m4.symm, ?_⟩
    have hr := RT_meet h hi (eq.trans q)
    show RT (tPut T c (svAddM (svOf T c) (vv L (z.1 + 1)) (vv L (nx L (z.1 + 1))) (vv L (nx L (nx L (z.1 + 1)))))) (rzM g L z).2.2.2
    unfold rzM
    rw [if_pos q, if_pos q, if_pos q, if_pos q, m1, m2, m3]
    exact hr
  · have e := it_f (T := T) hw (rl3_f f t)
    have q : ¬ rMok (zM z g) L (z.1 + 1) z.2.1 = true := fun q => t (rM_iff.mp q).2.1
    have q2 : (rzM g L z).1 = false := by
      show rMok (zM z g) L (z.1 + 1) z.2.1 = false
      simpa using q
    rw [e, q2]
    exact ⟨rfl, fun c => absurd c (by decide)⟩
/-! streets -/
theorem rS_iff {m : Nat} {ss : Nat → Nat} {fr tt : Nat → Int32} {g : Nat} {L : Nat → Int32} {p : Nat} {Q : Int32} : rSok m ss fr tt g L p Q = true ↔ ¬ ss g = 8 ∧ T3 L p ∧ inR (vv L p) (nI 0) (nI m - nI 1) = true ∧ inR (vv L (nx L p)) (nI 0) (nI m - nI 1) = true ∧ rSc ss fr tt g (vv L p) (vv L (nx L p)) = true ∧ inR (vv L (nx L (nx L p))) (nI 0) (nI 9) = true := by
  unfold rSok
  simp only [Bool.and_eq_true, decide_eq_true_eq]
  constructor
  · rintro ⟨h0, h1, h2, hc, h3⟩
    have e1 : rS1 m L p Q = (true, nx L p, vv L p) := rN_eq h1
    have i1 := rN_iff.mp h1
    have h2 : (rNum L (rS1 m L p Q).2.1 (nI 0) (nI m - nI 1) (nI 44) (rS1 m L p Q).2.2).1 = true := h2
    have h3 : (rNum L (rS2 m L p Q).2.1 (nI 0) (nI 9) (nI 59) (rS2 m L p Q).2.2).1 = true := h3
    rw [e1] at h2
    have e2 : rS2 m L p Q = (true, nx L (nx L p), vv L (nx L p)) := by
      show rNum L (rS1 m L p Q).2.1 (nI 0) (nI m - nI 1) (nI 44) (rS1 m L p Q).2.2 = _
      rw [e1]
      exact rN_eq h2
    rw [e2] at h3
    have i2 := rN_iff.mp h2
    have i3 := rN_iff.mp h3
    rw [e1, e2] at hc
    exact ⟨h0, ⟨i1.1, i2.1, i3.1⟩, i1.2, i2.2, hc, i3.2⟩
  · rintro ⟨h0, ⟨t1, t2, t3⟩, r1, r2, hc, r3⟩
    have h1 : (rS1 m L p Q).1 = true := rN_iff.mpr ⟨t1, r1⟩
    have e1 : rS1 m L p Q = (true, nx L p, vv L p) := rN_eq h1
    have h2 : (rS2 m L p Q).1 = true := by
      show (rNum L (rS1 m L p Q).2.1 (nI 0) (nI m - nI 1) (nI 44) (rS1 m L p Q).2.2).1 = true
      rw [e1]
      exact rN_iff.mpr ⟨t2, r2⟩
    have e2 : rS2 m L p Q = (true, nx L (nx L p), vv L (nx L p)) := by
      show rNum L (rS1 m L p Q).2.1 (nI 0) (nI m - nI 1) (nI 44) (rS1 m L p Q).2.2 = _
      rw [e1]
      exact rN_eq (rN_iff.mpr ⟨t2, r2⟩)
    have h3 : (rS3 m L p Q).1 = true := by
      show (rNum L (rS2 m L p Q).2.1 (nI 0) (nI 9) (nI 59) (rS2 m L p Q).2.2).1 = true
      rw [e2]
      exact rN_iff.mpr ⟨t3, r3⟩
    exact ⟨h0, h1, h2, by rw [e1, e2]; exact hc, h3⟩
theorem rS_eq {m : Nat} {ss : Nat → Nat} {fr tt : Nat → Int32} {g : Nat} {L : Nat → Int32} {p : Nat} {Q : Int32} (h : rSok m ss fr tt g L p Q = true) : (rS1 m L p Q).2.2 = vv L p ∧ (rS2 m L p Q).2.2 = vv L (nx L p) ∧ (rS3 m L p Q).2.2 = vv L (nx L (nx L p)) ∧ (rSpq m ss fr tt g L p Q).1 = nx L (nx L (nx L p)) := by
  have h' := h
  simp only [rSok, Bool.and_eq_true, decide_eq_true_eq] at h'
  obtain ⟨h0, ⟨t1, t2, t3⟩, r1, r2, hc, r3⟩ := rS_iff.mp h
  have e1 : rS1 m L p Q = (true, nx L p, vv L p) := rN_eq (rN_iff.mpr ⟨t1, r1⟩)
  have e2 : rS2 m L p Q = (true, nx L (nx L p), vv L (nx L p)) := by
    show rNum L (rS1 m L p Q).2.1 (nI 0) (nI m - nI 1) (nI 44) (rS1 m L p Q).2.2 = _
    rw [e1]
    exact rN_eq (rN_iff.mpr ⟨t2, r2⟩)
  have e3 : rS3 m L p Q = (true, nx L (nx L (nx L p)), vv L (nx L (nx L p))) := by
    show rNum L (rS2 m L p Q).2.1 (nI 0) (nI 9) (nI 59) (rS2 m L p Q).2.2 = _
    rw [e2]
    exact rN_eq (rN_iff.mpr ⟨t3, r3⟩)
  refine ⟨by rw [e1], by rw [e2], by rw [e3], ?_⟩
  unfold rSpq
  rw [if_neg h0, if_pos h'.2.1, if_pos h'.2.2.1, if_pos h'.2.2.2.1, e3]
/-- an item that tells of a street -/
theorem itS_rel {L : Nat → Int32} {f : Nat → Int32} {T : TV} {z : RZ} {c : Int32} {g : Nat} (h : RT T z.2.2) (hi : inS T z.2.2 c g) (hw : wantN (L z.1) = 3) (hT : ∀ F, rdTake (L z.1) F T = (addSok (svOf T c) (F 0) (F 1) (F 2), tPut T c (svAddS (svOf T c) (F 0) (F 1) (F 2)))) (hR : rItm L z = rzS g L z) :
    (rdItem L z.1 f T).1 = (rItm L z).1 ∧ ((rItm L z).1 = true → (rdItem L z.1 f T).2.1 = (rItm L z).2.1 ∧ RT (rdItem L z.1 f T).2.2.2 (rItm L z).2.2.2) := by
  have hM : sM (svOf T c) = zM z g := hi.2.2.1.1
  have hS : sS (svOf T c) = zS z g := hi.2.2.1.2.1
  have h8 : sM (svOf T c) ≤ 8 := hi.2.2.2.1.1.1
  have h8' : sS (svOf T c) ≤ 8 := hi.2.2.2.1.1.2
  rw [hR]
  by_cases t : T3 L (z.1 + 1)
  · have e := it_t (T := T) hw (rl3_t f t)
    rw [hT, F3_0, F3_1, F3_2] at e
    have hb := bet_iff hi.2.2.1 hi.2.2.2.1 (vv L (z.1 + 1)) (vv L (nx L (z.1 + 1)))
    have eq : addSok (svOf T c) (vv L (z.1 + 1)) (vv L (nx L (z.1 + 1))) (vv L (nx L (nx L (z.1 + 1)))) = rSok (zM z g) (zS z) (zF z) (zT z) g L (z.1 + 1) z.2.1 := by
      rw [Bool.eq_iff_iff, rS_iff]
      simp only [addSok, rSc, Bool.and_eq_true, decide_eq_true_eq]
      rw [hasN_in h8, hasN_in h8, hM, hb]
      constructor
      · rintro ⟨a1, a2, a3, a4, a5, a6⟩
        exact ⟨by omega, t, a2, a3, ⟨a4, a5⟩, a6⟩
      · rintro ⟨a1, -, a2, a3, ⟨a4, a5⟩, a6⟩
        exact ⟨by omega, a2, a3, a4, a5, a6⟩
    rw [e]
    refine ⟨eq, fun q => ?_⟩
    have q : rSok (zM z g) (zS z) (zF z) (zT z) g L (z.1 + 1) z.2.1 = true := q
    obtain ⟨m1, m2, m3, m4⟩ := rS_eq q
    refine ⟨m4.symm, ?_⟩
    have hr := RT_join h hi (eq.trans q)
    show RT (tPut T c (svAddS (svOf T c) (vv L (z.1 + 1)) (vv L (nx L (z.1 + 1))) (vv L (nx L (nx L (z.1 + 1)))))) (rzS g L z).2.2.2
    unfold rzS
    rw [if_pos q, if_pos q, if_pos q, if_pos q, m1, m2, m3]
    exact hr
  · have e := it_f (T := T) hw (rl3_f f t)
    have q : ¬ rSok (zM z g) (zS z) (zF z) (zT z) g L (z.1 + 1) z.2.1 = true := fun q => t (rS_iff.mp q).2.1
    have q2 : (rzS g L z).1 = false := by
      show rSok (zM z g) (zS z) (zF z) (zT z) g L (z.1 + 1) z.2.1 = false
      simpa using q
    rw [e, q2]
    exact ⟨rfl, fun c => absurd c (by decide)⟩
/-! near, rounds -/
theorem itR_rel1 {L : Nat → Int32} {f : Nat → Int32} {T : TV} {z : RZ} {lo hi : Int32} {b : Bool × RZ} (hw : wantN (L z.1) = 1) {U : Int32 → TV} (hT : ∀ F, rdTake (L z.1) F T = (inR (F 0) lo hi, U (F 0))) (hR : rItm L z = b) (hb : b.1 = (rNum L (z.1 + 1) lo hi (nI 59) z.2.1).1) (hp : b.2.1 = (rNum L (z.1 + 1) lo hi (nI 59) z.2.1).2.1) (hU : (rNum L (z.1 + 1) lo hi (nI 59) z.2.1).1 = true → ∀ x, x = (rNum L (z.1 + 1) lo hi (nI 59) z.2.1).2.2 → inR x lo hi = true → RT (U x) b.2.2.2) :
    (rdItem L z.1 f T).1 = (rItm L z).1 ∧ ((rItm L z).1 = true → (rdItem L z.1 f T).2.1 = (rItm L z).2.1 ∧ RT (rdItem L z.1 f T).2.2.2 (rItm L z).2.2.2) := by
  rw [hR, hb, hp]
  by_cases t : dE L (z.1 + 1) (nI 59)
  · have e := it_t (T := T) hw (rl1_t f t)
    rw [hT, upd_s] at e
    have eq : inR (vv L (z.1 + 1)) lo hi = (rNum L (z.1 + 1) lo hi (nI 59) z.2.1).1 := by
      rw [Bool.eq_iff_iff, rN_iff]
      exact ⟨fun q => ⟨t, q⟩, fun q => q.2⟩
    rw [e]
    refine ⟨eq, fun q => ?_⟩
    have en := rN_eq q
    refine ⟨by rw [en], hU q _ (by rw [en]) (eq.trans q)⟩
  · have e := it_f (T := T) hw (rl1_f f t)
    have q2 : (rNum L (z.1 + 1) lo hi (nI 59) z.2.1).1 = false := by
      cases c : (rNum L (z.1 + 1) lo hi (nI 59) z.2.1).1 with
      | false => rfl
      | true => exact absurd (rN_iff.mp c).1 t
    rw [e, q2]
    exact ⟨rfl, fun c => absurd c (by decide)⟩
theorem item_rel {L : Nat → Int32} {f : Nat → Int32} {T : TV} {z : RZ} (h : RT T z.2.2) :
    (rdItem L z.1 f T).1 = (rItm L z).1 ∧ ((rItm L z).1 = true → (rdItem L z.1 f T).2.1 = (rItm L z).2.1 ∧ RT (rdItem L z.1 f T).2.2.2 (rItm L z).2.2.2) := by
  by_cases c1 : L z.1 = nI 97
  · refine itM_rel (c := nI 0) (g := 0) h (inS_0 h) (by rw [c1]; decide) (fun F => ?_) (if_pos c1)
    unfold rdTake
    rw [if_pos c1, svOf_0, tPut_0]
  by_cases c2 : L z.1 = nI 98
  · refine itM_rel (c := nI 1) (g := 1) h (inS_1 h) (by rw [c2]; decide) (fun F => ?_) (by unfold rItm; rw [if_neg c1, if_pos c2])
    unfold rdTake
    rw [if_neg c1, if_pos c2, svOf_1, tPut_1]
  by_cases c3 : L z.1 = nI 110
  · refine itR_rel1 (lo := nI 0) (hi := nI 3) (b := rzRo L z) (U := tSetN T) (by rw [c3]; decide) (fun F => ?_) (by unfold rItm; rw [if_neg c1, if_neg c2, if_pos c3]) rfl rfl (fun q x hx hr => ?_)
    · unfold rdTake
      rw [if_neg c1, if_neg c2, if_pos c3]
    · unfold tSetN
      rw [if_pos hr]
      have q' : (rRo L (z.1 + 1) z.2.1).1 = true := q
      have hx' : x = (rRo L (z.1 + 1) z.2.1).2.2 := hx
      unfold rzRo
      rw [if_pos q', ← hx']
      obtain ⟨k, hk, rfl⟩ := inR_nI hr (by decide)
      exact ⟨h.1, rfl, h.2.2.1, h.2.2.2.1, h.2.2.2.2.1, h.2.2.2.2.2.1, by show (nI k).toNatClampNeg ≤ 3; rw [nI_clamp (by omega)]; exact hk⟩
  by_cases c4 : L z.1 = nI 114
  · refine itR_rel1 (lo := nI 1) (hi := nI 20) (b := rzNe L z) (U := tSetR T) (by rw [c4]; decide) (fun F => ?_) (by unfold rItm; rw [if_neg c1, if_neg c2, if_neg c3, if_pos c4]) rfl rfl (fun q x hx hr => ?_)
    · unfold rdTake
      rw [if_neg c1, if_neg c2, if_neg c3, if_pos c4]
    · unfold tSetR
      rw [if_pos hr]
      have q' : (rNe L (z.1 + 1) z.2.1).1 = true := q
      have hx' : x = (rNe L (z.1 + 1) z.2.1).2.2 := hx
      unfold rzNe
      rw [if_pos q', ← hx']
      obtain ⟨k, hk1, hk, rfl⟩ := inR_nI1 hr (by decide)
      exact ⟨rfl, h.2.1, h.2.2.1, h.2.2.2.1, h.2.2.2.2.1, ⟨k, hk1, hk, rfl⟩, h.2.2.2.2.2.2⟩
  by_cases c5 : L z.1 = nI 115
  · refine itS_rel (c := nI 0) (g := 0) h (inS_0 h) (by rw [c5]; decide) (fun F => ?_) (by unfold rItm; rw [if_neg c1, if_neg c2, if_neg c3, if_neg c4, if_pos c5])
    unfold rdTake
    rw [if_neg c1, if_neg c2, if_neg c3, if_neg c4, if_pos c5, svOf_0, tPut_0]
  by_cases c6 : L z.1 = nI 116
  · refine itS_rel (c := nI 1) (g := 1) h (inS_1 h) (by rw [c6]; decide) (fun F => ?_) (by unfold rItm; rw [if_neg c1, if_neg c2, if_neg c3, if_neg c4, if_neg c5, if_pos c6])
    unfold rdTake
    rw [if_neg c1, if_neg c2, if_neg c3, if_neg c4, if_neg c5, if_pos c6, svOf_1, tPut_1]
  · have hw : wantN (L z.1) = 0 := by
      unfold wantN
      rw [if_neg c1, if_neg c2, if_neg c3, if_neg c4, if_neg c5, if_neg c6]
    have e := it_t (T := T) (f := f) (q := z.1 + 1) (F := f) hw rfl
    have e2 : (rdTake (L z.1) f T).1 = false := by
      unfold rdTake
      rw [if_neg c1, if_neg c2, if_neg c3, if_neg c4, if_neg c5, if_neg c6]
    have e3 : (rItm L z).1 = false := by
      unfold rItm
      rw [if_neg c1, if_neg c2, if_neg c3, if_neg c4, if_neg c5, if_neg c6]
    rw [e, e3]
    exact ⟨e2, fun c => absurd c (by decide)⟩
theorem all_rel {L : Nat → Int32} {len : Nat} (hlen : len ≤ 200) : ∀ (m n : Nat) (f : Nat → Int32) (T : TV) (z : RZ), RT T z.2.2 → len - z.1 ≤ m → len - z.1 ≤ n → (rdAll L len m z.1 f T).1 = (rAll L len n z).1 ∧ ((rAll L len n z).1 = -4 → RT (rdAll L len m z.1 f T).2.2.2 (rAll L len n z).2.2.2)
  | 0, n, f, T, z, h, h1, h2 => by
    rw [rAll_end (by omega)]
    exact ⟨rfl, fun _ => h⟩
  | m + 1, n, f, T, z, h, h1, h2 => by
    show (if z.1 < len then (if (rdItem L z.1 f T).1 then rdAll L len m (rdItem L z.1 f T).2.1 (rdItem L z.1 f T).2.2.1 (rdItem L z.1 f T).2.2.2 else (nI z.1, (rdItem L z.1 f T).2)) else (-4, z.1, f, T)).1 = _ ∧ (_ → RT (if z.1 < len then (if (rdItem L z.1 f T).1 then rdAll L len m (rdItem L z.1 f T).2.1 (rdItem L z.1 f T).2.2.1 (rdItem L z.1 f T).2.2.2 else (nI z.1, (rdItem L z.1 f T).2)) else (-4, z.1, f, T)).2.2.2 _)
    by_cases hl : z.1 < len
    · obtain ⟨e1, e2⟩ := item_rel (L := L) (f := f) h
      rw [if_pos hl]
      cases c : (rItm L z).1 with
      | false =>
        rw [rAll_bad hl (by omega) c, if_neg (by rw [e1, c]; decide)]
        exact ⟨rfl, fun q => absurd q (nI_ne_m4 (by omega))⟩
      | true =>
        obtain ⟨e3, e4⟩ := e2 c
        have hle := (rItm_le L z).1
        rw [rAll_go hl (by omega) c, if_pos (e1.trans c), e3]
        exact all_rel hlen m (n - 1) _ _ (rItm L z).2 e4 (by omega) (by omega)
    · rw [if_neg hl, rAll_end hl]
      exact ⟨rfl, fun _ => h⟩
end READ
