/-! ===== towns, text, shelves, reader: what their methods answer ===== -/
def okT (v : TV) : Prop := okS (tA v) ∧ okS (tB v) ∧ tN v ≤ 3
def reachV (R k : Int32) : Int32 := if k = nI 1 then R / nI 2 else if k = nI 2 then (if R + nI 5 < nI 20 then R + nI 5 else nI 20) else if k = nI 3 then R / nI 2 + nI 1 else R
def sqD (v : TV) (i j : Nat) : Int32 := (sX (tA v) i - sX (tB v) j) * (sX (tA v) i - sX (tB v) j) + (sY (tA v) i - sY (tB v) j) * (sY (tA v) i - sY (tB v) j)
def svClear (v : SV) : SV := (sKd v, sX v, sY v, sU v, sV v, sNm v, 0, 0)
def tClear (v : TV) : TV := (svClear (tA v), svClear (tB v), nI 10, 2)
def tCopy (o v : TV) : TV := (svCopy (tA o) (tA v), svCopy (tB o) (tB v), tR o, tN o)
def tSetR (v : TV) (x : Int32) : TV := if inR x (nI 1) (nI 20) then (tA v, tB v, x, tN v) else v
def tSetN (v : TV) (x : Int32) : TV := if inR x (nI 0) (nI 3) then (tA v, tB v, tR v, x.toNatClampNeg) else v
theorem inR_nI {x : Int32} {n : Nat} (h : inR x (nI 0) (nI n) = true) (hn : n + 1 < 2 ^ 31) : ∃ k, k ≤ n ∧ x = nI k := by
  have h := of_decide_eq_true h
  rcases pk_ix x (n := n + 1) hn with q | q | q
  · exact absurd q h.1
  · refine absurd ?_ h.2
    rw [Int32.lt_iff_toInt_lt, nI_toInt (by omega)]
    rw [Int32.le_iff_toInt_le, nI_toInt hn] at q
    omega
  · obtain ⟨j, h1, h2⟩ := q
    exact ⟨j, by omega, h2⟩
/-- the text: its letters, its length; beyond the end stands 0 -/
def txAt (w : (Nat → Int32) × Nat) (k : Nat) : Int32 := if k < w.2 then w.1 k else nI 0
def chr (x : Int32) : Int32 := vp_nar .char ((x.toUInt32 % 65536).toInt32)
def txAdd (w : (Nat → Int32) × Nat) (x : Int32) : (Nat → Int32) × Nat := if w.2 < 200 then (upd w.1 w.2 (chr x), w.2 + 1) else w
def shTakes (s x : Int32) : Bool := decide (s = nI 2) || (decide (¬ x < nI 8) == decide (s = nI 1))
def clrF (f : Nat → Int32) (k : Nat) : Nat → Int32 := fun i => if i < k then -4 else f i
theorem clrF_0 (f : Nat → Int32) : clrF f 0 = f := by
  funext i
  simp [clrF]
theorem clrF_s (f : Nat → Int32) (k : Nat) : upd (clrF f k) k (-4) = clrF f (k + 1) := by
  funext i
  unfold upd clrF
  by_cases e : i = k
  · subst e; simp
  · simp only [if_neg e]
    by_cases h : i < k
    · rw [if_pos h, if_pos (by omega)]
    · rw [if_neg h, if_neg (by omega)]
theorem inR_t {x lo hi : Nat} (h : lo ≤ x ∧ x ≤ hi) (hh : hi < 2 ^ 31) : inR (nI x) (nI lo) (nI hi) = true := decide_eq_true ⟨nI_nlt h.1 (by omega), nI_nlt h.2 hh⟩
/-! the reader -/
def dgt (a l : Int32) : Int32 := (if a < nI 0 then nI 0 else a) * nI 10 + l - nI 48
def rdNum (L : Nat → Int32) (p : Nat) : Int32 × Nat :=
  if inR (L p) (nI 48) (nI 57) then (if inR (L (p + 1)) (nI 48) (nI 57) then (dgt (dgt (-1) (L p)) (L (p + 1)), p + 1 + 1) else (dgt (-1) (L p), p + 1)) else (-1, p)
theorem rdNum_le (L : Nat → Int32) (p : Nat) : (rdNum L p).2 ≤ p + 2 := by
  unfold rdNum
  split
  · split <;> simp
  · simp
theorem rdNum_ge (L : Nat → Int32) (p : Nat) : p ≤ (rdNum L p).2 := by
  unfold rdNum
  split
  · split <;> simp <;> omega
  · simp
def wantN (l : Int32) : Nat := if l = nI 97 then 3 else if l = nI 98 then 3 else if l = nI 110 then 1 else if l = nI 114 then 1 else if l = nI 115 then 3 else if l = nI 116 then 3 else 0
theorem wantN_le (l : Int32) : wantN l ≤ 3 := by
  unfold wantN
  repeat (split; · omega)
  omega
def mark (n w : Nat) : Int32 := if n = w - 1 then nI 59 else nI 44
def rdLoop (L : Nat → Int32) (w : Nat) : Nat → Nat → Nat → (Nat → Int32) → Bool × Nat × (Nat → Int32)
  | 0, n, p, f => (true, p, f)
  | m + 1, n, p, f => if (rdNum L p).1 < 0 then (false, (rdNum L p).2, f) else if L (rdNum L p).2 = mark n w then rdLoop L w m (n + 1) ((rdNum L p).2 + 1) (upd f n (rdNum L p).1) else (false, (rdNum L p).2, f)
theorem rdLoop_le (L : Nat → Int32) (w : Nat) : ∀ (m n p : Nat) (f : Nat → Int32), (rdLoop L w m n p f).2.1 ≤ p + 3 * m
  | 0, n, p, f => by simp [rdLoop]
  | m + 1, n, p, f => by
    have h1 := rdNum_le L p
    unfold rdLoop
    split
    · simp; omega
    · split
      · have := rdLoop_le L w m (n + 1) ((rdNum L p).2 + 1) (upd f n (rdNum L p).1)
        omega
      · simp; omega
theorem rdLoop_ge (L : Nat → Int32) (w : Nat) : ∀ (m n p : Nat) (f : Nat → Int32), p ≤ (rdLoop L w m n p f).2.1
  | 0, n, p, f => by simp [rdLoop]
  | m + 1, n, p, f => by
    have h1 := rdNum_ge L p
    unfold rdLoop
    split
    · simpa using h1
    · split
      · have := rdLoop_ge L w m (n + 1) ((rdNum L p).2 + 1) (upd f n (rdNum L p).1)
        omega
      · simpa using h1
def rdTake (l : Int32) (f : Nat → Int32) (T : TV) : Bool × TV :=
  if l = nI 97 then (addMok (tA T) (f 0) (f 1) (f 2), (svAddM (tA T) (f 0) (f 1) (f 2), tB T, tR T, tN T))
  else if l = nI 98 then (addMok (tB T) (f 0) (f 1) (f 2), (tA T, svAddM (tB T) (f 0) (f 1) (f 2), tR T, tN T))
  else if l = nI 110 then (inR (f 0) (nI 0) (nI 3), tSetN T (f 0))
  else if l = nI 114 then (inR (f 0) (nI 1) (nI 20), tSetR T (f 0))
  else if l = nI 115 then (addSok (tA T) (f 0) (f 1) (f 2), (svAddS (tA T) (f 0) (f 1) (f 2), tB T, tR T, tN T))
  else if l = nI 116 then (addSok (tB T) (f 0) (f 1) (f 2), (tA T, svAddS (tB T) (f 0) (f 1) (f 2), tR T, tN T))
  else (false, T)
def rdItem (L : Nat → Int32) (p : Nat) (f : Nat → Int32) (T : TV) : Bool × Nat × (Nat → Int32) × TV :=
  if (rdLoop L (wantN (L p)) (wantN (L p)) 0 (p + 1) f).1 then
    ((rdTake (L p) (rdLoop L (wantN (L p)) (wantN (L p)) 0 (p + 1) f).2.2 T).1, (rdLoop L (wantN (L p)) (wantN (L p)) 0 (p + 1) f).2.1, (rdLoop L (wantN (L p)) (wantN (L p)) 0 (p + 1) f).2.2, (rdTake (L p) (rdLoop L (wantN (L p)) (wantN (L p)) 0 (p + 1) f).2.2 T).2)
  else (false, (rdLoop L (wantN (L p)) (wantN (L p)) 0 (p + 1) f).2.1, (rdLoop L (wantN (L p)) (wantN (L p)) 0 (p + 1) f).2.2, T)
def rdAll (L : Nat → Int32) (len : Nat) : Nat → Nat → (Nat → Int32) → TV → Int32 × Nat × (Nat → Int32) × TV
  | 0, p, f, T => (-4, p, f, T)
  | m + 1, p, f, T => if p < len then (if (rdItem L p f T).1 then rdAll L len m (rdItem L p f T).2.1 (rdItem L p f T).2.2.1 (rdItem L p f T).2.2.2 else (nI p, (rdItem L p f T).2)) else (-4, p, f, T)
theorem okS_clear (v : SV) : okS (svClear v) := ⟨Nat.zero_le _, Nat.zero_le _⟩
theorem okT_clear (v : TV) : okT (tClear v) := ⟨okS_clear _, okS_clear _, Nat.le_succ 2⟩
theorem okS_addM {v : SV} (h : okS v) (k x y : Int32) : okS (svAddM v k x y) := by
  unfold svAddM
  split
  · rename_i q
    simp only [addMok, Bool.and_eq_true, decide_eq_true_eq] at q
    exact ⟨by show sM v + 1 ≤ 8; omega, h.2⟩
  · exact h
theorem okS_addS {v : SV} (h : okS v) (k x y : Int32) : okS (svAddS v k x y) := by
  unfold svAddS
  split
  · rename_i q
    simp only [addSok, Bool.and_eq_true, decide_eq_true_eq] at q
    exact ⟨h.1, by show sS v + 1 ≤ 8; omega⟩
  · exact h
theorem okT_setR {v : TV} (h : okT v) (x : Int32) : okT (tSetR v x) := by
  unfold tSetR
  split
  · exact h
  · exact h
theorem okT_setN {v : TV} (h : okT v) (x : Int32) : okT (tSetN v x) := by
  unfold tSetN
  split
  · rename_i q
    obtain ⟨k, hk, rfl⟩ := inR_nI q (by decide)
    exact ⟨h.1, h.2.1, by show (nI k).toNatClampNeg ≤ 3; rw [nI_clamp (by omega)]; exact hk⟩
  · exact h
theorem okT_take {T : TV} (h : okT T) (l : Int32) (f : Nat → Int32) : okT (rdTake l f T).2 := by
  unfold rdTake
  split
  · exact ⟨okS_addM h.1 _ _ _, h.2⟩
  split
  · exact ⟨h.1, okS_addM h.2.1 _ _ _, h.2.2⟩
  split
  · exact okT_setN h _
  split
  · exact okT_setR h _
  split
  · exact ⟨okS_addS h.1 _ _ _, h.2⟩
  split
  · exact ⟨h.1, okS_addS h.2.1 _ _ _, h.2.2⟩
  exact h
theorem okT_item {T : TV} (h : okT T) (L : Nat → Int32) (p : Nat) (f : Nat → Int32) : okT (rdItem L p f T).2.2.2 := by
  unfold rdItem
  split
  · exact okT_take h _ _
  · exact h
theorem rdItem_le (L : Nat → Int32) (p : Nat) (f : Nat → Int32) (T : TV) : (rdItem L p f T).2.1 ≤ p + 10 := by
  have h := rdLoop_le L (wantN (L p)) (wantN (L p)) 0 (p + 1) f
  have h2 := wantN_le (L p)
  unfold rdItem
  split
  · show (rdLoop L (wantN (L p)) (wantN (L p)) 0 (p + 1) f).2.1 ≤ p + 10; omega
  · show (rdLoop L (wantN (L p)) (wantN (L p)) 0 (p + 1) f).2.1 ≤ p + 10; omega
theorem okT_all : ∀ (L : Nat → Int32) (len m p : Nat) (f : Nat → Int32) (T : TV), okT T → okT (rdAll L len m p f T).2.2.2
  | L, len, 0, p, f, T, h => h
  | L, len, m + 1, p, f, T, h => by
    unfold rdAll
    split
    · split
      · exact okT_all L len m _ _ _ (okT_item h L p f)
      · exact okT_item h L p f
    · exact h
