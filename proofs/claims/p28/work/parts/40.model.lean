/-! ===== the reference: its object, its arrays ===== -/
/-- near, rounds; undoMany, savedMany, pathMany; upper, lower; size, readAt, readNumber -/
abbrev MD0 : Type := Int32 × Nat × Nat × Nat × Nat × Int32 × Int32 × Nat × Nat × Int32
abbrev dR (s : MD0) := s.1
abbrev dN0 (s : MD0) := s.2.1
abbrev dU (s : MD0) := s.2.2.1
abbrev dK (s : MD0) := s.2.2.2.1
abbrev dP (s : MD0) := s.2.2.2.2.1
abbrev dX (s : MD0) := s.2.2.2.2.2.1
abbrev dY (s : MD0) := s.2.2.2.2.2.2.1
abbrev dS (s : MD0) := s.2.2.2.2.2.2.2.1
abbrev dA (s : MD0) := s.2.2.2.2.2.2.2.2.1
abbrev dQ (s : MD0) := s.2.2.2.2.2.2.2.2.2
def wMd (E : GE) (a : Nat → Nat) (s : MD0) : va_W := [(a 0, .inr (10, [.int (dR s), .int (nI (dN0 s)), .ref (a 2), .ref (a 3), .ref (a 4), .ref (a 5), .ref (a 6), .ref (a 7), .ref (a 8), .ref (a 9), .ref (a 10), .int (nI (dU s)), .ref (a 12), .int (nI (dK s)), .ref (a 14), .ref (a 15), .ref (a 16), .ref (a 17), .ref (a 18), .int (nI (dP s)), .ref (a 20), .int (dX s), .int (dY s), .ref (a 23), .ref (a 24), .int (nI (dS s)), .int (nI (dA s)), .int (dQ s), .ref (a 28)]))]
def wAn (E : GE) (a n : Nat) (f : Nat → Nat) : va_W := [(a, .inl (E.2.2 0, n, .inl (fun k => nI (f k))))]
theorem fsMd (E : GE) (a : Nat → Nat) (s : MD0) : (wMd E a s).map Prod.fst = [a 0] := rfl
theorem fsAn (E : GE) (a n : Nat) (f : Nat → Nat) : (wAn E a n f).map Prod.fst = [a] := rfl
theorem g_anld {E : GE} {μ : MD} {Γ : GC} {cells slots : Nat} {lv : List (Nat × Value)} {pc : Nat} {rest : List Value} (X : CX E μ Γ) {ws : va_W} (q0 : Nat) {a n : Nat} {f : Nat → Nat} (ha : ws[q0]? = some (a, .inl (E.2.2 0, n, .inl (fun k => nI (f k))))) {i : Int32} (j : Nat) (hin : ix i j n) (d : decode μ.2.1 pc = .ok (.iaload, 1))
    (k : GG E μ Γ cells slots ws lv (pc + 1) (.int (nI (f j)) :: rest)) : GG E μ Γ cells slots ws lv pc (.int i :: .ref a :: rest) := g_iald X q0 ha j hin d k
theorem g_anst {E : GE} {μ : MD} {Γ : GC} {cells slots : Nat} {lv : List (Nat × Value)} {pc : Nat} {rest : List Value} (X : CX E μ Γ) {S S' : List va_W} (i0 : Nat) {a n : Nat} {f : Nat → Nat} (hS : S[i0]? = some (wAn E a n f)) {i : Int32} {x : Nat} (j : Nat) (hin : ix i j n) (hS' : S.set i0 (wAn E a n (upN f j x)) = S') (d : decode μ.2.1 pc = .ok (.iastore, 1))
    (k : GG E μ Γ cells slots S'.flatten lv (pc + 1) rest) : GG E μ Γ cells slots S.flatten lv pc (.int (nI x) :: .int i :: .ref a :: rest) := by
  subst hS'
  obtain ⟨h1, h2⟩ := sg_set S i0 _ (wAn E a n (upN f j x)) hS
  have p1 := sg_perm S i0 _ hS
  have p2 := sg_perm _ i0 _ h1
  rw [h2] at p2
  have e : (fun k => nI (upN f j x k)) = upd (fun k => nI (f k)) j (nI x) := by
    funext k
    unfold upN upd
    by_cases q : k = j
    · rw [if_pos q, if_pos q]
    · rw [if_neg q, if_neg q]
  refine GG.perm p1 (g_iast X 0 rfl j hin rfl d (GG.perm ?_ k))
  have p3 := p2.symm
  unfold wAn at p3 ⊢
  rw [← e]
  exact p3
/-- which of two counts -/
def mmOf (mm : Nat → Nat) (s : Int32) : Nat := if s = nI 0 then mm 0 else mm 1
theorem mmOf_0 (mm : Nat → Nat) : mmOf mm (nI 0) = mm 0 := if_pos rfl
theorem mmOf_1 (mm : Nat → Nat) : mmOf mm (nI 1) = mm 1 := if_neg (by decide)
def hasR (mm : Nat → Nat) (s i : Int32) : Bool := inR s (nI 0) (nI 1) && inR i (nI 0) (nI (mmOf mm s) - nI 1)
theorem in_sub {m : Nat} (hm : m ≤ 8) {i : Int32} (h : inR i (nI 0) (nI m - nI 1) = true) : ∃ j, j < m ∧ i = nI j := by
  have h0 := of_decide_eq_true h
  have e : (nI m - nI 1).toInt = (m : Int) - 1 := pk_sub_toInt (by omega) (by decide)
  have h1 := h0.1
  have h2 := h0.2
  rw [i_lt, n_0] at h1
  rw [i_lt, e] at h2
  refine ⟨i.toInt.toNat, by omega, ?_⟩
  apply Int32.toInt_inj.mp
  rw [nI_toInt (by omega)]
  omega
theorem hasR_or {mm : Nat → Nat} (h8 : ∀ g, g < 2 → mm g ≤ 8) {s i : Int32} (h : hasR mm s i = true) : (s = nI 0 ∧ ∃ j, j < mm 0 ∧ i = nI j) ∨ (s = nI 1 ∧ ∃ j, j < mm 1 ∧ i = nI j) := by
  simp only [hasR, Bool.and_eq_true] at h
  rcases inR01 h.1 with rfl | rfl
  · rw [mmOf_0] at h
    exact Or.inl ⟨rfl, in_sub (h8 0 (by decide)) h.2⟩
  · rw [mmOf_1] at h
    exact Or.inr ⟨rfl, in_sub (h8 1 (by decide)) h.2⟩
/-- the last street below n between u and w -/
def rbP (fr tt : Nat → Int32) (g : Nat) (u w : Int32) (s : Nat) : Bool := (decide (fr (8 * g + s) = u) && decide (tt (8 * g + s) = w)) || (decide (fr (8 * g + s) = w) && decide (tt (8 * g + s) = u))
def lastF (p : Nat → Bool) : Nat → Int32
  | 0 => -4
  | n + 1 => if p n then nI n else lastF p n
theorem lastF_t {p : Nat → Bool} {k : Nat} (h : p k = true) : nI k = lastF p (k + 1) := by simp [lastF, h]
theorem lastF_f {p : Nat → Bool} {k : Nat} (h : p k = false) : lastF p k = lastF p (k + 1) := by simp [lastF, h]
def rBet (ss : Nat → Nat) (fr tt : Nat → Int32) (g : Nat) (u w : Int32) : Int32 := lastF (rbP fr tt g u w) (ss g)
def rNear (R k : Int32) : Int32 := if k = nI 2 then (if nI 20 ≤ R + nI 5 then nI 20 else R + nI 5) else if k = nI 1 then R / nI 2 else if k = nI 3 then R / nI 2 + nI 1 else R
def rAtP (fr tt : Nat → Int32) (g : Nat) (i : Int32) (s : Nat) : Bool := decide (fr (8 * g + s) = i) || decide (tt (8 * g + s) = i)
def farI (x : Int32) : Int32 := if 0 ≤ x then x else -x
def rDist (xo yo : Nat → Int32) (p q : Nat) : Int32 := (xo p - xo q) * (xo p - xo q) + (yo p - yo q) * (yo p - yo q)
def rOther (fr tt : Nat → Int32) (g s : Nat) (i : Int32) : Int32 := if fr (8 * g + s) = i then tt (8 * g + s) else if tt (8 * g + s) = i then fr (8 * g + s) else -4
def rArea (xo yo : Nat → Int32) (p q r : Nat) : Int32 := (xo q - xo p) * (yo r - yo p) - (xo r - xo p) * (yo q - yo p)
def rIns (xo yo : Nat → Int32) (i p q r : Nat) : Bool := decide (farI (rArea xo yo i q r) + farI (rArea xo yo p i r) + farI (rArea xo yo p q i) = farI (rArea xo yo p q r))
