/-! ===== the reference: its reader ===== -/
def rNv (L : Nat → Int32) (p : Nat) : Int32 × Nat := if inR (L (p + 1)) (nI 48) (nI 57) then (nI 10 * (L p - nI 48) + L (p + 1) - nI 48, p + 1 + 1) else (L p - nI 48, p + 1)
def rNum (L : Nat → Int32) (p : Nat) (lo hi en Q : Int32) : Bool × Nat × Int32 := if inR (L p) (nI 48) (nI 57) then
  (if decide (L (rNv L p).2 = en) && inR (rNv L p).1 lo hi then (true, (rNv L p).2 + 1, (rNv L p).1) else (false, (rNv L p).2, (rNv L p).1)) else (false, p, Q)
theorem rNv_le (L : Nat → Int32) (p : Nat) : p + 1 ≤ (rNv L p).2 ∧ (rNv L p).2 ≤ p + 2 := by
  unfold rNv
  split
  · exact ⟨Nat.le_succ _, Nat.le_refl _⟩
  · exact ⟨Nat.le_refl _, Nat.le_succ _⟩
theorem rNum_le (L : Nat → Int32) (p : Nat) (lo hi en Q : Int32) : p ≤ (rNum L p lo hi en Q).2.1 ∧ (rNum L p lo hi en Q).2.1 ≤ p + 3 := by
  have h := rNv_le L p
  unfold rNum
  split
  · split
    · show p ≤ (rNv L p).2 + 1 ∧ (rNv L p).2 + 1 ≤ p + 3; omega
    · show p ≤ (rNv L p).2 ∧ (rNv L p).2 ≤ p + 3; omega
  · exact ⟨Nat.le_refl p, by show p ≤ p + 3; omega⟩
theorem rNum_in {L : Nat → Int32} {p : Nat} {lo hi en Q : Int32} (h : (rNum L p lo hi en Q).1 = true) : inR (rNum L p lo hi en Q).2.2 lo hi = true := by
  unfold rNum at h ⊢
  by_cases e : inR (L p) (nI 48) (nI 57) = true
  · rw [if_pos e] at h ⊢
    by_cases e2 : (decide (L (rNv L p).2 = en) && inR (rNv L p).1 lo hi) = true
    · rw [if_pos e2]
      exact (Bool.and_eq_true_iff.mp e2).2
    · rw [if_neg e2] at h
      exact absurd (show false = true from h) (by decide)
  · rw [if_neg e] at h
    exact absurd (show false = true from h) (by decide)
theorem rNum_nI {L : Nat → Int32} {p n : Nat} {en Q : Int32} (h : (rNum L p (nI 0) (nI n) en Q).1 = true) (hn : n + 1 < 2 ^ 31) : (rNum L p (nI 0) (nI n) en Q).2.2 = nI (rNum L p (nI 0) (nI n) en Q).2.2.toNatClampNeg ∧ (rNum L p (nI 0) (nI n) en Q).2.2.toNatClampNeg ≤ n := by
  obtain ⟨k, hk, e⟩ := inR_nI (rNum_in h) hn
  rw [e, nI_clamp (by omega)]
  exact ⟨rfl, hk⟩
abbrev rM1 (L : Nat → Int32) (p : Nat) (Q : Int32) := rNum L p (nI 0) (nI 3) (nI 44) Q
abbrev rM2 (L : Nat → Int32) (p : Nat) (Q : Int32) := rNum L (rM1 L p Q).2.1 (nI 0) (nI 60) (nI 44) (rM1 L p Q).2.2
abbrev rM3 (L : Nat → Int32) (p : Nat) (Q : Int32) := rNum L (rM2 L p Q).2.1 (nI 0) (nI 60) (nI 59) (rM2 L p Q).2.2
def rMok (m : Nat) (L : Nat → Int32) (p : Nat) (Q : Int32) : Bool := decide (¬ m = 8) && ((rM1 L p Q).1 && ((rM2 L p Q).1 && (rM3 L p Q).1))
def rMpq (m : Nat) (L : Nat → Int32) (p : Nat) (Q : Int32) : Nat × Int32 := if m = 8 then (p, Q) else if (rM1 L p Q).1 then (if (rM2 L p Q).1 then (rM3 L p Q).2 else (rM2 L p Q).2) else (rM1 L p Q).2
abbrev rS1 (m : Nat) (L : Nat → Int32) (p : Nat) (Q : Int32) := rNum L p (nI 0) (nI m - nI 1) (nI 44) Q
abbrev rS2 (m : Nat) (L : Nat → Int32) (p : Nat) (Q : Int32) := rNum L (rS1 m L p Q).2.1 (nI 0) (nI m - nI 1) (nI 44) (rS1 m L p Q).2.2
abbrev rS3 (m : Nat) (L : Nat → Int32) (p : Nat) (Q : Int32) := rNum L (rS2 m L p Q).2.1 (nI 0) (nI 9) (nI 59) (rS2 m L p Q).2.2
def rSc (ss : Nat → Nat) (fr tt : Nat → Int32) (g : Nat) (x y : Int32) : Bool := decide (¬ x = y) && decide (rBet ss fr tt g x y = -4)
def rSok (m : Nat) (ss : Nat → Nat) (fr tt : Nat → Int32) (g : Nat) (L : Nat → Int32) (p : Nat) (Q : Int32) : Bool := decide (¬ ss g = 8) && ((rS1 m L p Q).1 && ((rS2 m L p Q).1 && (rSc ss fr tt g (rS1 m L p Q).2.2 (rS2 m L p Q).2.2 && (rS3 m L p Q).1)))
def rSpq (m : Nat) (ss : Nat → Nat) (fr tt : Nat → Int32) (g : Nat) (L : Nat → Int32) (p : Nat) (Q : Int32) : Nat × Int32 := if ss g = 8 then (p, Q) else if (rS1 m L p Q).1 then (if (rS2 m L p Q).1 then (if rSc ss fr tt g (rS1 m L p Q).2.2 (rS2 m L p Q).2.2 then (rS3 m L p Q).2 else (rS2 m L p Q).2) else (rS2 m L p Q).2) else (rS1 m L p Q).2
abbrev rNe (L : Nat → Int32) (p : Nat) (Q : Int32) := rNum L p (nI 1) (nI 20) (nI 59) Q
abbrev rRo (L : Nat → Int32) (p : Nat) (Q : Int32) := rNum L p (nI 0) (nI 3) (nI 59) Q
theorem rMpq_le (m : Nat) (L : Nat → Int32) (p : Nat) (Q : Int32) : p ≤ (rMpq m L p Q).1 ∧ (rMpq m L p Q).1 ≤ p + 9 := by
  have h1 : p ≤ (rM1 L p Q).2.1 ∧ (rM1 L p Q).2.1 ≤ p + 3 := rNum_le L p (nI 0) (nI 3) (nI 44) Q
  have h2 : (rM1 L p Q).2.1 ≤ (rM2 L p Q).2.1 ∧ (rM2 L p Q).2.1 ≤ (rM1 L p Q).2.1 + 3 := rNum_le L (rM1 L p Q).2.1 (nI 0) (nI 60) (nI 44) (rM1 L p Q).2.2
  have h3 : (rM2 L p Q).2.1 ≤ (rM3 L p Q).2.1 ∧ (rM3 L p Q).2.1 ≤ (rM2 L p Q).2.1 + 3 := rNum_le L (rM2 L p Q).2.1 (nI 0) (nI 60) (nI 59) (rM2 L p Q).2.2
  unfold rMpq
  split
  · show p ≤ p ∧ p ≤ p + 9; omega
  · split
    · split
      · exact ⟨by omega, by omega⟩
      · exact ⟨by omega, by omega⟩
    · exact ⟨by omega, by omega⟩
theorem rSpq_le (m : Nat) (ss : Nat → Nat) (fr tt : Nat → Int32) (g : Nat) (L : Nat → Int32) (p : Nat) (Q : Int32) : p ≤ (rSpq m ss fr tt g L p Q).1 ∧ (rSpq m ss fr tt g L p Q).1 ≤ p + 9 := by
  have h1 : p ≤ (rS1 m L p Q).2.1 ∧ (rS1 m L p Q).2.1 ≤ p + 3 := rNum_le L p (nI 0) (nI m - nI 1) (nI 44) Q
  have h2 : (rS1 m L p Q).2.1 ≤ (rS2 m L p Q).2.1 ∧ (rS2 m L p Q).2.1 ≤ (rS1 m L p Q).2.1 + 3 := rNum_le L (rS1 m L p Q).2.1 (nI 0) (nI m - nI 1) (nI 44) (rS1 m L p Q).2.2
  have h3 : (rS2 m L p Q).2.1 ≤ (rS3 m L p Q).2.1 ∧ (rS3 m L p Q).2.1 ≤ (rS2 m L p Q).2.1 + 3 := rNum_le L (rS2 m L p Q).2.1 (nI 0) (nI 9) (nI 59) (rS2 m L p Q).2.2
  unfold rSpq
  split
  · show p ≤ p ∧ p ≤ p + 9; omega
  · split
    · split
      · split
        · exact ⟨by omega, by omega⟩
        · exact ⟨by omega, by omega⟩
      · exact ⟨by omega, by omega⟩
    · exact ⟨by omega, by omega⟩
/-- where it reads, the number; near, rounds, meetings, streets, the rows -/
abbrev RZ : Type := Nat × Int32 × SN
abbrev zR (z : RZ) := z.2.2.1
abbrev zN (z : RZ) := z.2.2.2.1
abbrev zM (z : RZ) := z.2.2.2.2.1
abbrev zS (z : RZ) := z.2.2.2.2.2.1
abbrev zKd (z : RZ) := z.2.2.2.2.2.2.1
abbrev zX (z : RZ) := z.2.2.2.2.2.2.2.1
abbrev zY (z : RZ) := z.2.2.2.2.2.2.2.2.1
abbrev zF (z : RZ) := z.2.2.2.2.2.2.2.2.2.1
abbrev zT (z : RZ) := z.2.2.2.2.2.2.2.2.2.2.1
abbrev zNm (z : RZ) := z.2.2.2.2.2.2.2.2.2.2.2
def rzM (g : Nat) (L : Nat → Int32) (z : RZ) : Bool × RZ := (rMok (zM z g) L (z.1 + 1) z.2.1, ((rMpq (zM z g) L (z.1 + 1) z.2.1).1, (rMpq (zM z g) L (z.1 + 1) z.2.1).2, zR z, zN z,
  (if rMok (zM z g) L (z.1 + 1) z.2.1 then upN (zM z) g (zM z g + 1) else zM z), zS z,
  (if rMok (zM z g) L (z.1 + 1) z.2.1 then upd (zKd z) (8 * g + zM z g) (rM1 L (z.1 + 1) z.2.1).2.2 else zKd z),
  (if rMok (zM z g) L (z.1 + 1) z.2.1 then upd (zX z) (8 * g + zM z g) (rM2 L (z.1 + 1) z.2.1).2.2 else zX z),
  (if rMok (zM z g) L (z.1 + 1) z.2.1 then upd (zY z) (8 * g + zM z g) (rM3 L (z.1 + 1) z.2.1).2.2 else zY z), zF z, zT z, zNm z))
def rzS (g : Nat) (L : Nat → Int32) (z : RZ) : Bool × RZ := (rSok (zM z g) (zS z) (zF z) (zT z) g L (z.1 + 1) z.2.1, ((rSpq (zM z g) (zS z) (zF z) (zT z) g L (z.1 + 1) z.2.1).1, (rSpq (zM z g) (zS z) (zF z) (zT z) g L (z.1 + 1) z.2.1).2, zR z, zN z, zM z,
  (if rSok (zM z g) (zS z) (zF z) (zT z) g L (z.1 + 1) z.2.1 then upN (zS z) g (zS z g + 1) else zS z), zKd z, zX z, zY z,
  (if rSok (zM z g) (zS z) (zF z) (zT z) g L (z.1 + 1) z.2.1 then upd (zF z) (8 * g + zS z g) (rS1 (zM z g) L (z.1 + 1) z.2.1).2.2 else zF z),
  (if rSok (zM z g) (zS z) (zF z) (zT z) g L (z.1 + 1) z.2.1 then upd (zT z) (8 * g + zS z g) (rS2 (zM z g) L (z.1 + 1) z.2.1).2.2 else zT z),
  (if rSok (zM z g) (zS z) (zF z) (zT z) g L (z.1 + 1) z.2.1 then upd (zNm z) (8 * g + zS z g) (rS3 (zM z g) L (z.1 + 1) z.2.1).2.2 else zNm z)))
def rzNe (L : Nat → Int32) (z : RZ) : Bool × RZ := ((rNe L (z.1 + 1) z.2.1).1, ((rNe L (z.1 + 1) z.2.1).2.1, (rNe L (z.1 + 1) z.2.1).2.2, (if (rNe L (z.1 + 1) z.2.1).1 then (rNe L (z.1 + 1) z.2.1).2.2 else zR z), zN z, zM z, zS z, zKd z, zX z, zY z, zF z, zT z, zNm z))
def rzRo (L : Nat → Int32) (z : RZ) : Bool × RZ := ((rRo L (z.1 + 1) z.2.1).1, ((rRo L (z.1 + 1) z.2.1).2.1, (rRo L (z.1 + 1) z.2.1).2.2, zR z, (if (rRo L (z.1 + 1) z.2.1).1 then (rRo L (z.1 + 1) z.2.1).2.2.toNatClampNeg else zN z), zM z, zS z, zKd z, zX z, zY z, zF z, zT z, zNm z))
def rItm (L : Nat → Int32) (z : RZ) : Bool × RZ := if L z.1 = nI 97 then rzM 0 L z else if L z.1 = nI 98 then rzM 1 L z else if L z.1 = nI 110 then rzRo L z else if L z.1 = nI 114 then rzNe L z else if L z.1 = nI 115 then rzS 0 L z else if L z.1 = nI 116 then rzS 1 L z
  else (false, (z.1 + 1, z.2.1, zR z, zN z, zM z, zS z, zKd z, zX z, zY z, zF z, zT z, zNm z))
theorem rItm_le (L : Nat → Int32) (z : RZ) : z.1 + 1 ≤ (rItm L z).2.1 ∧ (rItm L z).2.1 ≤ z.1 + 10 := by
  have h1 := rMpq_le (zM z 0) L (z.1 + 1) z.2.1
  have h2 := rMpq_le (zM z 1) L (z.1 + 1) z.2.1
  have h3 := rSpq_le (zM z 0) (zS z) (zF z) (zT z) 0 L (z.1 + 1) z.2.1
  have h4 := rSpq_le (zM z 1) (zS z) (zF z) (zT z) 1 L (z.1 + 1) z.2.1
  have h5 : z.1 + 1 ≤ (rNe L (z.1 + 1) z.2.1).2.1 ∧ (rNe L (z.1 + 1) z.2.1).2.1 ≤ z.1 + 1 + 3 := rNum_le L (z.1 + 1) (nI 1) (nI 20) (nI 59) z.2.1
  have h6 : z.1 + 1 ≤ (rRo L (z.1 + 1) z.2.1).2.1 ∧ (rRo L (z.1 + 1) z.2.1).2.1 ≤ z.1 + 1 + 3 := rNum_le L (z.1 + 1) (nI 0) (nI 3) (nI 59) z.2.1
  unfold rItm
  split
  · show z.1 + 1 ≤ (rMpq (zM z 0) L (z.1 + 1) z.2.1).1 ∧ (rMpq (zM z 0) L (z.1 + 1) z.2.1).1 ≤ z.1 + 10; omega
  split
  · show z.1 + 1 ≤ (rMpq (zM z 1) L (z.1 + 1) z.2.1).1 ∧ (rMpq (zM z 1) L (z.1 + 1) z.2.1).1 ≤ z.1 + 10; omega
  split
  · show z.1 + 1 ≤ (rRo L (z.1 + 1) z.2.1).2.1 ∧ (rRo L (z.1 + 1) z.2.1).2.1 ≤ z.1 + 10; exact ⟨by omega, by omega⟩
  split
  · show z.1 + 1 ≤ (rNe L (z.1 + 1) z.2.1).2.1 ∧ (rNe L (z.1 + 1) z.2.1).2.1 ≤ z.1 + 10; exact ⟨by omega, by omega⟩
  split
  · show z.1 + 1 ≤ (rSpq (zM z 0) (zS z) (zF z) (zT z) 0 L (z.1 + 1) z.2.1).1 ∧ (rSpq (zM z 0) (zS z) (zF z) (zT z) 0 L (z.1 + 1) z.2.1).1 ≤ z.1 + 10; omega
  split
  · show z.1 + 1 ≤ (rSpq (zM z 1) (zS z) (zF z) (zT z) 1 L (z.1 + 1) z.2.1).1 ∧ (rSpq (zM z 1) (zS z) (zF z) (zT z) 1 L (z.1 + 1) z.2.1).1 ≤ z.1 + 10; omega
  · show z.1 + 1 ≤ z.1 + 1 ∧ z.1 + 1 ≤ z.1 + 10; omega
/-- at most eight of each -/
def okZ (z : RZ) : Prop := (∀ g, g < 2 → zM z g ≤ 8) ∧ (∀ g, g < 2 → zS z g ≤ 8)
theorem upN_le {f : Nat → Nat} {g : Nat} (h : ∀ g, g < 2 → f g ≤ 8) (hg : f g < 8) : ∀ k, k < 2 → upN f g (f g + 1) k ≤ 8 := by
  intro k hk
  unfold upN
  split
  · omega
  · exact h k hk
theorem rzM_ok {z : RZ} (h : okZ z) {g : Nat} (hg : g < 2) (L : Nat → Int32) : okZ (rzM g L z).2 := by
  refine ⟨?_, h.2⟩
  show ∀ k, k < 2 → (if rMok (zM z g) L (z.1 + 1) z.2.1 then upN (zM z) g (zM z g + 1) else zM z) k ≤ 8
  by_cases e : rMok (zM z g) L (z.1 + 1) z.2.1 = true
  · rw [if_pos e]
    have h1 := h.1 g hg
    simp only [rMok, Bool.and_eq_true, decide_eq_true_eq] at e
    exact upN_le h.1 (by omega)
  · rw [if_neg e]; exact h.1
theorem rzS_ok {z : RZ} (h : okZ z) {g : Nat} (hg : g < 2) (L : Nat → Int32) : okZ (rzS g L z).2 := by
  refine ⟨h.1, ?_⟩
  show ∀ k, k < 2 → (if rSok (zM z g) (zS z) (zF z) (zT z) g L (z.1 + 1) z.2.1 then upN (zS z) g (zS z g + 1) else zS z) k ≤ 8
  by_cases e : rSok (zM z g) (zS z) (zF z) (zT z) g L (z.1 + 1) z.2.1 = true
  · rw [if_pos e]
    have h1 := h.2 g hg
    simp only [rSok, Bool.and_eq_true, decide_eq_true_eq] at e
    exact upN_le h.2 (by omega)
  · rw [if_neg e]; exact h.2
theorem rItm_ok {z : RZ} (h : okZ z) (L : Nat → Int32) : okZ (rItm L z).2 := by
  unfold rItm
  split
  · exact rzM_ok h (by decide) L
  split
  · exact rzM_ok h (by decide) L
  split
  · exact h
  split
  · exact h
  split
  · exact rzS_ok h (by decide) L
  split
  · exact rzS_ok h (by decide) L
  · exact h
def rAll (L : Nat → Int32) (len : Nat) : Nat → RZ → Int32 × RZ
  | 0, z => (-4, z)
  | n + 1, z => if z.1 < len then (if (rItm L z).1 then rAll L len n (rItm L z).2 else (nI z.1, (rItm L z).2)) else (-4, z)
theorem rAll_end {L : Nat → Int32} {len n : Nat} {z : RZ} (h : ¬ z.1 < len) : rAll L len n z = (-4, z) := by
  cases n with
  | zero => rfl
  | succ n =>
    unfold rAll
    rw [if_neg h]
theorem rAll_go {L : Nat → Int32} {len n : Nat} {z : RZ} (h : z.1 < len) (hn : 0 < n) (h2 : (rItm L z).1 = true) : rAll L len n z = rAll L len (n - 1) (rItm L z).2 := by
  obtain ⟨m, rfl⟩ : ∃ m, n = m + 1 := ⟨n - 1, by omega⟩
  show (if z.1 < len then (if (rItm L z).1 then rAll L len m (rItm L z).2 else (nI z.1, (rItm L z).2)) else (-4, z)) = _
  rw [if_pos h, if_pos h2]
  rfl
theorem rAll_bad {L : Nat → Int32} {len n : Nat} {z : RZ} (h : z.1 < len) (hn : 0 < n) (h2 : (rItm L z).1 = false) : rAll L len n z = (nI z.1, (rItm L z).2) := by
  obtain ⟨m, rfl⟩ : ∃ m, n = m + 1 := ⟨n - 1, by omega⟩
  show (if z.1 < len then (if (rItm L z).1 then rAll L len m (rItm L z).2 else (nI z.1, (rItm L z).2)) else (-4, z)) = _
  rw [if_pos h, if_neg (by rw [h2]; decide)]
theorem rAll_ok (L : Nat → Int32) (len : Nat) : ∀ (n : Nat) (z : RZ), okZ z → okZ (rAll L len n z).2
  | 0, z, h => h
  | n + 1, z, h => by
    unfold rAll
    split
    · split
      · exact rAll_ok L len n _ (rItm_ok h L)
      · exact rItm_ok h L
    · exact h
def zrN (f : Nat → Nat) (k : Nat) : Nat → Nat := fun i => if i < k then 0 else f i
theorem zrN_0 (f : Nat → Nat) : zrN f 0 = f := by
  funext i
  unfold zrN
  rw [if_neg (by omega)]
theorem zrN_s (f : Nat → Nat) (k : Nat) : upN (zrN f k) k 0 = zrN f (k + 1) := by
  funext i
  unfold upN zrN
  by_cases e : i = k
  · rw [if_pos e, if_pos (by omega)]
  · rw [if_neg e]
    by_cases h : i < k
    · rw [if_pos h, if_pos (by omega)]
    · rw [if_neg h, if_neg (by omega)]
theorem zrN_le (f : Nat → Nat) : ∀ g, g < 2 → zrN f 2 g ≤ 8 := fun g hg => by
  unfold zrN
  rw [if_pos hg]
  omega
def rZ0 (Q : Int32) (mm ss : Nat → Nat) (kd xo yo fr tt nm : Nat → Int32) : RZ := (0, Q, nI 10, 2, zrN mm 2, zrN ss 2, kd, xo, yo, fr, tt, nm)
theorem rZ0_ok (Q : Int32) (mm ss : Nat → Nat) (kd xo yo fr tt nm : Nat → Int32) : okZ (rZ0 Q mm ss kd xo yo fr tt nm) := ⟨zrN_le mm, zrN_le ss⟩
def rLok (r : Int32 × RZ) : Bool := decide (r.1 = -4) && (decide (¬ zM r.2 0 = 0) && decide (¬ zM r.2 1 = 0))
