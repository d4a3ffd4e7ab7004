/-! ===== the reference: beliefs and matches ===== -/
theorem upd_upd (f : Nat → Int32) (k : Nat) (x y : Int32) : upd (upd f k x) k y = upd f k y := by
  funext i
  unfold upd
  by_cases e : i = k
  · rw [if_pos e, if_pos e]
  · rw [if_neg e, if_neg e, if_neg e]
/-- ends of streets are places of a row -/
def okE (ss : Nat → Nat) (fr tt : Nat → Int32) : Prop := ∀ g q, g < 2 → q < ss g → (∃ j, j < 8 ∧ fr (8 * g + q) = nI j) ∧ (∃ j, j < 8 ∧ tt (8 * g + q) = nI j)
def n8 (x : Int32) : Prop := ∃ j, j < 8 ∧ x = nI j
theorem rOther_ok {ss : Nat → Nat} {fr tt : Nat → Int32} (hE : okE ss fr tt) {g q : Nat} {i : Int32} (hg : g < 2) (hq : q < ss g) (h : ¬ rOther fr tt g q i = -4) : n8 (rOther fr tt g q i) := by
  obtain ⟨h1, h2⟩ := hE g q hg hq
  unfold rOther at h ⊢
  by_cases e : fr (8 * g + q) = i
  · rw [if_pos e]
    exact h2
  · rw [if_neg e] at h ⊢
    by_cases e2 : tt (8 * g + q) = i
    · rw [if_pos e2]
      exact h1
    · rw [if_neg e2] at h
      exact absurd rfl h
def rMin (R k0 k1 : Int32) : Int32 := if rNear R k1 ≤ rNear R k0 then rNear R k1 else rNear R k0
def rFst (R : Int32) (mm : Nat → Nat) (kd xo yo : Nat → Int32) (i j : Nat) : Int32 := if i < mm 0 ∧ j < mm 1 then
  (if rMin R (kd i) (kd (8 + j)) * rMin R (kd i) (kd (8 + j)) < rDist xo yo i (8 + j) then -4 else nI 512 * (if R * R + nI 1 - rDist xo yo i (8 + j) ≤ nI 1 then nI 1 else R * R + nI 1 - rDist xo yo i (8 + j))) else -4
def rFstK (R : Int32) (mm : Nat → Nat) (kd xo yo : Nat → Int32) (k : Nat) : Int32 := rFst R mm kd xo yo (k / 8) (k % 8)
theorem rFstK_at (R : Int32) (mm : Nat → Nat) (kd xo yo : Nat → Int32) {i j : Nat} (hj : j < 8) : rFstK R mm kd xo yo (8 * i + j) = rFst R mm kd xo yo i j := by
  unfold rFstK
  rw [show (8 * i + j) / 8 = i by omega, show (8 * i + j) % 8 = j by omega]
def rBel (be : Nat → Int32) (x y : Int32) : Int32 := if be (8 * x.toNatClampNeg + y.toNatClampNeg) = -4 then nI 0 else be (8 * x.toNatClampNeg + y.toNatClampNeg)
def rGv (be : Nat → Int32) (o x y : Int32) : Int32 := if o = -4 then nI 0 else rBel be x y
def rgv (K : Int32) (f : Nat → Int32) (n : Nat) : Int32 := if K = -4 then nI 0 else maxI f n
theorem rgv_end {K : Int32} {f : Nat → Int32} {n t : Nat} (hk : K = -4 → t = 0) (h : t = n) : maxI f t = rgv K f n := by
  subst h
  unfold rgv
  by_cases e : K = -4
  · rw [if_pos e, hk e]; rfl
  · rw [if_neg e]
theorem rgv_none {K : Int32} {f : Nat → Int32} {n t : Nat} (hk : K = -4 → t = 0) (e : K = -4) : maxI f t = rgv K f n := by
  unfold rgv
  rw [if_pos e, hk e]; rfl
theorem maxI_t {f : Nat → Int32} {n : Nat} {x : Int32} (hx : f n = x) (h : ¬ x ≤ maxI f n) : x = maxI f (n + 1) := by
  show x = if maxI f n < f n then f n else maxI f n
  rw [hx, if_pos]
  rw [i_le] at h
  rw [i_lt]
  omega
theorem maxI_f {f : Nat → Int32} {n : Nat} {x : Int32} (hx : f n = x) (h : x ≤ maxI f n) : maxI f n = maxI f (n + 1) := by
  show maxI f n = if maxI f n < f n then f n else maxI f n
  rw [hx, if_neg]
  rw [i_le] at h
  rw [i_lt]
  omega
def rG0 (fr tt be : Nat → Int32) (q : Nat) (i j : Int32) (t : Nat) : Int32 := rGv be (rOther fr tt 1 t j) (rOther fr tt 0 q i) (rOther fr tt 1 t j)
def rG1 (fr tt be : Nat → Int32) (q : Nat) (i j : Int32) (t : Nat) : Int32 := rGv be (rOther fr tt 0 t i) (rOther fr tt 0 t i) (rOther fr tt 1 q j)
def rF0 (ss : Nat → Nat) (fr tt be : Nat → Int32) (i j : Int32) (q : Nat) : Int32 := rgv (rOther fr tt 0 q i) (rG0 fr tt be q i j) (ss 1)
def rF1 (ss : Nat → Nat) (fr tt be : Nat → Int32) (i j : Int32) (q : Nat) : Int32 := rgv (rOther fr tt 1 q j) (rG1 fr tt be q i j) (ss 0)
def rSum0 (ss : Nat → Nat) (fr tt be : Nat → Int32) (i j : Nat) : Int32 := sumI (rF0 ss fr tt be (nI i) (nI j)) (ss 0)
def rSum1 (ss : Nat → Nat) (fr tt be : Nat → Int32) (i j : Nat) : Int32 := sumI (rF1 ss fr tt be (nI i) (nI j)) (ss 1)
def rImp (ss : Nat → Nat) (fr tt be : Nat → Int32) (k : Nat) : Int32 := if be k = -4 then -4 else be k / nI 2 + (rSum0 ss fr tt be (k / 8) (k % 8) + rSum1 ss fr tt be (k / 8) (k % 8)) / nI 8
abbrev BN : Type := (Nat → Int32) × (Nat → Int32)
def rImpS (ss : Nat → Nat) (fr tt : Nat → Int32) (p : BN) : BN := (tkF (tkF (rImp ss fr tt p.1) p.2 64) p.1 64, tkF (rImp ss fr tt p.1) p.2 64)
def rImpN (ss : Nat → Nat) (fr tt : Nat → Int32) : Nat → BN → BN
  | 0, p => p
  | n + 1, p => rImpS ss fr tt (rImpN ss fr tt n p)
theorem rImpN_1 (ss : Nat → Nat) (fr tt : Nat → Int32) (n : Nat) (p : BN) : tkF (tkF (rImp ss fr tt (rImpN ss fr tt n p).1) (rImpN ss fr tt n p).2 64) (rImpN ss fr tt n p).1 64 = (rImpN ss fr tt (n + 1) p).1 := rfl
theorem rImpN_2 (ss : Nat → Nat) (fr tt : Nat → Int32) (n : Nat) (p : BN) : tkF (rImp ss fr tt (rImpN ss fr tt n p).1) (rImpN ss fr tt n p).2 64 = (rImpN ss fr tt (n + 1) p).2 := rfl
def rBelAll (R : Int32) (N : Nat) (mm ss : Nat → Nat) (kd xo yo fr tt : Nat → Int32) (p : BN) : BN := rImpN ss fr tt N (tkF (rFstK R mm kd xo yo) p.1 64, p.2)
/-! matches -/
def rbI (sw : Bool) (k : Nat) : Nat := if sw then k % 8 else k / 8
def rbJ (sw : Bool) (k : Nat) : Nat := if sw then k / 8 else k % 8
def rbA (sw : Bool) (k : Nat) : Nat := 8 * rbI sw k + rbJ sw k
def rbst (sw : Bool) (be h : Nat → Int32) (k : Nat) (b : Int32) : Int32 := if (¬ be (rbA sw k) = -4 ∧ h (rbI sw k) = -4 ∧ h (8 + rbJ sw k) = -4) ∧ (b = -4 ∨ ¬ be (rbA sw k) ≤ be b.toNatClampNeg) then nI (rbA sw k) else b
def rScan (sw : Bool) (be h : Nat → Int32) (n : Nat) : Int32 := itR (rbst sw be h) n (-4)
theorem rbA_lt (sw : Bool) {k : Nat} (hk : k < 64) : rbA sw k < 64 := by
  cases sw
  · show 8 * (k / 8) + k % 8 < 64; omega
  · show 8 * (k % 8) + k / 8 < 64; omega
theorem rbA_div (sw : Bool) {k : Nat} (hk : k < 64) : rbA sw k / 8 = rbI sw k ∧ rbA sw k % 8 = rbJ sw k ∧ rbI sw k < 8 ∧ rbJ sw k < 8 := by
  cases sw
  · show (8 * (k / 8) + k % 8) / 8 = k / 8 ∧ (8 * (k / 8) + k % 8) % 8 = k % 8 ∧ k / 8 < 8 ∧ k % 8 < 8; omega
  · show (8 * (k % 8) + k / 8) / 8 = k % 8 ∧ (8 * (k % 8) + k / 8) % 8 = k / 8 ∧ k % 8 < 8 ∧ k / 8 < 8; omega
/-- nothing, or a free pair -/
def rFree (be h : Nat → Int32) (b : Int32) : Prop := b = -4 ∨ ∃ p, p < 64 ∧ b = nI p ∧ ¬ be p = -4 ∧ h (p / 8) = -4 ∧ h (8 + p % 8) = -4
theorem rScan_free (sw : Bool) (be h : Nat → Int32) {n : Nat} (hn : n ≤ 64) : rFree be h (rScan sw be h n) := by
  unfold rScan
  refine itR_inv (P := rFree be h) n _ (Or.inl rfl) (fun k b hk hb => ?_)
  unfold rbst
  by_cases e : (¬ be (rbA sw k) = -4 ∧ h (rbI sw k) = -4 ∧ h (8 + rbJ sw k) = -4) ∧ (b = -4 ∨ ¬ be (rbA sw k) ≤ be b.toNatClampNeg)
  · rw [if_pos e]
    obtain ⟨q1, q2, q3, q4⟩ := rbA_div sw (k := k) (by omega)
    exact Or.inr ⟨rbA sw k, rbA_lt sw (by omega), rfl, e.1.1, by rw [q1]; exact e.1.2.1, by rw [q2]; exact e.1.2.2⟩
  · rw [if_neg e]
    exact hb
theorem rScan_ix (sw : Bool) (be h : Nat → Int32) {n : Nat} (hn : n ≤ 64) (q : ¬ rScan sw be h n = -4) : ix (rScan sw be h n) (rScan sw be h n).toNatClampNeg 64 := by
  obtain ⟨p, hp, e, -⟩ := (rScan_free sw be h hn).resolve_left q
  rw [e]
  exact ix_self (vp_in_nI hp (by decide))
theorem rScan_nI (sw : Bool) (be h : Nat → Int32) (q : ¬ rScan sw be h 64 = -4) : ∃ p, p < 64 ∧ rScan sw be h 64 = nI p ∧ h (p / 8) = -4 ∧ h (8 + p % 8) = -4 := by
  obtain ⟨p, hp, e, -, e2, e3⟩ := (rScan_free sw be h (Nat.le_refl 64)).resolve_left q
  exact ⟨p, hp, e, e2, e3⟩
def rNx1 (h : Nat → Int32) (p : Nat) : Nat → Int32 := upd (upd h (p / 8) (nI (p % 8))) (8 + p % 8) (nI (p / 8))
def rMt (sw : Bool) (be : Nat → Int32) : Nat → (Nat → Int32) → (Nat → Int32)
  | 0, h => h
  | n + 1, h => if rScan sw be h 64 = -4 then h else rMt sw be n (rNx1 h (rScan sw be h 64).toNatClampNeg)
def frN (h : Nat → Int32) : Nat := cntB (fun i => decide (h i = -4)) 8
theorem cntB_mono {p q : Nat → Bool} : ∀ {n : Nat}, (∀ i, i < n → p i = true → q i = true) → cntB p n ≤ cntB q n
  | 0, _ => Nat.le_refl 0
  | n + 1, h => by
    have h1 := cntB_mono (p := p) (q := q) (n := n) (fun i hi => h i (by omega))
    unfold cntB
    by_cases e : p n = true
    · rw [if_pos e, if_pos (h n (by omega) e)]; omega
    · rw [if_neg e]; split <;> omega
theorem cntB_lt {p q : Nat → Bool} {k : Nat} : ∀ {n : Nat}, k < n → (∀ i, i < n → p i = true → q i = true) → p k = false → q k = true → cntB p n < cntB q n
  | 0, h, _, _, _ => absurd h (Nat.not_lt_zero k)
  | n + 1, hk, h, h1, h2 => by
    by_cases e : k = n
    · subst e
      have h3 := cntB_mono (p := p) (q := q) (n := k) (fun i hi => h i (by omega))
      unfold cntB
      rw [h1, if_neg (by decide), h2, if_pos rfl]
      omega
    · have h3 := cntB_lt (p := p) (q := q) (n := n) (by omega) (fun i hi => h i (by omega)) h1 h2
      unfold cntB
      by_cases e : p n = true
      · rw [if_pos e, if_pos (h n (by omega) e)]; omega
      · rw [if_neg e]; split <;> omega
theorem nI_ne_m4 {j : Nat} (h : j < 2 ^ 31) : ¬ nI j = -4 := fun e => by
  have := congrArg Int32.toInt e
  rw [nI_toInt h] at this
  have e2 : ((-4 : Int32)).toInt = -4 := by decide
  omega
theorem frN_nx {h : Nat → Int32} {p : Nat} (hp : p < 64) (h1 : h (p / 8) = -4) : frN (rNx1 h p) < frN h := by
  unfold frN
  have e : ∀ i, i < 8 → i ≠ p / 8 → rNx1 h p i = h i := fun i hi hne => by
    unfold rNx1
    rw [upd_n _ _ (by omega), upd_n _ _ hne]
  have e2 : rNx1 h p (p / 8) = nI (p % 8) := by
    unfold rNx1
    rw [upd_n _ _ (by omega), upd_s]
  refine cntB_lt (k := p / 8) (by omega) (fun i hi q => ?_) ?_ ?_
  · by_cases ei : i = p / 8
    · subst ei; exact decide_eq_true h1
    · rw [e i hi ei] at q; exact q
  · rw [e2]; exact decide_eq_false (nI_ne_m4 (by omega))
  · exact decide_eq_true h1
def rMts (sw : Bool) (be f : Nat → Int32) : Nat → Int32 := rMt sw be 9 (clrF f 16)
theorem rMt_stop {sw : Bool} {be h : Nat → Int32} {n : Nat} (q : frN h < n) (e : rScan sw be h 64 = -4) : rMt sw be n h = h := by
  obtain ⟨m, rfl⟩ : ∃ m, n = m + 1 := ⟨n - 1, by omega⟩
  unfold rMt
  rw [if_pos e]
theorem rMt_go {sw : Bool} {be h : Nat → Int32} {n p : Nat} (q : frN h < n) (e : rScan sw be h 64 = nI p) (hp : p < 64) : rMt sw be n h = rMt sw be (n - 1) (rNx1 h p) := by
  obtain ⟨m, rfl⟩ : ∃ m, n = m + 1 := ⟨n - 1, by omega⟩
  show (if rScan sw be h 64 = -4 then h else rMt sw be m (rNx1 h (rScan sw be h 64).toNatClampNeg)) = _
  rw [e, if_neg (nI_ne_m4 (by omega)), nI_clamp (by omega)]
  rfl
