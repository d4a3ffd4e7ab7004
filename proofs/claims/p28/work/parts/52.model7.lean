/-! ===== the reference: where a meeting comes to; numbers of the whole; a day ===== -/
def bd (B : Int) (x : Int32) : Prop := -B ≤ x.toInt ∧ x.toInt ≤ B
theorem bd_mono {A B : Int} {x : Int32} (h : bd A x) (hAB : A ≤ B) : bd B x := ⟨by have := h.1; omega, by have := h.2; omega⟩
theorem bd_add {A B : Int} {x y : Int32} (hx : bd A x) (hy : bd B y) (h : A + B < 2147483648) : bd (A + B) (x + y) ∧ (x + y).toInt = x.toInt + y.toInt := by
  obtain ⟨h1, h2⟩ := hx
  obtain ⟨h3, h4⟩ := hy
  have e : (x + y).toInt = x.toInt + y.toInt := by
    rw [Int32.toInt_add]
    exact Int.bmod_eq_of_le (by omega) (by omega)
  exact ⟨⟨by omega, by omega⟩, e⟩
theorem bd_sub {A B : Int} {x y : Int32} (hx : bd A x) (hy : bd B y) (h : A + B < 2147483648) : bd (A + B) (x - y) ∧ (x - y).toInt = x.toInt - y.toInt := by
  obtain ⟨h1, h2⟩ := hx
  obtain ⟨h3, h4⟩ := hy
  have e : (x - y).toInt = x.toInt - y.toInt := by
    rw [Int32.toInt_sub]
    exact Int.bmod_eq_of_le (by omega) (by omega)
  exact ⟨⟨by omega, by omega⟩, e⟩
theorem abs_mul_le {A B a b : Int} (h1 : -A ≤ a) (h2 : a ≤ A) (h3 : -B ≤ b) (h4 : b ≤ B) : -(A * B) ≤ a * b ∧ a * b ≤ A * B := by
  have hA : 0 ≤ A := by omega
  have hB : 0 ≤ B := by omega
  have k : (a * b).natAbs ≤ (A * B).natAbs := by
    rw [Int.natAbs_mul, Int.natAbs_mul]
    exact Nat.mul_le_mul (by omega) (by omega)
  have k2 : 0 ≤ A * B := Int.mul_nonneg hA hB
  omega
theorem bd_mul {A B : Int} {x y : Int32} (hx : bd A x) (hy : bd B y) (h : A * B < 2147483648) : bd (A * B) (x * y) ∧ (x * y).toInt = x.toInt * y.toInt := by
  obtain ⟨h5, h6⟩ := abs_mul_le hx.1 hx.2 hy.1 hy.2
  have e : (x * y).toInt = x.toInt * y.toInt := by
    rw [Int32.toInt_mul]
    exact Int.bmod_eq_of_le (by omega) (by omega)
  exact ⟨⟨by omega, by omega⟩, e⟩
theorem bd_neg {A : Int} {x : Int32} (hx : bd A x) (h : A < 2147483648) : bd A (-x) ∧ (-x).toInt = -x.toInt := by
  obtain ⟨h1, h2⟩ := hx
  have e : (-x).toInt = -x.toInt := by
    rw [Int32.toInt_neg]
    exact Int.bmod_eq_of_le (by omega) (by omega)
  exact ⟨⟨by omega, by omega⟩, e⟩
theorem bd_far {A : Int} {x : Int32} (hx : bd A x) (h : A < 2147483648) : bd A (farI x) ∧ (farI x).toInt = (x.toInt.natAbs : Int) := by
  obtain ⟨h1, h2⟩ := hx
  unfold farI
  by_cases e : 0 ≤ x
  · rw [if_pos e]
    rw [i_le, i_0] at e
    exact ⟨⟨h1, h2⟩, by omega⟩
  · rw [if_neg e]
    rw [i_le, i_0] at e
    have h3 := bd_neg ⟨h1, h2⟩ h
    exact ⟨h3.1, by rw [h3.2]; omega⟩
theorem far_nn {A : Int} {x : Int32} (hx : bd A x) (h : A < 2147483648) : ¬ farI x < 0 := by
  rw [i_lt, i_0, (bd_far hx h).2]
  omega
theorem bd_nI {n : Nat} {B : Int} (h : (n : Int) ≤ B) (hn : n < 2 ^ 31) : bd B (nI n) := ⟨by rw [nI_toInt hn]; omega, by rw [nI_toInt hn]; omega⟩
/-- positions -/
def okXY (f : Nat → Int32) : Prop := ∀ k, k < 16 → ∃ j, j ≤ 60 ∧ f k = nI j
theorem okXY_bd {f : Nat → Int32} (h : okXY f) {k : Nat} (hk : k < 16) : bd 60 (f k) := by
  obtain ⟨j, hj, e⟩ := h k hk
  rw [e]
  exact bd_nI (by omega) (by omega)
theorem area_bd {xo yo : Nat → Int32} (hx : okXY xo) (hy : okXY yo) {p q r : Nat} (hp : p < 16) (hq : q < 16) (hr : r < 16) : bd 28800 (rArea xo yo p q r) := by
  have x1 := (bd_sub (okXY_bd hx hq) (okXY_bd hx hp) (by decide)).1
  have x2 := (bd_sub (okXY_bd hx hr) (okXY_bd hx hp) (by decide)).1
  have y1 := (bd_sub (okXY_bd hy hq) (okXY_bd hy hp) (by decide)).1
  have y2 := (bd_sub (okXY_bd hy hr) (okXY_bd hy hp) (by decide)).1
  exact (bd_sub (bd_mul x1 y2 (by decide)).1 (bd_mul x2 y1 (by decide)).1 (by decide)).1
def rGc (x y : Int32) : Nat := Nat.gcd (farI x).toNatClampNeg y.toNatClampNeg
theorem gcd_step (a b : Nat) : Nat.gcd b (a % b) = Nat.gcd a b := by rw [Nat.gcd_comm, ← Nat.gcd_rec, Nat.gcd_comm]
/-! triangles -/
def rMm (mm : Nat → Nat) (mt : Nat → Int32) (a b c : Nat) : Bool := (decide (a < b) && (decide (b < c) && decide (c < mm 0))) && (decide (¬ mt a = -4) && (decide (¬ mt b = -4) && decide (¬ mt c = -4)))
def rTg (mm : Nat → Nat) (xo yo mt : Nat → Int32) (i a b c k : Nat) (s : Int32 × Int32) : Int32 × Int32 := if rMm mm mt a b c && ((decide (¬ farI (rArea xo yo a b c) ≤ 0) && decide (¬ s.2 ≤ farI (rArea xo yo a b c))) && rIns xo yo i a b c) then (nI k, farI (rArea xo yo a b c)) else s
theorem rTg_t {mm : Nat → Nat} {xo yo mt : Nat → Int32} {i a b c k : Nat} {s : Int32 × Int32} (h : (rMm mm mt a b c && ((decide (¬ farI (rArea xo yo a b c) ≤ 0) && decide (¬ s.2 ≤ farI (rArea xo yo a b c))) && rIns xo yo i a b c)) = true) : rTg mm xo yo mt i a b c k s = (nI k, farI (rArea xo yo a b c)) := if_pos h
theorem rTg_f {mm : Nat → Nat} {xo yo mt : Nat → Int32} {i a b c k : Nat} {s : Int32 × Int32} (h : (rMm mm mt a b c && ((decide (¬ farI (rArea xo yo a b c) ≤ 0) && decide (¬ s.2 ≤ farI (rArea xo yo a b c))) && rIns xo yo i a b c)) = false) : rTg mm xo yo mt i a b c k s = s := if_neg (by rw [h]; decide)
def rTgK (mm : Nat → Nat) (xo yo mt : Nat → Int32) (i k : Nat) (s : Int32 × Int32) : Int32 × Int32 := rTg mm xo yo mt i (k / 64) (k / 8 % 8) (k % 8) k s
def rTgS (mm : Nat → Nat) (xo yo mt : Nat → Int32) (i n : Nat) : Int32 × Int32 := itR (rTgK mm xo yo mt i) n (-4, nI 1073741824)
def rTgP (mm : Nat → Nat) (xo yo mt : Nat → Int32) (i : Nat) (s : Int32 × Int32) : Prop := s.1 = -4 ∨ ∃ k, k < 512 ∧ s.1 = nI k ∧ rMm mm mt (k / 64) (k / 8 % 8) (k % 8) = true ∧ ¬ farI (rArea xo yo (k / 64) (k / 8 % 8) (k % 8)) ≤ 0 ∧ rIns xo yo i (k / 64) (k / 8 % 8) (k % 8) = true
theorem rTgS_ok (mm : Nat → Nat) (xo yo mt : Nat → Int32) (i : Nat) {n : Nat} (hn : n ≤ 512) : rTgP mm xo yo mt i (rTgS mm xo yo mt i n) := by
  unfold rTgS
  refine itR_inv (P := rTgP mm xo yo mt i) n _ (Or.inl rfl) (fun k s hk hs => ?_)
  unfold rTgK
  cases e : (rMm mm mt (k / 64) (k / 8 % 8) (k % 8) && ((decide (¬ farI (rArea xo yo (k / 64) (k / 8 % 8) (k % 8)) ≤ 0) && decide (¬ s.2 ≤ farI (rArea xo yo (k / 64) (k / 8 % 8) (k % 8)))) && rIns xo yo i (k / 64) (k / 8 % 8) (k % 8))) with
  | false => rw [rTg_f e]; exact hs
  | true =>
    rw [rTg_t e]
    simp only [Bool.and_eq_true, decide_eq_true_eq] at e
    exact Or.inr ⟨k, by omega, rfl, e.1, e.2.1.1, e.2.2⟩
theorem rMm_lt {mm : Nat → Nat} {mt : Nat → Int32} {a b c : Nat} (h : rMm mm mt a b c = true) : (a < b ∧ b < c ∧ c < mm 0) ∧ ¬ mt a = -4 ∧ ¬ mt b = -4 ∧ ¬ mt c = -4 := by
  simp only [rMm, Bool.and_eq_true, decide_eq_true_eq] at h
  exact h
/-! the nearest -/
def rNr1 (xo yo mt : Nat → Int32) (i k : Nat) (b : Int32) : Int32 := if decide (¬ mt k = -4) && (decide (b = -4) || decide (¬ rDist xo yo i b.toNatClampNeg ≤ rDist xo yo i k)) then nI k else b
theorem rNr1_t {xo yo mt : Nat → Int32} {i k : Nat} {b : Int32} (h : (decide (¬ mt k = -4) && (decide (b = -4) || decide (¬ rDist xo yo i b.toNatClampNeg ≤ rDist xo yo i k))) = true) : rNr1 xo yo mt i k b = nI k := if_pos h
theorem rNr1_f {xo yo mt : Nat → Int32} {i k : Nat} {b : Int32} (h : (decide (¬ mt k = -4) && (decide (b = -4) || decide (¬ rDist xo yo i b.toNatClampNeg ≤ rDist xo yo i k))) = false) : rNr1 xo yo mt i k b = b := if_neg (by rw [h]; decide)
def rNrS (xo yo mt : Nat → Int32) (i n : Nat) : Int32 := itR (rNr1 xo yo mt i) n (-4)
theorem rNrS_ok (xo yo mt : Nat → Int32) (i n : Nat) : rNrS xo yo mt i n = -4 ∨ ∃ b, b < n ∧ rNrS xo yo mt i n = nI b ∧ ¬ mt b = -4 := by
  unfold rNrS
  refine itR_inv (P := fun s : Int32 => s = -4 ∨ ∃ b, b < n ∧ s = nI b ∧ ¬ mt b = -4) n _ (Or.inl rfl) (fun k s hk hs => ?_)
  cases e : (decide (¬ mt k = -4) && (decide (s = -4) || decide (¬ rDist xo yo i s.toNatClampNeg ≤ rDist xo yo i k))) with
  | false => rw [rNr1_f e]; exact hs
  | true =>
    rw [rNr1_t e]
    simp only [Bool.and_eq_true, decide_eq_true_eq] at e
    exact Or.inr ⟨k, hk, rfl, e.1⟩
def rmN (mt : Nat → Int32) (a : Nat) : Nat := (mt a).toNatClampNeg
/-- mates are places -/
def okMt4 (mt : Nat → Int32) : Prop := ∀ a, a < 16 → mt a = -4 ∨ n8 (mt a)
theorem okMt4_at {mt : Nat → Int32} (h : okMt4 mt) {a : Nat} (ha : a < 16) (q : ¬ mt a = -4) : mt a = nI (rmN mt a) ∧ rmN mt a < 8 := by
  obtain ⟨j, hj, e⟩ := (h a ha).resolve_left q
  unfold rmN
  rw [e, nI_clamp (by omega)]
  exact ⟨rfl, hj⟩
theorem okMt4_nx {h : Nat → Int32} (hh : okMt4 h) {p : Nat} (hp : p < 64) : okMt4 (rNx1 h p) := by
  intro a ha
  unfold rNx1 upd
  by_cases e1 : a = 8 + p % 8
  · rw [if_pos e1]; exact Or.inr ⟨p / 8, by omega, rfl⟩
  · rw [if_neg e1]
    by_cases e2 : a = p / 8
    · rw [if_pos e2]; exact Or.inr ⟨p % 8, by omega, rfl⟩
    · rw [if_neg e2]; exact hh a ha
theorem okMt4_mt (sw : Bool) (be : Nat → Int32) : ∀ (n : Nat) (h : Nat → Int32), okMt4 h → okMt4 (rMt sw be n h)
  | 0, h, hh => hh
  | n + 1, h, hh => by
    unfold rMt
    by_cases e : rScan sw be h 64 = -4
    · rw [if_pos e]; exact hh
    · rw [if_neg e]
      obtain ⟨p, hp, e2, -, -⟩ := rScan_nI sw be h e
      rw [e2, nI_clamp (by omega)]
      exact okMt4_mt sw be n _ (okMt4_nx hh hp)
theorem okMt4_rMts (sw : Bool) (be f : Nat → Int32) : okMt4 (rMts sw be f) := okMt4_mt sw be 9 _ (fun a ha => Or.inl (by unfold clrF; rw [if_pos ha]))
def rSm (F xo yo mt : Nat → Int32) (i a b c : Nat) : Int32 := farI (rArea xo yo i b c) * F (8 + rmN mt a) + farI (rArea xo yo a i c) * F (8 + rmN mt b) + farI (rArea xo yo a b i) * F (8 + rmN mt c)
def rCm (F xo yo : Nat → Int32) (mm : Nat → Nat) (mt : Nat → Int32) (i : Nat) : Int32 × Int32 := if mt i = -4 then
    (if (rTgS mm xo yo mt i 512).1 = -4 then
      (if rNrS xo yo mt i (mm 0) = -4 then (F i + nI 0, nI 1) else (F i + (F (8 + rmN mt (rNrS xo yo mt i (mm 0)).toNatClampNeg) - F (rNrS xo yo mt i (mm 0)).toNatClampNeg), nI 1))
     else (rSm F xo yo mt i ((rTgS mm xo yo mt i 512).1.toNatClampNeg / 64) ((rTgS mm xo yo mt i 512).1.toNatClampNeg / 8 % 8) ((rTgS mm xo yo mt i 512).1.toNatClampNeg % 8), farI (rArea xo yo ((rTgS mm xo yo mt i 512).1.toNatClampNeg / 64) ((rTgS mm xo yo mt i 512).1.toNatClampNeg / 8 % 8) ((rTgS mm xo yo mt i 512).1.toNatClampNeg % 8))))
  else (F (8 + rmN mt i), nI 1)
theorem rCm_m {F xo yo : Nat → Int32} {mm : Nat → Nat} {mt : Nat → Int32} {i : Nat} (h : ¬ mt i = -4) : rCm F xo yo mm mt i = (F (8 + rmN mt i), nI 1) := if_neg h
theorem rCm_t {F xo yo : Nat → Int32} {mm : Nat → Nat} {mt : Nat → Int32} {i k : Nat} (h : mt i = -4) (e : (rTgS mm xo yo mt i 512).1 = nI k) (hk : k < 512) : rCm F xo yo mm mt i = (rSm F xo yo mt i (k / 64) (k / 8 % 8) (k % 8), farI (rArea xo yo (k / 64) (k / 8 % 8) (k % 8))) := by
  unfold rCm
  rw [if_pos h, e, if_neg (nI_ne_m4 (by omega)), nI_clamp (by omega)]
theorem rCm_0 {F xo yo : Nat → Int32} {mm : Nat → Nat} {mt : Nat → Int32} {i : Nat} (h : mt i = -4) (e : (rTgS mm xo yo mt i 512).1 = -4) (e2 : rNrS xo yo mt i (mm 0) = -4) : rCm F xo yo mm mt i = (F i + nI 0, nI 1) := by
  unfold rCm
  rw [if_pos h, if_pos e, if_pos e2]
theorem rCm_n {F xo yo : Nat → Int32} {mm : Nat → Nat} {mt : Nat → Int32} {i m : Nat} (h : mt i = -4) (e : (rTgS mm xo yo mt i 512).1 = -4) (e2 : rNrS xo yo mt i (mm 0) = nI m) (hm : m < 16) : rCm F xo yo mm mt i = (F i + (F (8 + rmN mt m) - F m), nI 1) := by
  unfold rCm
  rw [if_pos h, if_pos e, e2, if_neg (nI_ne_m4 (by omega)), nI_clamp (by omega)]
theorem rSm_bd {F xo yo mt : Nat → Int32} (hF : okXY F) (hx : okXY xo) (hy : okXY yo) {i a b c p q r : Nat} (hi : i < 16) (ha : a < 16) (hb : b < 16) (hc : c < 16) (hp : p < 16) (hq : q < 16) (hr : r < 16) : bd 5184000 (farI (rArea xo yo i b c) * F p + farI (rArea xo yo a i c) * F q + farI (rArea xo yo a b i) * F r) := by
  have h1 := (bd_mul (bd_far (area_bd hx hy hi hb hc) (by decide)).1 (okXY_bd hF hp) (by decide)).1
  have h2 := (bd_mul (bd_far (area_bd hx hy ha hi hc) (by decide)).1 (okXY_bd hF hq) (by decide)).1
  have h3 := (bd_mul (bd_far (area_bd hx hy ha hb hi) (by decide)).1 (okXY_bd hF hr) (by decide)).1
  exact (bd_add (bd_add h1 h2 (by decide)).1 h3 (by decide)).1
def rCx (p : Int32 × Int32) : Int32 := p.1 / nI (rGc p.1 p.2)
def rCy (p : Int32 × Int32) : Int32 := p.2 / nI (rGc p.1 p.2)
def rCq (q : Int32) (p0 p1 : Int32 × Int32) : Int32 × Int32 := if q = nI 0 then p0 else if q = nI 1 then p0 else p1
def rCv (q : Int32) (p0 p1 : Int32 × Int32) : Int32 := if q = nI 0 then rCx p0 + nI 100000 else if q = nI 1 then rCy p0 else if q = nI 2 then rCx p1 + nI 100000 else rCy p1
/-! numbers of the whole -/
def rTn1 (mm : Nat → Nat) (xo yo mt : Nat → Int32) (a b c : Nat) : Bool := rMm mm mt a b c && ((decide (¬ rArea xo yo a b c ≤ 0) && decide (rArea xo yo (8 + rmN mt a) (8 + rmN mt b) (8 + rmN mt c) < 0)) || (decide (¬ 0 ≤ rArea xo yo a b c) && decide (¬ rArea xo yo (8 + rmN mt a) (8 + rmN mt b) (8 + rmN mt c) ≤ 0)))
def rTnK (mm : Nat → Nat) (xo yo mt : Nat → Int32) (k n : Nat) : Nat := if rTn1 mm xo yo mt (k / 64) (k / 8 % 8) (k % 8) then n + 1 else n
def rTuS (mm : Nat → Nat) (xo yo mt : Nat → Int32) (n : Nat) : Nat := itR (rTnK mm xo yo mt) n 0
theorem rTuS_t {mm : Nat → Nat} {xo yo mt : Nat → Int32} {k : Nat} (h : rTn1 mm xo yo mt (k / 64) (k / 8 % 8) (k % 8) = true) : nI (rTuS mm xo yo mt k + 1) = nI (rTuS mm xo yo mt (k + 1)) := by
  show _ = nI (rTnK mm xo yo mt k (rTuS mm xo yo mt k))
  unfold rTnK
  rw [if_pos h]
theorem rTuS_f {mm : Nat → Nat} {xo yo mt : Nat → Int32} {k : Nat} (h : rTn1 mm xo yo mt (k / 64) (k / 8 % 8) (k % 8) = false) : nI (rTuS mm xo yo mt k) = nI (rTuS mm xo yo mt (k + 1)) := by
  show _ = nI (rTnK mm xo yo mt k (rTuS mm xo yo mt k))
  unfold rTnK
  rw [if_neg (by rw [h]; decide)]
def allB (p : Nat → Bool) : Nat → Bool
  | 0 => true
  | n + 1 => allB p n && p n
theorem allB_f {p : Nat → Bool} {n : Nat} (h : (allB p n && p n) = false) : nI 0 = b2i (allB p (n + 1)) := by
  show _ = b2i (allB p n && p n)
  rw [h]; rfl
theorem allB_t {p : Nat → Bool} {n : Nat} (h : (allB p n && p n) = true) : nI 1 = b2i (allB p (n + 1)) := by
  show _ = b2i (allB p n && p n)
  rw [h]; rfl
def agP (mt ot : Nat → Int32) (k : Nat) : Bool := decide (mt k = ot k)
def rLone (f : Nat → Int32) : Nat → Int32
  | 0 => nI 0
  | n + 1 => rLone f n ||| (if f n = -4 then nI 1 <<< (nI n &&& 31) else nI 0)
def rCnt (mt : Nat → Int32) (n : Nat) : Nat := cntB (fun i => decide (¬ mt i = -4)) n
def rWhl (mm ss : Nat → Nat) (xo yo fr tt mt : Nat → Int32) (same : Bool) (p : PW) (q : Int32) : Int32 :=
  if inR q (nI 0) (nI 5) then (if q = nI 0 then nI (rCnt mt (mm 0)) else if q = nI 1 then nI (rTuS mm xo yo mt 512) else if q = nI 2 then b2i same else if q = nI 3 then rLone mt (mm 0) else if q = nI 4 then rLone (fun k => mt (8 + k)) (mm 1) else nI (rXs mm ss fr tt mt p (ss 0)).1) else -1
/-! a day -/
def rDyA (mm : Nat → Nat) (z k : Nat) : Nat := 8 * (dN z k % 2) + (dN z k / 2) % mm (dN z k % 2)
def rDy (mm : Nat → Nat) (z k : Nat) (p : BN) : BN := (upd p.1 (rDyA mm z k) (nI (dN z k / 16 % 61)), upd p.2 (rDyA mm z k) (nI (dN z k / 256 % 61)))
def rDyN (mm : Nat → Nat) (z : Nat) (p : BN) (n : Nat) : BN := itR (rDy mm z) n p
