/-! ===== ways and transfer: what their methods answer ===== -/
theorem findF_lt {p : Nat → Bool} {j : Nat} : ∀ {n : Nat}, findF p n = some j → j < n ∧ p j = true
  | 0, h => by simp [findF] at h
  | n + 1, h => by
    unfold findF at h
    cases e : findF p n with
    | some k =>
      rw [e] at h
      cases h
      have := findF_lt e
      exact ⟨by omega, this.2⟩
    | none =>
      rw [e] at h
      dsimp only at h
      by_cases q : p n = true
      · rw [if_pos q] at h
        cases h
        exact ⟨by omega, q⟩
      · rw [if_neg q] at h
        cases h
theorem sbF_lt {v : SV} {u w : Int32} {j : Nat} (h : sbF v u w = some j) : j < sS v := (findF_lt h).1
theorem nI_ne_m1 {j : Nat} (h : j < 2 ^ 31) : ¬ nI j = -1 := fun e => by
  have := congrArg Int32.toInt e
  rw [nI_toInt h] at this
  have e2 : ((-1 : Int32)).toInt = -1 := by decide
  omega
def sbQ (v : SV) (x y : Int32) : Bool := decide (¬ oI (sbF v x y) = -1)
def f1W (v : SV) (x y : Int32) : Option Nat := findF (fun m => sbQ v x (nI m) && sbQ v (nI m) y) (sM v)
def f2I (v : SV) (x y : Int32) (m : Nat) : Option Nat := findF (fun n => sbQ v x (nI m) && (sbQ v (nI m) (nI n) && sbQ v (nI n) y)) (sM v)
def f2W (v : SV) (x y : Int32) : Option Nat := findF (fun m => (f2I v x y m).isSome) (sM v)
abbrev WY : Type := (Nat → Int32) × Nat
def wy1 (f : Nat → Int32) (o : Option Nat) : Nat → Int32 := match o with
  | some m => upd f 1 (nI m)
  | none => f
def wy2 (v : SV) (x y : Int32) (f : Nat → Int32) : Nat → Int32 := match f2W v x y with
  | some m => (match f2I v x y m with
    | some n => upd (upd f 1 (nI m)) 2 (nI n)
    | none => f)
  | none => f
def wyFind (v : SV) (x y : Int32) (w : WY) : WY :=
  if hasN (sM v) x && hasN (sM v) y then
    (if sbQ v x y then (upd (upd w.1 0 x) 1 y, 1)
     else if (f1W v x y).isSome then (upd (wy1 (upd w.1 0 x) (f1W v x y)) 2 y, 2)
     else if (f2W v x y).isSome then (upd (wy2 v x y (wy1 (upd w.1 0 x) (f1W v x y))) 3 y, 3)
     else (wy2 v x y (wy1 (upd w.1 0 x) (f1W v x y)), 0))
  else (w.1, 0)
def wyStop (w : WY) (k : Int32) : Int32 := if decide (0 < w.2) && inR k (nI 0) (nI w.2) then w.1 k.toNatClampNeg else -4
def nmW (v : SV) (w : WY) (n : Nat) : Int32 := sNm v ((sbF v (w.1 n) (w.1 (n + 1))).getD 0)
def cmL (v : SV) (w : WY) : Nat → Nat → Int32 → Int32
  | 0, _, c => c
  | k + 1, n, c => if 0 < n ∧ ¬ nmW v w n = c then nI 0 else cmL v w k (n + 1) (nmW v w n)
/-! transfer -/
def absI (x : Int32) : Int32 := if 0 ≤ x then x else 0 - x
theorem g_absI {E : GE} {μ : MD} {Γ : GC} {cells slots : Nat} {ws : va_W} {lv : List (Nat × Value)} {pc : Nat} {rest : List Value} (X : CX E μ Γ) {idx : Nat} (hs : MSite μ.1.cls idx Lib.Math.abs.name Lib.Math.abs.code 1) {x : Int32} (hR : 1 ≤ μ.2.2.2.2.frames ∧ (rest.map fun v => v.category).sum + 13 ≤ μ.2.2.2.2.locals ∧ cells ≤ μ.2.2.2.2.cells ∧ slots ≤ μ.2.2.2.2.slots) (d : decode μ.2.1 pc = .ok (.invokestatic idx, 3))
    (k : GG E μ Γ cells slots ws lv (pc + 3) (.int (absI x) :: rest)) : GG E μ Γ cells slots ws lv pc (.int x :: rest) := g_abs X hs hR d k
def gcL : Nat → Int32 → Int32 → Int32
  | 0, d, _ => d
  | m + 1, d, s => if s = 0 then d else gcL m s (d - d / s * s)
def redV (x y z : Int32) : Int32 := if gcL 64 (absI y) z ≤ 0 then x else x / gcL 64 (absI y) z
abbrev TR : Type := Int32 × Int32 × Int32 × Int32 × Int32 × Int32
def insB (v : SV) (p a b c : Nat) : Bool := decide (absI (svArea v p b c) + absI (svArea v a p c) + absI (svArea v a b p) = absI (svArea v a b c))
abbrev TG : Type := Int32 × Int32 × Int32 × Int32
def tgOK (v : SV) (M : Nat → Int32) (p a b c : Nat) (s : TG) : Bool := decide (¬ absI (svArea v a b c) ≤ 0) && ((decide (s.1 = 0) || decide (¬ s.1 ≤ absI (svArea v a b c))) && (amB M a b c && insB v p a b c))
def tg1 (v : SV) (M : Nat → Int32) (p a b c : Nat) (s : TG) : TG := if tgOK v M p a b c s then (absI (svArea v a b c), nI a, nI b, nI c) else s
theorem tg1_t {v : SV} {M : Nat → Int32} {p a b c : Nat} {s : TG} (h : tgOK v M p a b c s = true) : tg1 v M p a b c s = (absI (svArea v a b c), nI a, nI b, nI c) := if_pos h
theorem tg1_f {v : SV} {M : Nat → Int32} {p a b c : Nat} {s : TG} (h : tgOK v M p a b c s = false) : tg1 v M p a b c s = s := if_neg (by rw [h]; decide)
def tg2 (v : SV) (M : Nat → Int32) (p a b : Nat) (s : TG) : TG := itF (tg1 v M p a b) (b + 1) (sM v) s
def tg3 (v : SV) (M : Nat → Int32) (p a : Nat) (s : TG) : TG := itF (tg2 v M p a) (a + 1) (sM v) s
def tgAll (v : SV) (M : Nat → Int32) (p : Nat) (s : TG) : TG := itR (tg3 v M p) (sM v) s
theorem itF_inv {σ : Type} {P : σ → Prop} {f : Nat → σ → σ} {lo hi : Nat} {s : σ} (h : P s) (hf : ∀ k s, lo ≤ k → k < hi → P s → P (f k s)) : P (itF f lo hi s) := by
  unfold itF
  exact itR_inv _ _ h (fun k s hk hs => hf (lo + k) s (by omega) (by omega) hs)
/-- what the search for a triangle holds: nothing yet, or a triangle that carries p -/
def tgP (v : SV) (M : Nat → Int32) (p : Nat) (s : TG) : Prop := s.1 = 0 ∨ ∃ a b c, a < b ∧ b < c ∧ c < sM v ∧ amB M a b c = true ∧ insB v p a b c = true ∧ s = (absI (svArea v a b c), nI a, nI b, nI c)
theorem tg_inv (v : SV) (M : Nat → Int32) (p : Nat) {s : TG} (h : s.1 = 0) : tgP v M p (tgAll v M p s) := by
  unfold tgAll
  refine itR_inv (P := tgP v M p) _ _ (Or.inl h) (fun a s ha hs => ?_)
  unfold tg3
  refine itF_inv (P := tgP v M p) hs (fun b s hb1 hb2 hs => ?_)
  unfold tg2
  refine itF_inv (P := tgP v M p) hs (fun c s hc1 hc2 hs => ?_)
  cases e : tgOK v M p a b c s with
  | false => rw [tg1_f e]; exact hs
  | true =>
    rw [tg1_t e]
    simp only [tgOK, Bool.and_eq_true] at e
    exact Or.inr ⟨a, b, c, by omega, by omega, hc2, e.2.2.1, e.2.2.2, rfl⟩
theorem tg_ok {v : SV} {M : Nat → Int32} {p : Nat} {s : TG} (h : s.1 = 0) (hp : ¬ (tgAll v M p s).1 ≤ 0) : ∃ a b c, a < b ∧ b < c ∧ c < sM v ∧ amB M a b c = true ∧ insB v p a b c = true ∧ tgAll v M p s = (absI (svArea v a b c), nI a, nI b, nI c) := by
  rcases tg_inv v M p h with q | q
  · rw [q] at hp
    exact absurd (by decide) hp
  · exact q
/-- the nearest that is matched -/
def sqS (v : SV) (i p : Nat) : Int32 := (sX v i - sX v p) * (sX v i - sX v p) + (sY v i - sY v p) * (sY v i - sY v p)
def nr1 (v : SV) (M : Nat → Int32) (p i : Nat) (s : Int32 × Int32) : Int32 × Int32 := if (decide (s.1 = -1) || decide (¬ s.2 ≤ sqS v i p)) && decide (¬ mtI M (nI i) = -1) then (nI i, sqS v i p) else s
theorem nr1_t {v : SV} {M : Nat → Int32} {p i : Nat} {s : Int32 × Int32} (h : ((decide (s.1 = -1) || decide (¬ s.2 ≤ sqS v i p)) && decide (¬ mtI M (nI i) = -1)) = true) : nr1 v M p i s = (nI i, sqS v i p) := if_pos h
theorem nr1_f {v : SV} {M : Nat → Int32} {p i : Nat} {s : Int32 × Int32} (h : ((decide (s.1 = -1) || decide (¬ s.2 ≤ sqS v i p)) && decide (¬ mtI M (nI i) = -1)) = false) : nr1 v M p i s = s := if_neg (by rw [h]; decide)
def nrAll (v : SV) (M : Nat → Int32) (p n : Nat) : Int32 × Int32 := itR (nr1 v M p) n (-1, nI 0)
theorem nr_ok (v : SV) (M : Nat → Int32) (p n : Nat) : (nrAll v M p n).1 = -1 ∨ ∃ j, j < n ∧ ¬ mtI M (nI j) = -1 ∧ (nrAll v M p n).1 = nI j := by
  unfold nrAll
  refine itR_inv (P := fun s : Int32 × Int32 => s.1 = -1 ∨ ∃ j, j < n ∧ ¬ mtI M (nI j) = -1 ∧ s.1 = nI j) _ _ (Or.inl rfl) (fun i s hi hs => ?_)
  cases e : ((decide (s.1 = -1) || decide (¬ s.2 ≤ sqS v i p)) && decide (¬ mtI M (nI i) = -1)) with
  | false => rw [nr1_f e]; exact hs
  | true =>
    rw [nr1_t e]
    simp only [Bool.and_eq_true, decide_eq_true_eq] at e
    exact Or.inr ⟨i, hi, e.2, rfl⟩
def wtA (v : TV) (p cb cc : Nat) : Int32 := absI (svArea (tA v) p cb cc)
def wtB (v : TV) (p ca cc : Nat) : Int32 := absI (svArea (tA v) ca p cc)
def wtC (v : TV) (p ca cb : Nat) : Int32 := absI (svArea (tA v) ca cb p)
def blV (F : Nat → Int32) (v : TV) (M : Nat → Int32) (p ca cb cc : Nat) : Int32 := wtA v p cb cc * F (mtN M ca) + wtB v p ca cc * F (mtN M cb) + wtC v p ca cb * F (mtN M cc)
def blD (v : TV) (p ca cb cc : Nat) : Int32 := wtA v p cb cc + wtB v p ca cc + wtC v p ca cb
/-- to where p comes: x, y over one denominator -/
def trFind (v : TV) (M : Nat → Int32) (p : Nat) (w : TR) : TR :=
  if ¬ mtI M (nI p) = -1 then (sX (tB v) (mtN M p), sY (tB v) (mtN M p), nI 1, w.2.2.2.1, w.2.2.2.2.1, w.2.2.2.2.2)
  else if ¬ (tgAll (tA v) M p (nI 0, w.2.2.2)).1 ≤ 0 then
    (blV (sX (tB v)) v M p (tgAll (tA v) M p (nI 0, w.2.2.2)).2.1.toNatClampNeg (tgAll (tA v) M p (nI 0, w.2.2.2)).2.2.1.toNatClampNeg (tgAll (tA v) M p (nI 0, w.2.2.2)).2.2.2.toNatClampNeg,
     blV (sY (tB v)) v M p (tgAll (tA v) M p (nI 0, w.2.2.2)).2.1.toNatClampNeg (tgAll (tA v) M p (nI 0, w.2.2.2)).2.2.1.toNatClampNeg (tgAll (tA v) M p (nI 0, w.2.2.2)).2.2.2.toNatClampNeg,
     blD v p (tgAll (tA v) M p (nI 0, w.2.2.2)).2.1.toNatClampNeg (tgAll (tA v) M p (nI 0, w.2.2.2)).2.2.1.toNatClampNeg (tgAll (tA v) M p (nI 0, w.2.2.2)).2.2.2.toNatClampNeg, (tgAll (tA v) M p (nI 0, w.2.2.2)).2)
  else if (nrAll (tA v) M p (sM (tA v))).1 = -1 then (sX (tA v) p, sY (tA v) p, nI 1, (tgAll (tA v) M p (nI 0, w.2.2.2)).2)
  else (sX (tA v) p + (sX (tB v) (mtN M (nrAll (tA v) M p (sM (tA v))).1.toNatClampNeg) - sX (tA v) (nrAll (tA v) M p (sM (tA v))).1.toNatClampNeg), sY (tA v) p + (sY (tB v) (mtN M (nrAll (tA v) M p (sM (tA v))).1.toNatClampNeg) - sY (tA v) (nrAll (tA v) M p (sM (tA v))).1.toNatClampNeg), nI 1, (tgAll (tA v) M p (nI 0, w.2.2.2)).2)
