/-! ===== the state: surveys, towns; small rows ===== -/
theorem n_le {a b : Nat} (ha : a < 2 ^ 31) (hb : b < 2 ^ 31) (h : nI a ≤ nI b) : a ≤ b := (nI_leI ha hb).mp h
theorem n_nle {a b : Nat} (ha : a < 2 ^ 31) (hb : b < 2 ^ 31) (h : ¬ nI a ≤ nI b) : b < a := Nat.lt_of_not_le (fun q => h ((nI_leI ha hb).mpr q))
theorem n_lt {a b : Nat} (ha : a < 2 ^ 31) (hb : b < 2 ^ 31) (h : nI a < nI b) : a < b := (nI_ltI ha hb).mp h
theorem n_nlt {a b : Nat} (ha : a < 2 ^ 31) (hb : b < 2 ^ 31) (h : ¬ nI a < nI b) : b ≤ a := Nat.le_of_not_lt (fun q => h ((nI_ltI ha hb).mpr q))
theorem n_eq {a b : Nat} (ha : a < 2 ^ 31) (hb : b < 2 ^ 31) (h : nI a = nI b) : a = b := (nI_eq ha hb).mp h
theorem n_ne {a b : Nat} (ha : a < 2 ^ 31) (hb : b < 2 ^ 31) (h : ¬ nI a = nI b) : ¬ a = b := fun q => h (by rw [q])
section GGT
variable {E : GE} {μ : MD} {Γ : GC} {cells slots : Nat} {ws : va_W} {lv : List (Nat × Value)} {pc : Nat} {rest : List Value}
theorem g_tsIn (X : CX E μ Γ) {dflt lo hi : Int} {offs : Array Int} {len : Nat} {x : Int32} {off : Int} {tgt : Nat} (cs : Int) (d : decode μ.2.1 pc = .ok (.tableswitch dflt lo hi offs, len)) (hx : x.toInt = cs) (h1 : ¬ cs < lo) (h2 : ¬ hi < cs) (ho : offs[(cs - lo).toNat]? = some off) (ht : (pc : Int) + off = (tgt : Int))
    (k : GG E μ Γ cells slots ws lv tgt rest) : GG E μ Γ cells slots ws lv pc (.int x :: rest) := by
  subst hx
  exact fun H locs ls hP hD hS hl => lv_tableIn X.1.1 X.1.2.1 d h1 h2 ho ht (k H locs ls hP hD hS hl)
theorem g_tsOut (X : CX E μ Γ) {dflt lo hi : Int} {offs : Array Int} {len : Nat} {x : Int32} {tgt : Nat} (d : decode μ.2.1 pc = .ok (.tableswitch dflt lo hi offs, len)) (h : x.toInt < lo ∨ hi < x.toInt) (ht : (pc : Int) + dflt = (tgt : Int))
    (k : GG E μ Γ cells slots ws lv tgt rest) : GG E μ Γ cells slots ws lv pc (.int x :: rest) :=
  fun H locs ls hP hD hS hl => lv_tableOut X.1.1 X.1.2.1 d h ht (k H locs ls hP hD hS hl)
theorem g_tsDef (X : CX E μ Γ) {dflt lo hi : Int} {offs : Array Int} {len : Nat} {x : Int32} {tgt : Nat} (d : decode μ.2.1 pc = .ok (.tableswitch dflt lo hi offs, len)) (hsz : offs.size = (hi - lo + 1).toNat) (hall : ∀ i : Nat, i < offs.size → offs[i]? = some dflt ∨ ¬ x.toInt = lo + i) (ht : (pc : Int) + dflt = (tgt : Int))
    (k : GG E μ Γ cells slots ws lv tgt rest) : GG E μ Γ cells slots ws lv pc (.int x :: rest) := by
  by_cases h : x.toInt < lo ∨ hi < x.toInt
  · exact g_tsOut X d h ht k
  · have h1 : ¬ x.toInt < lo := fun q => h (Or.inl q)
    have h2 : ¬ hi < x.toInt := fun q => h (Or.inr q)
    rcases hall (x.toInt - lo).toNat (by omega) with q | q
    · exact g_tsIn X x.toInt d rfl h1 h2 q ht k
    · exact absurd (by omega) q
theorem g_lsw (X : CX E μ Γ) {dflt : Int} {ps : Array (Int × Int)} {len : Nat} {x : Int32} {off : Int} {tgt : Nat} (d : decode μ.2.1 pc = .ok (.lookupswitch dflt ps, len)) (hp : (ps.toList.zip (ps.toList.drop 1)).all (fun (a, next) => a.1 < next.1) = true) (ho : Op.lookupswitch.offset ps.toList dflt x.toInt = off) (ht : (pc : Int) + off = (tgt : Int))
    (k : GG E μ Γ cells slots ws lv tgt rest) : GG E μ Γ cells slots ws lv pc (.int x :: rest) :=
  fun H locs ls hP hD hS hl => lv_lookup X.1.1 X.1.2.1 d hp ho ht (k H locs ls hP hD hS hl)
end GGT
/-- kinds, xs, ys, starts, ends, names; meetings, streets -/
abbrev SV : Type := (Nat → Int32) × (Nat → Int32) × (Nat → Int32) × (Nat → Int32) × (Nat → Int32) × (Nat → Int32) × Nat × Nat
abbrev sKd (v : SV) := v.1
abbrev sX (v : SV) := v.2.1
abbrev sY (v : SV) := v.2.2.1
abbrev sU (v : SV) := v.2.2.2.1
abbrev sV (v : SV) := v.2.2.2.2.1
abbrev sNm (v : SV) := v.2.2.2.2.2.1
abbrev sM (v : SV) := v.2.2.2.2.2.2.1
abbrev sS (v : SV) := v.2.2.2.2.2.2.2
/-- survey 0, survey 1, the radius, the rounds -/
abbrev TV : Type := SV × SV × Int32 × Nat
abbrev tA (v : TV) := v.1
abbrev tB (v : TV) := v.2.1
abbrev tR (v : TV) := v.2.2.1
abbrev tN (v : TV) := v.2.2.2
def okS (v : SV) : Prop := sM v ≤ 8 ∧ sS v ≤ 8
def wSv (E : GE) (a : Nat → Nat) (v : SV) : va_W := [(a 0, .inr (4, [.ref (a 1), .ref (a 2), .ref (a 3), .ref (a 4), .ref (a 5), .ref (a 6), .int (nI (sM v)), .int (nI (sS v))])), (a 1, .inl (E.2.2 0, 8, .inl (sKd v))), (a 2, .inl (E.2.2 0, 8, .inl (sX v))), (a 3, .inl (E.2.2 0, 8, .inl (sY v))), (a 4, .inl (E.2.2 0, 8, .inl (sU v))), (a 5, .inl (E.2.2 0, 8, .inl (sV v))), (a 6, .inl (E.2.2 0, 8, .inl (sNm v)))]
def wTw (E : GE) (t : Nat) (a b : Nat → Nat) (R : Int32) (N : Nat) : va_W := [(t, .inr (6, [.ref (a 0), .ref (b 0), .int R, .int (nI N)]))]
def wTx (E : GE) (a : Nat → Nat) (v : (Nat → Int32) × Nat) : va_W := [(a 0, .inr (5, [.ref (a 1), .int (nI v.2)])), (a 1, .inl (E.2.2 1, 200, .inl v.1))]
def wRd (E : GE) (a : Nat → Nat) (v : (Nat → Int32) × Nat) : va_W := [(a 0, .inr (2, [.ref (a 1), .int (nI v.2)])), (a 1, .inl (E.2.2 0, 3, .inl v.1))]
def wSh (E : GE) (a : Nat → Nat) (v : Nat → Int32) : va_W := [(a 0, .inr (3, [.ref (a 1)])), (a 1, .inl (E.2.2 0, 12, .inl v))]
def wWy (E : GE) (a : Nat → Nat) (v : (Nat → Int32) × Nat) : va_W := [(a 0, .inr (8, [.ref (a 1), .int (nI v.2)])), (a 1, .inl (E.2.2 0, 4, .inl v.1))]
def wTr (E : GE) (a : Nat) (v : Int32 × Int32 × Int32 × Int32 × Int32 × Int32) : va_W := [(a, .inr (7, [.int v.1, .int v.2.1, .int v.2.2.1, .int v.2.2.2.1, .int v.2.2.2.2.1, .int v.2.2.2.2.2]))]
def wAr (E : GE) (a n : Nat) (v : Nat → Int32) : va_W := [(a, .inl (E.2.2 0, n, .inl v))]
theorem fsSv (E : GE) (a : Nat → Nat) (v : SV) : (wSv E a v).map Prod.fst = [a 0, a 1, a 2, a 3, a 4, a 5, a 6] := rfl
theorem fsTw (E : GE) (t : Nat) (a b : Nat → Nat) (R : Int32) (N : Nat) : (wTw E t a b R N).map Prod.fst = [t] := rfl
theorem fsTx (E : GE) (a : Nat → Nat) (v : (Nat → Int32) × Nat) : (wTx E a v).map Prod.fst = [a 0, a 1] := rfl
theorem fsRd (E : GE) (a : Nat → Nat) (v : (Nat → Int32) × Nat) : (wRd E a v).map Prod.fst = [a 0, a 1] := rfl
theorem fsSh (E : GE) (a : Nat → Nat) (v : Nat → Int32) : (wSh E a v).map Prod.fst = [a 0, a 1] := rfl
theorem fsWy (E : GE) (a : Nat → Nat) (v : (Nat → Int32) × Nat) : (wWy E a v).map Prod.fst = [a 0, a 1] := rfl
theorem fsTr (E : GE) (a : Nat) (v : Int32 × Int32 × Int32 × Int32 × Int32 × Int32) : (wTr E a v).map Prod.fst = [a] := rfl
theorem fsAr (E : GE) (a n : Nat) (v : Nat → Int32) : (wAr E a n v).map Prod.fst = [a] := rfl
/-- value in lo .. hi -/
def inR (x lo hi : Int32) : Bool := decide (¬ x < lo ∧ ¬ hi < x)
/-- an index that a row of n has -/
def hasN (n : Nat) (i : Int32) : Bool := decide (¬ i < 0 ∧ ¬ nI n ≤ i)
theorem hasN_nI {n : Nat} (hn : n < 2 ^ 31) {i : Int32} (h : hasN n i = true) : ∃ j : Nat, j < n ∧ i = nI j := by
  have h := of_decide_eq_true h
  rcases pk_ix i hn with q | q | q
  · exact absurd q h.1
  · exact absurd q h.2
  · exact q
theorem hasN_t {n j : Nat} (hj : j < n) (hn : n < 2 ^ 31) : hasN n (nI j) = true := decide_eq_true ⟨nI_pos (by omega), nI_ge hj hn⟩
theorem hasN_f {n j : Nat} (hj : n ≤ j) (hn : j < 2 ^ 31) : hasN n (nI j) = false := decide_eq_false (fun h => h.2 (nI_le hj hn))
theorem hasN_m1 {n : Nat} : hasN n (-1) = false := decide_eq_false (fun h => h.1 (by decide))
/-- the first place below n where p holds -/
def findF (p : Nat → Bool) : Nat → Option Nat
  | 0 => none
  | n + 1 => match findF p n with
    | some k => some k
    | none => if p n then some n else none
theorem findF_none {p : Nat → Bool} {k : Nat} (h : findF p k = none) (hk : p k = false) : findF p (k + 1) = none := by simp [findF, h, hk]
theorem findF_hit {p : Nat → Bool} {k : Nat} (h : findF p k = none) (hk : p k = true) : ∀ n, k < n → findF p n = some k := by
  intro n
  induction n with
  | zero => intro h; omega
  | succ n ih =>
    intro hn
    by_cases e : k = n
    · subst e
      simp [findF, h, hk]
    · simp [findF, ih (by omega)]
def oI (o : Option Nat) : Int32 := match o with
  | some k => nI k
  | none => -1
/-- how many places below n hold p -/
def cntB (p : Nat → Bool) : Nat → Nat
  | 0 => 0
  | n + 1 => cntB p n + (if p n then 1 else 0)
theorem cntB_le (p : Nat → Bool) : ∀ n, cntB p n ≤ n
  | 0 => Nat.le_refl 0
  | n + 1 => by have := cntB_le p n; unfold cntB; split <;> omega
theorem cntB_t {p : Nat → Bool} {k : Nat} (h : p k = true) : cntB p k + 1 = cntB p (k + 1) := by simp [cntB, h]
theorem cntB_f {p : Nat → Bool} {k : Nat} (h : p k = false) : cntB p k = cntB p (k + 1) := by simp [cntB, h]
def svOther (v : SV) (k : Nat) (i : Int32) : Int32 := if sU v k = i then sV v k else if sV v k = i then sU v k else -1
def sbP (v : SV) (u w : Int32) (k : Nat) : Bool := (decide (sU v k = u) && decide (sV v k = w)) || (decide (sU v k = w) && decide (sV v k = u))
def sbF (v : SV) (u w : Int32) : Option Nat := findF (sbP v u w) (sS v)
def svArea (v : SV) (a b c : Nat) : Int32 := (sX v b - sX v a) * (sY v c - sY v a) - (sY v b - sY v a) * (sX v c - sX v a)
def addMok (v : SV) (k x y : Int32) : Bool := decide (sM v < 8) && (inR k (nI 0) (nI 3) && (inR x (nI 0) (nI 60) && inR y (nI 0) (nI 60)))
def svAddM (v : SV) (k x y : Int32) : SV := if addMok v k x y then (upd (sKd v) (sM v) k, upd (sX v) (sM v) x, upd (sY v) (sM v) y, sU v, sV v, sNm v, sM v + 1, sS v) else v
def addSok (v : SV) (u w n : Int32) : Bool := decide (sS v < 8) && (hasN (sM v) u && (hasN (sM v) w && (decide (¬ u = w) && (decide (oI (sbF v u w) = -1) && inR n (nI 0) (nI 9)))))
def svAddS (v : SV) (u w n : Int32) : SV := if addSok v u w n then (sKd v, sX v, sY v, upd (sU v) (sS v) u, upd (sV v) (sS v) w, upd (sNm v) (sS v) n, sM v, sS v + 1) else v
def svCopy (o v : SV) : SV := (va_cpy (sKd o) (sKd v) 0 0 8, va_cpy (sX o) (sX v) 0 0 8, va_cpy (sY o) (sY v) 0 0 8, va_cpy (sU o) (sU v) 0 0 8, va_cpy (sV o) (sV v) 0 0 8, va_cpy (sNm o) (sNm v) 0 0 8, sM o, sS o)
/-- a row whose places from j on have moved down, up to k -/
def shF (f : Nat → Int32) (j k : Nat) : Nat → Int32 := fun i => if j ≤ i ∧ i + 1 < k then f (i + 1) else f i
theorem shF_0 (f : Nat → Int32) (j : Nat) : shF f j (j + 1) = f := by
  funext i
  unfold shF
  rw [if_neg (by omega)]
theorem shF_s (f : Nat → Int32) (j k : Nat) (h : j < k) : upd (shF f j k) (k - 1) (shF f j k k) = shF f j (k + 1) := by
  funext i
  unfold shF upd
  by_cases e : i = k - 1
  · subst e
    rw [if_pos rfl, if_neg (by omega), if_pos (by omega)]
    congr 1; omega
  · rw [if_neg e]
    dsimp only
    by_cases h2 : j ≤ i ∧ i + 1 < k
    · rw [if_pos h2, if_pos (by omega)]
    · rw [if_neg h2, if_neg (by omega)]
def svDrop (v : SV) (j : Nat) : SV := (sKd v, sX v, sY v, shF (sU v) j (sS v), shF (sV v) j (sS v), shF (sNm v) j (sS v), sM v, sS v - 1)
def svPut (v : SV) (j : Nat) (x y : Int32) : SV := (sKd v, upd (sX v) j x, upd (sY v) j y, sU v, sV v, sNm v, sM v, sS v)
def svKind (v : SV) (j : Nat) (k : Int32) : SV := (upd (sKd v) j k, sX v, sY v, sU v, sV v, sNm v, sM v, sS v)
def svName (v : SV) (j : Nat) (n : Int32) : SV := (sKd v, sX v, sY v, sU v, sV v, upd (sNm v) j n, sM v, sS v)
