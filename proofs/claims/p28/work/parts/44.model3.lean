/-! ===== the reference: acts, shelves, counts ===== -/
def rIx (z i : Int32) : Nat := 8 * z.toNatClampNeg + i.toNatClampNeg
def ntS (s : MD0) : MD0 := (dR s, dN0 s, ntU (dU s), dK s, dP s, dX s, dY s, dS s, dA s, dQ s)
def ntA (s : MD0) (mm ss : Nat → Nat) (kd xo yo fr tt nm ah : Nat → Int32) : Nat → Int32 := lyF (snp (dR s, dN0 s, mm, ss, kd, xo, yo, fr, tt, nm)) (ntF ah (dU s)) (ntQ (dU s))
def rMeet (s : MD0) (mm ss : Nat → Nat) (kd xo yo fr tt : Nat → Int32) (z i q : Int32) : Int32 := if hasR mm z i && inR q (nI 0) (nI 4) then
  (if q = nI 0 then kd (rIx z i) else if q = nI 1 then xo (rIx z i) else if q = nI 2 then yo (rIx z i) else if q = nI 3 then rNear (dR s) (kd (rIx z i)) else nI (cntB (rAtP fr tt z.toNatClampNeg i) (mmOf ss z))) else -1
def rStr (ss : Nat → Nat) (fr tt nm : Nat → Int32) (z i q : Int32) : Int32 := if hasR ss z i && inR q (nI 0) (nI 2) then (if q = 0 then fr (rIx z i) else if q = nI 1 then tt (rIx z i) else nm (rIx z i)) else -1
def rMvA (mm : Nat → Nat) (z i x y : Int32) : Bool := hasR mm z i && (inR x (nI 0) (nI 60) && inR y (nI 0) (nI 60))
def rMvB (mm : Nat → Nat) (xo yo : Nat → Int32) (z i x y : Int32) : Bool := rMvA mm z i x y && decide (¬ (xo (rIx z i) = x ∧ yo (rIx z i) = y))
def rMvV (mm : Nat → Nat) (xo yo : Nat → Int32) (z i x y : Int32) : Int32 := if rMvA mm z i x y then (if rMvB mm xo yo z i x y then nI 1 else -2) else -1
def rRnA (mm : Nat → Nat) (n : Nat) (z i k : Int32) : Bool := hasR mm z i && inR k (nI 0) (nI n)
def rRnB (mm : Nat → Nat) (n : Nat) (kd : Nat → Int32) (z i k : Int32) : Bool := rRnA mm n z i k && decide (¬ kd (rIx z i) = k)
def rRnV (mm : Nat → Nat) (n : Nat) (kd : Nat → Int32) (z i k : Int32) : Int32 := if rRnA mm n z i k then (if rRnB mm n kd z i k then kd (rIx z i) else -2) else -1
def rJnA (mm : Nat → Nat) (z x y n : Int32) : Bool := hasR mm z x && (hasR mm z y && (decide (¬ x = y) && inR n (nI 0) (nI 9)))
def rJnB (mm ss : Nat → Nat) (fr tt : Nat → Int32) (z x y n : Int32) : Bool := rJnA mm z x y n && (decide (rBet ss fr tt z.toNatClampNeg x y = -4) && decide (¬ mmOf ss z = 8))
def rJnV (mm ss : Nat → Nat) (fr tt : Nat → Int32) (z x y n : Int32) : Int32 := if rJnA mm z x y n then (if rBet ss fr tt z.toNatClampNeg x y = -4 then (if mmOf ss z = 8 then -3 else nI (mmOf ss z + 1)) else -2) else -1
theorem upN_s (f : Nat → Nat) (k x : Nat) : upN f k x k = x := if_pos rfl
/-- places lo .. hi of survey g moved down -/
def shG (f : Nat → Int32) (lo hi : Nat) : Nat → Int32 := fun i => if lo ≤ i ∧ i < hi then f (i + 1) else f i
theorem shG_0 (f : Nat → Int32) (lo : Nat) : shG f lo lo = f := by
  funext i
  unfold shG
  rw [if_neg (by omega)]
theorem shG_s (f : Nat → Int32) {lo hi : Nat} (h : lo ≤ hi) : upd (shG f lo hi) hi (shG f lo hi (hi + 1)) = shG f lo (hi + 1) := by
  funext i
  unfold upd shG
  by_cases e : i = hi
  · subst e
    rw [if_pos rfl, if_neg (by omega), if_pos (by omega)]
  · rw [if_neg e]
    by_cases h2 : lo ≤ i ∧ i < hi
    · rw [if_pos h2, if_pos (by omega)]
    · rw [if_neg h2, if_neg (by omega)]
def rTnA (q x : Int32) : Bool := inR q (nI 0) (nI 1) && (if q = nI 0 then inR x (nI 1) (nI 20) else inR x (nI 0) (nI 3))
def rTnW (s : MD0) (q : Int32) : Int32 := if q = nI 0 then dR s else nI (dN0 s)
def rTnB (s : MD0) (q x : Int32) : Bool := rTnA q x && decide (¬ rTnW s q = x)
def rTnV (s : MD0) (q x : Int32) : Int32 := if rTnA q x then (if rTnB s q x then rTnW s q else -2) else -1
def rTnS (s : MD0) (q x : Int32) : MD0 := if rTnB s q x then (if q = nI 0 then (x, (ntS s).2) else (dR s, x.toNatClampNeg, (ntS s).2.2)) else s
def rCo (s : MD0) (mm ss : Nat → Nat) (sh : Nat → Int32) (q : Int32) : Int32 := if inR q (nI 0) (nI 9) then
  (if q = nI 0 then nI (mm 0) else if q = nI 1 then nI (mm 1) else if q = nI 2 then nI (ss 0) else if q = nI 3 then nI (ss 1) else if q = nI 4 then dR s else if q = nI 5 then nI (dN0 s) else if q = nI 6 then nI (dU s) else if q = nI 7 then nI (dK s) else if q = nI 8 then nI (dS s) else nI (cntB (fun k => decide (¬ sh k = -4)) 12)) else -1
def rShA (mm ss : Nat → Nat) (z p x : Int32) : Bool := inR z (nI 0) (nI 2) && (inR p (nI 0) (nI 3) && (inR x (nI 0) (nI (mm 0) - nI 1) || inR x (nI 8) (nI (8 + ss 0) - nI 1)))
def rShB (mm ss : Nat → Nat) (z p x : Int32) : Bool := rShA mm ss z p x && (decide (nI 2 ≤ z) || decide (x / nI 8 = z))
def rShV (mm ss : Nat → Nat) (z p x : Int32) : Int32 := if rShA mm ss z p x then (if rShB mm ss z p x then nI 1 else -2) else -1
def rShF (mm ss : Nat → Nat) (sh : Nat → Int32) (z p x : Int32) : Nat → Int32 := if rShB mm ss z p x then upd sh (4 * z.toNatClampNeg + p.toNatClampNeg) x else sh
def rWrV (s : MD0) (x : Int32) : Int32 := if inR x (nI 32) (nI 126) then (if dS s = 200 then -3 else nI (dS s + 1)) else -1
