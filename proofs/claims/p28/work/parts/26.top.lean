/-! ===== TwoSurveys itself: what its calls answer ===== -/
def wTS (E : GE) (O : Nat → Nat → Nat) : va_W := [(O 0 0, .inr (9, [.ref (O 1 0), .ref (O 2 0), .ref (O 3 0), .ref (O 6 0), .ref (O 9 0), .ref (O 10 0), .ref (O 11 0), .ref (O 12 0), .ref (O 15 0), .ref (O 16 0)]))]
theorem fsTS (E : GE) (O : Nat → Nat → Nat) : (wTS E O).map Prod.fst = [O 0 0] := rfl
theorem inR01 {s : Int32} (h : inR s (nI 0) (nI 1) = true) : s = nI 0 ∨ s = nI 1 := by
  obtain ⟨k, hk, rfl⟩ := inR_nI h (by decide)
  rcases (show k = 0 ∨ k = 1 by omega) with rfl | rfl
  · exact Or.inl rfl
  · exact Or.inr rfl
theorem inR01f {s : Int32} (h : inR s (nI 0) (nI 1) = false) : ¬ s = nI 0 ∧ ¬ s = nI 1 := by
  constructor
  · rintro rfl
    exact absurd h (by decide)
  · rintro rfl
    exact absurd h (by decide)
def hasM (v : TV) (s i : Int32) : Bool := (decide (s = nI 0) && hasN (sM (tA v)) i) || (decide (s = nI 1) && hasN (sM (tB v)) i)
def hasS (v : TV) (s i : Int32) : Bool := (decide (s = nI 0) && hasN (sS (tA v)) i) || (decide (s = nI 1) && hasN (sS (tB v)) i)
theorem hasM_or {v : TV} (hv : okT v) {s i : Int32} (h : hasM v s i = true) : (s = nI 0 ∧ ∃ j, j < sM (tA v) ∧ i = nI j) ∨ (s = nI 1 ∧ ∃ j, j < sM (tB v) ∧ i = nI j) := by
  have h1 := hv.1.1
  have h2 := hv.2.1.1
  simp only [hasM, Bool.or_eq_true, Bool.and_eq_true, decide_eq_true_eq] at h
  rcases h with ⟨h, q⟩ | ⟨h, q⟩
  · exact Or.inl ⟨h, hasN_nI (by omega) q⟩
  · exact Or.inr ⟨h, hasN_nI (by omega) q⟩
theorem hasS_or {v : TV} (hv : okT v) {s i : Int32} (h : hasS v s i = true) : (s = nI 0 ∧ ∃ j, j < sS (tA v) ∧ i = nI j) ∨ (s = nI 1 ∧ ∃ j, j < sS (tB v) ∧ i = nI j) := by
  have h1 := hv.1.2
  have h2 := hv.2.1.2
  simp only [hasS, Bool.or_eq_true, Bool.and_eq_true, decide_eq_true_eq] at h
  rcases h with ⟨h, q⟩ | ⟨h, q⟩
  · exact Or.inl ⟨h, hasN_nI (by omega) q⟩
  · exact Or.inr ⟨h, hasN_nI (by omega) q⟩
theorem hasM_0 {v : TV} (hv : okT v) {i : Int32} (h : hasM v (nI 0) i = true) : ∃ j, j < sM (tA v) ∧ i = nI j := by
  rcases hasM_or hv h with ⟨-, q⟩ | ⟨q, -⟩
  · exact q
  · exact absurd q (by decide)
theorem hasM_1 {v : TV} (hv : okT v) {i : Int32} (h : hasM v (nI 1) i = true) : ∃ j, j < sM (tB v) ∧ i = nI j := by
  rcases hasM_or hv h with ⟨q, -⟩ | ⟨-, q⟩
  · exact absurd q (by decide)
  · exact q
theorem hasS_0 {v : TV} (hv : okT v) {i : Int32} (h : hasS v (nI 0) i = true) : ∃ j, j < sS (tA v) ∧ i = nI j := by
  rcases hasS_or hv h with ⟨-, q⟩ | ⟨q, -⟩
  · exact q
  · exact absurd q (by decide)
def svOf (v : TV) (s : Int32) : SV := if s = nI 0 then tA v else tB v
def tPut (v : TV) (s : Int32) (x : SV) : TV := if s = nI 0 then (x, tB v, tR v, tN v) else (tA v, x, tR v, tN v)
theorem svOf_0 (v : TV) : svOf v (nI 0) = tA v := if_pos rfl
theorem svOf_1 (v : TV) : svOf v (nI 1) = tB v := if_neg (by decide)
theorem tPut_0 (v : TV) (x : SV) : tPut v (nI 0) x = (x, tB v, tR v, tN v) := if_pos rfl
theorem tPut_1 (v : TV) (x : SV) : tPut v (nI 1) x = (tA v, x, tR v, tN v) := if_neg (by decide)
abbrev PO : Type := (Nat → Nat) × Nat
/-- a pile's order, store, with one more on top -/
def pushO (N : Nat) (o : PO) : PO := (plR o.1 o.2 N, plH o.2 N)
def pushT (N : Nat) (o : PO) (tv : Nat → TV) (v : TV) : Nat → TV := upT tv (plK o.1 o.2 N) (tCopy v (tv (plK o.1 o.2 N)))
def wrV (w : (Nat → Int32) × Nat) (x : Int32) : Int32 := if inR x (nI 32) (nI 126) then (if w.2 < 200 then nI (w.2 + 1) else -3) else -1
def layOk (R : Int32 × Nat × (Nat → Int32) × TV) : Bool := decide (R.1 = -4) && (decide (¬ sM (tA R.2.2.2) = 0) && decide (¬ sM (tB R.2.2.2) = 0))
def meetV (v : TV) (s i q : Int32) : Int32 := if hasM v s i then
    (if q = nI 0 then sKd (svOf v s) i.toNatClampNeg else if q = nI 1 then sX (svOf v s) i.toNatClampNeg else if q = nI 2 then sY (svOf v s) i.toNatClampNeg
     else if q = nI 3 then reachV (tR v) (sKd (svOf v s) i.toNatClampNeg) else if q = nI 4 then nI (cntB (fun k => decide (¬ svOther (svOf v s) k i = -1)) (sS (svOf v s))) else -1) else -1
def strtV (v : TV) (s i q : Int32) : Int32 := if hasS v s i then
    (if q = nI 0 then sU (svOf v s) i.toNatClampNeg else if q = nI 1 then sV (svOf v s) i.toNatClampNeg else if q = nI 2 then sNm (svOf v s) i.toNatClampNeg else -1) else -1
def mvA (v : TV) (s i x y : Int32) : Bool := hasM v s i && (inR x (nI 0) (nI 60) && inR y (nI 0) (nI 60))
def mvB (v : TV) (s i x y : Int32) : Bool := mvA v s i x y && decide (¬ (sX (svOf v s) i.toNatClampNeg = x ∧ sY (svOf v s) i.toNatClampNeg = y))
def mvV (v : TV) (s i x y : Int32) : Int32 := if mvA v s i x y then (if mvB v s i x y then nI 1 else -2) else -1
def rnA (v : TV) (s i k : Int32) : Bool := hasM v s i && inR k (nI 0) (nI 3)
def rnB (v : TV) (s i k : Int32) : Bool := rnA v s i k && decide (¬ sKd (svOf v s) i.toNatClampNeg = k)
def rnV (v : TV) (s i k : Int32) : Int32 := if rnA v s i k then (if rnB v s i k then sKd (svOf v s) i.toNatClampNeg else -2) else -1
def nmA (v : TV) (s i k : Int32) : Bool := hasS v s i && inR k (nI 0) (nI 9)
def nmB (v : TV) (s i k : Int32) : Bool := nmA v s i k && decide (¬ sNm (svOf v s) i.toNatClampNeg = k)
def nmV (v : TV) (s i k : Int32) : Int32 := if nmA v s i k then (if nmB v s i k then sNm (svOf v s) i.toNatClampNeg else -2) else -1
def jnA (v : TV) (s x y n : Int32) : Bool := hasM v s x && (hasM v s y && (decide (¬ x = y) && inR n (nI 0) (nI 9)))
def jnB (v : TV) (s x y n : Int32) : Bool := jnA v s x y n && (decide (oI (sbF (svOf v s) x y) = -1) && decide (sS (svOf v s) < 8))
def jnV (v : TV) (s x y n : Int32) : Int32 := if jnA v s x y n then (if oI (sbF (svOf v s) x y) = -1 then (if sS (svOf v s) < 8 then nI (sS (svAddS (svOf v s) x y n)) else -3) else -2) else -1
def ctV (v : TV) (s i : Int32) : Int32 := if hasS v s i then nI (sS (svOf v s) - 1) else -1
def tnA (q x : Int32) : Bool := inR q (nI 0) (nI 1) && (if q = 0 then inR x (nI 1) (nI 20) else inR x (nI 0) (nI 3))
def tnB (v : TV) (q x : Int32) : Bool := tnA q x && decide (¬ (if q = 0 then tR v else nI (tN v)) = x)
def tnV (v : TV) (q x : Int32) : Int32 := if tnA q x then (if tnB v q x then (if q = 0 then tR v else nI (tN v)) else -2) else -1
def tnT (v : TV) (q x : Int32) : TV := if tnB v q x then (if q = 0 then tSetR v x else tSetN v x) else v
def hasTh (v : TV) (x : Int32) : Bool := inR x (nI 0) (nI 15) && (if nI 8 ≤ x then hasS v (nI 0) (x - nI 8) else hasM v (nI 0) x)
def shA (v : TV) (s p x : Int32) : Bool := (inR s (nI 0) (nI 2) && inR p (nI 0) (nI 3)) && hasTh v x
def shB (v : TV) (s p x : Int32) : Bool := shA v s p x && shTakes s x
def shV (v : TV) (s p x : Int32) : Int32 := if shA v s p x then (if shB v s p x then nI 1 else -2) else -1
def shF2 (v : TV) (f : Nat → Int32) (s p x : Int32) : Nat → Int32 := if shB v s p x then upd f (s.toNatClampNeg * 4 + p.toNatClampNeg) x else f
def sfV (f : Nat → Int32) (s p : Int32) : Int32 := if inR s (nI 0) (nI 2) && inR p (nI 0) (nI 3) then f (s.toNatClampNeg * 4 + p.toNatClampNeg) else -1
def coV (v : TV) (oa ok : PO) (w : (Nat → Int32) × Nat) (f : Nat → Int32) (q : Int32) : Int32 :=
  if q = nI 0 then nI (sM (tA v)) else if q = nI 1 then nI (sM (tB v)) else if q = nI 2 then nI (sS (tA v)) else if q = nI 3 then nI (sS (tB v)) else if q = nI 4 then tR v else if q = nI 5 then nI (tN v)
  else if q = nI 6 then nI oa.2 else if q = nI 7 then nI ok.2 else if q = nI 8 then nI w.2 else if q = nI 9 then nI (cntB (fun k => decide (¬ f k = -4)) 12) else -1
