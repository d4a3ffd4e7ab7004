/-! ===== TwoSurveys: the calls of the matching ===== -/
def mkB (v : TV) (s : BC) : BC := belAll v s
def mkP (v : TV) (s : BC) (M N : Nat → Int32) : PU := puAll false (belAll v s).1 M N
def belV (v : TV) (s : BC) (i j : Int32) : Int32 := if hasM v (nI 0) i && hasM v (nI 1) j then (if bIn (mkB v s).1 i j ≤ 0 then -4 else bIn (mkB v s).1 i j) else -1
def matV (v : TV) (M N : Nat → Int32) (s i : Int32) : Int32 := if hasM v s i then (if mtI (if s = nI 0 then M else N) i = -1 then -4 else mtI (if s = nI 0 then M else N) i) else -1
def exW (v : TV) (M : Nat → Int32) (j : Nat) (w : WY) : WY := wyFind (tB v) (mtI M (sU (tA v) j)) (mtI M (sV (tA v) j)) w
theorem exW_3 (v : TV) (M : Nat → Int32) (j : Nat) (w : WY) : (exW v M j w).2 ≤ 3 := (wyFind_ok _ _ _ _).1
def tolA (v : TV) (s k : Int32) : Bool := hasS v (nI 0) s && decide (¬ k < -1)
def tolV (v : TV) (W : WY) (k : Int32) : Int32 := if 0 < W.2 then (if k = -1 then nI W.2 else wyStop W k) else -4
def xsN (v : TV) (M : Nat → Int32) : Nat → WY → Nat × WY
  | 0, w => (0, w)
  | n + 1, w => ((if 0 < (exW v M n (xsN v M n w).2).2 then (xsN v M n w).1 + 1 else (xsN v M n w).1), exW v M n (xsN v M n w).2)
def whlV (v : TV) (PU0 : PU) (same : Bool) (xs : Nat) (q : Int32) : Int32 :=
  if inR q (nI 0) (nI 5) then (if q = nI 0 then nI PU0.1 else if q = nI 1 then nI (trAll v PU0.2.1) else if q = nI 2 then b2i same else if q = nI 3 then loneI PU0.2.1 (sM (tA v)) else if q = nI 4 then loneI PU0.2.2 (sM (tB v)) else nI xs) else -1
def smB (B : Nat → Nat → Int32) (M f g : Nat → Int32) : Bool := (findF (fun i => decide (¬ M i = (puAll true B f g).2.1 i)) 8).isNone
def cmsV (v : TV) (R : TR) (q : Int32) : Int32 := if q = nI 0 then nI 100000 + redV R.1 R.1 R.2.2.1 else if q = nI 1 then redV R.2.2.1 R.1 R.2.2.1 else if q = nI 2 then nI 100000 + redV R.2.1 R.2.1 R.2.2.1 else if q = nI 3 then redV R.2.2.1 R.2.1 R.2.2.1 else -1
def dayP (w : SV) (d : Nat) : SV := if 0 < sM w then svPut w (d / 2 % sM w) (nI (d / 16 % 61)) (nI (d / 256 % 61)) else w
def dayS (z k : Nat) (v : TV) : TV := if dN z k % 2 = 0 then (dayP (tA v) (dN z k), tB v, tR v, tN v) else (tA v, dayP (tB v) (dN z k), tR v, tN v)
def dayT (z : Nat) (n : Nat) (v : TV) : TV := itR (dayS z) n v
theorem okS_put {w : SV} (h : okS w) (j : Nat) (x y : Int32) : okS (svPut w j x y) := h
theorem okT_day {z k : Nat} {v : TV} (h : okT v) : okT (dayS z k v) := by
  unfold dayS dayP
  split
  · split
    · exact ⟨okS_put h.1 _ _ _, h.2⟩
    · exact h
  · split
    · exact ⟨h.1, okS_put h.2.1 _ _ _, h.2.2⟩
    · exact h
theorem okT_dayT {z : Nat} {v : TV} (h : okT v) (n : Nat) : okT (dayT z n v) := itR_inv n v h (fun _ _ _ hs => okT_day hs)
theorem okT_copy {o v : TV} (h : okT o) : okT (tCopy o v) := h
def dayA (z n q : Int32) : Bool := inR z (nI 0) (nI 9999) && (inR n (nI 1) (nI 20) && inR q (nI 0) (nI 1))
def dq (q : Int32) : Bool := decide (¬ q = nI 0) && (decide (¬ q = nI 1) && (decide (¬ q = nI 2) && (decide (¬ q = nI 3) && decide (¬ q = nI 4))))
theorem inR_nI1 {x : Int32} {n : Nat} (h : inR x (nI 1) (nI n) = true) (hn : n + 1 < 2 ^ 31) : ∃ k, 1 ≤ k ∧ k ≤ n ∧ x = nI k := by
  have h0 := of_decide_eq_true h
  have h1 : inR x (nI 0) (nI n) = true := decide_eq_true ⟨fun q => h0.1 (by
    rw [i_lt, n_0] at q
    rw [i_lt, nI_toInt (by omega)]
    omega), h0.2⟩
  obtain ⟨k, hk, rfl⟩ := inR_nI h1 hn
  refine ⟨k, ?_, hk, rfl⟩
  have h2 := h0.1
  rw [i_lt, nI_toInt (by omega), nI_toInt (by omega)] at h2
  omega
