/-! ===== the law: its script, what holds at the loop's head ===== -/
def SC (Γ : GC) (b L : Nat) (xs : Nat → Int32) : Prop := va_X b L xs Γ.2.2.1 Γ.2.2.1.heap ∧ b < Γ.2.2.1.heap.size ∧ ¬ Γ.2.2.2.2.2.2.2.2.1 b
section XL
variable {E : GE} {μ : MD} {Γ : GC} {cells slots : Nat} {ws : va_W} {lv : List (Nat × Value)} {pc : Nat} {rest : List Value}
theorem g_xld (X : CX E μ Γ) {b L : Nat} {xs : Nat → Int32} (hX : SC Γ b L xs) {n : Nat} (hn : n < L) (hL : L < 2 ^ 31) (d : decode μ.2.1 pc = .ok (.iaload, 1))
    (k : GG E μ Γ cells slots ws lv (pc + 1) (.int (xs n) :: rest)) : GG E μ Γ cells slots ws lv pc (.int (nI n) :: .ref b :: rest) := by
  have h : (nI n).toNatClampNeg = n := nI_clamp (by omega)
  exact fun H locs ls hP hD hS hl => va_sld X.1.1 X.1.2.1 hX.1 hX.2.1 hX.2.2 hS (vp_in_nI hn hL) d (by rw [h]; exact k H locs ls hP hD hS hl)
theorem g_xlen (X : CX E μ Γ) {b L : Nat} {xs : Nat → Int32} (hX : SC Γ b L xs) (d : decode μ.2.1 pc = .ok (.arraylength, 1))
    (k : GG E μ Γ cells slots ws lv (pc + 1) (.int (nI L) :: rest)) : GG E μ Γ cells slots ws lv pc (.ref b :: rest) :=
  fun H locs ls hP hD hS hl => va_slen X.1.1 X.1.2.1 hX.1 hX.2.1 hX.2.2 hS d (k H locs ls hP hD hS hl)
end XL
theorem Rel.hs {v : TV} {w : (Nat → Int32) × Nat} {f : Nat → Int32} {oa ok : PO} {ta tk : Nat → TV} {s : MD0} {mm ss : Nat → Nat} {kd xo yo fr tt nm ah sv sh tx : Nat → Int32} (h : Rel v w f oa ok ta tk s mm ss kd xo yo fr tt nm ah sv sh tx) :
    w.2 ≤ 200 ∧ dS s ≤ 200 ∧ okT v ∧ (∀ k, k < 8 → oa.1 k < 8) ∧ oa.2 ≤ 8 ∧ dU s ≤ 8 ∧ (∀ k, k < 2 → ok.1 k < 2) ∧ ok.2 ≤ 2 ∧ dK s ≤ 2 ∧ (∀ g, g < 2 → mm g ≤ 8) ∧ (∀ g, g < 2 → ss g ≤ 8) ∧ okE ss fr tt ∧ dN0 s ≤ 3 ∧ okXY xo ∧ okXY yo ∧ (∀ g, g < 2 → 1 ≤ mm g) ∧ dU s = oa.2 ∧ dK s = ok.2 := by
  obtain ⟨⟨h1, h2, h3⟩, ⟨h4, h5, -⟩, -, ⟨h6, h7, -⟩, ⟨h8, h9, -⟩⟩ := h
  have m0 : sM (tA v) = mm 0 := h1.2.2.1.1.1
  have m1 : sM (tB v) = mm 1 := h1.2.2.1.2.1
  have hn : tN v = dN0 s := h1.2.1
  refine ⟨h5, by omega, h1.ok, h7.2.1, h7.1, by rw [h6]; exact h7.1, h9.2.1, h9.1, by rw [h8]; exact h9.1, h1.mm, h1.ss, h1.E, by rw [← hn]; exact h1.2.2.2.2.2.2, h1.2.2.2.2.1.1, h1.2.2.2.2.1.2, fun g hg => ?_, h6, h8⟩
  rcases (show g = 0 ∨ g = 1 by omega) with rfl | rfl
  · rw [← m0]; exact h2
  · rw [← m1]; exact h3
/-- both sides tell one state, and the law stands at pc -/
def NX (E : GE) (nm0 : String) (Γ : GC) (O : Nat → Nat → Nat) (Q : Nat → Nat → Nat → Nat) (a : Nat → Nat) (b kk cells slots pc : Nat) : Prop := ∀ (v : TV) (dv : TV) (w : (Nat → Int32) × Nat) (u : (Nat → Int32) × Nat) (f : Nat → Int32) (oa : PO) (ok : PO) (ta : Nat → TV) (tk : Nat → TV) (P : Nat) (B : Nat → Nat → Int32) (C : Nat → Nat → Int32) (M : Nat → Int32) (N : Nat → Int32) (f0 : Nat → Int32) (g0 : Nat → Int32) (wv : WY) (uv : TR) (s : MD0) (mm : Nat → Nat) (ss : Nat → Nat) (kd : Nat → Int32) (xo : Nat → Int32) (yo : Nat → Int32) (fr : Nat → Int32) (tt : Nat → Int32) (nm : Nat → Int32) (ah : Nat → Int32) (sv : Nat → Int32) (asd : Nat → Int32) (be : Nat → Int32) (nx : Nat → Int32) (mt : Nat → Int32) (ot : Nat → Int32) (pa : Nat → Int32) (sh : Nat → Int32) (tx : Nat → Int32) (bf : Nat → Int32), Rel v w f oa ok ta tk s mm ss kd xo yo fr tt nm ah sv sh tx → GG E (m_L nm0) Γ cells slots ([wTS E O, wTx E (O 1) w, wRd E (O 2) u, wTw E (O 3 0) (O 4) (O 5) (tR v) (tN v), wSv E (O 4) (tA v), wSv E (O 5) (tB v), wTw E (O 6 0) (O 7) (O 8) (tR dv) (tN dv), wSv E (O 7) (tA dv), wSv E (O 8) (tB dv), wPo E (O 9) (O 17) 8 oa, wPt E (O 17) (Q 0) (Q 1) 8 ta, wPo E (O 10) (O 18) 2 ok, wPt E (O 18) (Q 2) (Q 3) 2 tk, wSh E (O 11) f, wMo E (O 12) (O 13) (O 14) P, wRw E (O 13) B, wRw E (O 14) C, wAr E (O 12 3) 8 M, wAr E (O 12 4) 8 N, wAr E (O 12 5) 8 f0, wAr E (O 12 6) 8 g0, wWy E (O 15) wv, wTr E (O 16 0) uv, wMd E a s, wAn E (a 2) 2 mm, wAn E (a 3) 2 ss, wAr E (a 4) 16 kd, wAr E (a 5) 16 xo, wAr E (a 6) 16 yo, wAr E (a 7) 16 fr, wAr E (a 8) 16 tt, wAr E (a 9) 16 nm, wAr E (a 10) 816 ah, wAr E (a 12) 204 sv, wAr E (a 14) 102 asd, wAr E (a 15) 64 be, wAr E (a 16) 64 nx, wAr E (a 17) 16 mt, wAr E (a 18) 16 ot, wAr E (a 20) 4 pa, wAr E (a 23) 12 sh, wAr E (a 24) 200 tx, wAr E (a 28) 102 bf].flatten) [(0, .ref b), (1, .ref (O 0 0)), (2, .ref (a 0)), (3, .int (nI kk))] pc []
