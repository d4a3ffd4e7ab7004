/-! ===== the reference: joins, cuts, tunes, kept states ===== -/
theorem hasR_0 {mm : Nat → Nat} (h8 : ∀ g, g < 2 → mm g ≤ 8) {i : Int32} (h : hasR mm (nI 0) i = true) : ∃ j, j < mm 0 ∧ i = nI j := by
  rcases hasR_or h8 h with ⟨-, q⟩ | ⟨q, -⟩
  · exact q
  · exact absurd q (by decide)
theorem hasR_1 {mm : Nat → Nat} (h8 : ∀ g, g < 2 → mm g ≤ 8) {i : Int32} (h : hasR mm (nI 1) i = true) : ∃ j, j < mm 1 ∧ i = nI j := by
  rcases hasR_or h8 h with ⟨q, -⟩ | ⟨-, q⟩
  · exact absurd q (by decide)
  · exact q
def rTake (s : MD0) (T : SN) : MD0 := (T.1, T.2.1, dU s, dK s, dP s, dX s, dY s, dS s, dA s, dQ s)
