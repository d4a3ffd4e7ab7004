/-! ===== what the calls of the matching need: mates are meetings, ways are ways, a day's draws ===== -/
theorem i_le {x y : Int32} : x ≤ y ↔ x.toInt ≤ y.toInt := Int32.le_iff_toInt_le
theorem i_lt {x y : Int32} : x < y ↔ x.toInt < y.toInt := Int32.lt_iff_toInt_lt
theorem i_0 : (0 : Int32).toInt = 0 := by decide
theorem n_0 : (nI 0).toInt = 0 := by decide
def posB (v : TV) (B : Nat → Nat → Int32) : Prop := ∀ a b, a < 8 → b < 8 → ¬ B a b ≤ 0 → a < sM (tA v) ∧ b < sM (tB v)
theorem fillB_in {F B : Nat → Nat → Int32} {a b : Nat} (ha : a < 8) (hb : b < 8) : fillB F B 8 0 a b = F a b := by
  unfold fillB
  rw [if_pos (by omega)]
theorem posB_0 (v : TV) (B : Nat → Nat → Int32) : posB v (fillB (belF v) B 8 0) := by
  intro a b ha hb h
  rw [fillB_in ha hb] at h
  unfold belF firstB at h
  by_cases q : a < sM (tA v) ∧ b < sM (tB v)
  · exact q
  · rw [if_neg q] at h
    exact absurd (by decide) h
theorem cpyR_in {B C : Nat → Nat → Int32} {a b : Nat} (ha : a < 8) (hb : b < 8) : cpyR B C 8 a b = B a b := by
  unfold cpyR va_cpy
  rw [if_pos ha, if_pos (by omega)]
  congr 1
  omega
theorem posB_s {v : TV} {s : BC} (h : posB v s.1) : posB v (impS v s).1 := by
  intro a b ha hb q
  unfold impS at q
  rw [show (fillB (impF v (cpyR s.1 s.2 8) s.1) s.1 8 0, cpyR s.1 s.2 8).1 = fillB (impF v (cpyR s.1 s.2 8) s.1) s.1 8 0 from rfl, fillB_in ha hb] at q
  unfold impF at q
  rw [cpyR_in ha hb] at q
  by_cases e : s.1 a b ≤ 0
  · rw [if_pos e] at q
    exact absurd e q
  · exact h a b ha hb e
theorem posB_n {v : TV} {s : BC} (h : posB v s.1) : ∀ n, posB v (impN v n s).1
  | 0 => h
  | n + 1 => posB_s (posB_n h n)
theorem posB_all (v : TV) (s : BC) : posB v (belAll v s).1 := posB_n (posB_0 v s.1) _
theorem scan_hit (sw : Bool) (B : Nat → Nat → Int32) (f g : Nat → Int32) (n : Nat) : (bScan sw B f g n).1 = 0 ∨ (¬ (bScan sw B f g n).1 ≤ 0 ∧ (bScan sw B f g n).1 = B (bScan sw B f g n).2.1 (bScan sw B f g n).2.2) := by
  unfold bScan
  refine itR_inv (P := fun s : Int32 × Nat × Nat => s.1 = 0 ∨ (¬ s.1 ≤ 0 ∧ s.1 = B s.2.1 s.2.2)) n _ (Or.inl rfl) (fun a s _ hs => itR_inv (P := fun s : Int32 × Nat × Nat => s.1 = 0 ∨ (¬ s.1 ≤ 0 ∧ s.1 = B s.2.1 s.2.2)) 8 s hs (fun b s _ hs => ?_))
  unfold bst
  by_cases h : f (if sw then b else a) = -1 ∧ g (if sw then a else b) = -1 ∧ ¬ B (if sw then b else a) (if sw then a else b) ≤ s.1
  · rw [if_pos h]
    refine Or.inr ⟨?_, rfl⟩
    show ¬ B (if sw then b else a) (if sw then a else b) ≤ 0
    have h3 := h.2.2
    rw [i_le] at h3
    rw [i_le, i_0]
    rcases hs with e | ⟨e, -⟩
    · rw [e, i_0] at h3; exact h3
    · rw [i_le, i_0] at e; omega
  · rw [if_neg h]
    exact hs
/-- every entry is -1 or a number below n -/
def entB (n : Nat) (f : Nat → Int32) : Prop := ∀ a, a < 8 → f a = -1 ∨ ∃ j, j < n ∧ f a = nI j
theorem entB_ng (n : Nat) (f : Nat → Int32) : entB n (ngF f 8) := fun a ha => Or.inl (by unfold ngF; rw [if_pos ha])
theorem puF_ent {v : TV} {B : Nat → Nat → Int32} {f g : Nat → Int32} (hB : posB v B) (hf : entB (sM (tB v)) f) : entB (sM (tB v)) (puF false B f g) := by
  unfold puF
  by_cases e : (bScan false B f g 8).1 = 0
  · rw [if_pos e]; exact hf
  · rw [if_neg e]
    intro a ha
    unfold upd
    by_cases q : a = (bScan false B f g 8).2.1
    · rw [if_pos q]
      have hl := bScan_lt false B f g (n := 8) (Nat.le_refl 8)
      have hh := (scan_hit false B f g 8).resolve_left e
      refine Or.inr ⟨_, (hB _ _ hl.1 hl.2 ?_).2, rfl⟩
      rw [← hh.2]
      exact hh.1
    · rw [if_neg q]
      exact hf a ha
theorem pu_ent {v : TV} {B : Nat → Nat → Int32} (hB : posB v B) : ∀ (m k : Nat) (f g : Nat → Int32), entB (sM (tB v)) f → entB (sM (tB v)) (pu false B m k f g).2.1
  | 0, k, f, g, h => h
  | m + 1, k, f, g, h => by
    unfold pu
    split
    · exact h
    · exact pu_ent hB m _ _ _ (puF_ent hB h)
theorem mtI_at {M : Nat → Int32} {a : Nat} (ha : a < 8) : mtI M (nI a) = M a := by
  unfold mtI
  rw [if_pos (inR_t ⟨Nat.zero_le a, by omega⟩ (by decide)), nI_clamp (by omega)]
theorem okMs_of {n : Nat} {M : Nat → Int32} (hn : n ≤ 8) (h : entB n M) : okMs n M := by
  intro a ha
  rcases h a ha with e | ⟨j, hj, e⟩
  · exact Or.inl (by rw [mtI_at ha]; exact e)
  · refine Or.inr ⟨?_, ?_⟩
    · unfold mtN
      rw [mtI_at ha, e, nI_clamp (by omega)]
    · unfold mtN
      rw [mtI_at ha, e, nI_clamp (by omega)]
      exact hj
theorem okMs_pu {v : TV} (hv : okT v) (s : BC) (M N : Nat → Int32) : okMs (sM (tB v)) (puAll false (belAll v s).1 M N).2.1 :=
  okMs_of hv.2.1.1 (by unfold puAll; exact pu_ent (posB_all v s) 8 0 _ _ (entB_ng _ _))
/-! ways -/
theorem sbQ_some {v : SV} {x y : Int32} (h : sbQ v x y = true) : ∃ j, sbF v x y = some j := by
  cases e : sbF v x y with
  | some j => exact ⟨j, rfl⟩
  | none =>
    unfold sbQ at h
    rw [e] at h
    exact absurd h (by decide)
theorem upd_s (f : Nat → Int32) (k : Nat) (x : Int32) : upd f k x k = x := by simp [upd]
theorem upd_n (f : Nat → Int32) {k j : Nat} (x : Int32) (h : j ≠ k) : upd f k x j = f j := by simp [upd, h]
def wyOk (v : SV) (w : WY) : Prop := w.2 ≤ 3 ∧ ∀ n, n < w.2 → ∃ j, sbF v (w.1 n) (w.1 (n + 1)) = some j
theorem wyFind_ok (v : SV) (x y : Int32) (w : WY) : wyOk v (wyFind v x y w) := by
  unfold wyFind
  by_cases h0 : (hasN (sM v) x && hasN (sM v) y) = true
  · rw [if_pos h0]
    by_cases h1 : sbQ v x y = true
    · rw [if_pos h1]
      refine ⟨by show (1 : Nat) ≤ 3; omega, fun n hn => ?_⟩
      have : n = 0 := by have : n < 1 := hn; omega
      subst this
      show ∃ j, sbF v (upd (upd w.1 0 x) 1 y 0) (upd (upd w.1 0 x) 1 y 1) = some j
      rw [upd_s, upd_n _ _ (by decide), upd_s]
      exact sbQ_some h1
    · rw [if_neg h1]
      by_cases h2 : (f1W v x y).isSome = true
      · rw [if_pos h2]
        obtain ⟨m, hm⟩ := Option.isSome_iff_exists.mp h2
        have hq := (findF_lt hm).2
        simp only [Bool.and_eq_true] at hq
        refine ⟨by show (2 : Nat) ≤ 3; omega, fun n hn => ?_⟩
        have hn : n < 2 := hn
        rw [hm]
        show ∃ j, sbF v (upd (upd (upd w.1 0 x) 1 (nI m)) 2 y n) (upd (upd (upd w.1 0 x) 1 (nI m)) 2 y (n + 1)) = some j
        rcases (show n = 0 ∨ n = 1 by omega) with rfl | rfl
        · rw [upd_n _ _ (by decide), upd_n _ _ (by decide), upd_s, upd_n _ _ (by decide), upd_s]
          exact sbQ_some hq.1
        · rw [upd_n _ _ (by decide), upd_s, upd_s]
          exact sbQ_some hq.2
      · rw [if_neg h2]
        by_cases h3 : (f2W v x y).isSome = true
        · rw [if_pos h3]
          obtain ⟨m, hm⟩ := Option.isSome_iff_exists.mp h3
          obtain ⟨k, hk⟩ := Option.isSome_iff_exists.mp (findF_lt hm).2
          have hq := (findF_lt hk).2
          simp only [Bool.and_eq_true] at hq
          refine ⟨by show (3 : Nat) ≤ 3; omega, fun n hn => ?_⟩
          have hn : n < 3 := hn
          have e : wy2 v x y (wy1 (upd w.1 0 x) (f1W v x y)) = upd (upd (wy1 (upd w.1 0 x) (f1W v x y)) 1 (nI m)) 2 (nI k) := by
            unfold wy2
            rw [hm]
            dsimp only
            rw [hk]
          have e1 : f1W v x y = none := by
            cases e1 : f1W v x y with
            | none => rfl
            | some z => rw [e1] at h2; exact absurd rfl h2
          show ∃ j, sbF v (upd (wy2 v x y (wy1 (upd w.1 0 x) (f1W v x y))) 3 y n) (upd (wy2 v x y (wy1 (upd w.1 0 x) (f1W v x y))) 3 y (n + 1)) = some j
          rw [e, e1]
          show ∃ j, sbF v (upd (upd (upd (upd w.1 0 x) 1 (nI m)) 2 (nI k)) 3 y n) (upd (upd (upd (upd w.1 0 x) 1 (nI m)) 2 (nI k)) 3 y (n + 1)) = some j
          rcases (show n = 0 ∨ n = 1 ∨ n = 2 by omega) with rfl | rfl | rfl
          · rw [upd_n _ _ (by decide), upd_n _ _ (by decide), upd_n _ _ (by decide), upd_s, upd_n _ _ (by decide), upd_n _ _ (by decide), upd_s]
            exact sbQ_some hq.1
          · rw [upd_n _ _ (by decide), upd_n _ _ (by decide), upd_s, upd_n _ _ (by decide), upd_s]
            exact sbQ_some hq.2.1
          · rw [upd_n _ _ (by decide), upd_s, upd_s]
            exact sbQ_some hq.2.2
        · rw [if_neg h3]
          exact ⟨Nat.zero_le 3, fun n hn => absurd hn (Nat.not_lt_zero n)⟩
  · rw [if_neg h0]
    exact ⟨Nat.zero_le 3, fun n hn => absurd hn (Nat.not_lt_zero n)⟩
/-! a day -/
def dN (z k : Nat) : Nat := (7919 * z + 6151 * k + 1) * (7919 * z + 6151 * k + 1) % 65521
theorem dN_lt (z k : Nat) : dN z k < 65521 := Nat.mod_lt _ (by decide)
theorem dN_eq {z k : Nat} (hz : z ≤ 9999) (hk : k < 20) {x : Int64} (hx : x = lN (7919 * z + 6151 * k + 1)) : (x * x - x * x / 65521 * 65521).toInt32 = nI (dN z k) := by
  subst hx
  have h1 : 7919 * z + 6151 * k + 1 ≤ 79500000 := by omega
  have h2 : (7919 * z + 6151 * k + 1) * (7919 * z + 6151 * k + 1) ≤ 79500000 * 79500000 := Nat.mul_le_mul h1 h1
  rw [lN_mul, show (65521 : Int64) = lN 65521 from rfl, pk_lRem (by omega) (by decide) (by decide), lN_i]
  rfl
