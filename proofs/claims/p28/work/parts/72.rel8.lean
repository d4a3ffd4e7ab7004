/-! ===== beliefs, mates, ways and names of both sides ===== -/
section WAYS
variable {v : TV} {S : SN}
abbrev beS (S : SN) (b : BN) : Nat → Int32 := (rBelAll (nR S) (nN S) (nM S) (nS S) (nKd S) (nX S) (nY S) (nF S) (nT S) b).1
abbrev mtS (S : SN) (b : BN) (mt : Nat → Int32) : Nat → Int32 := rMts false (beS S b) mt
theorem R_belief (H : RT v S) (p : BC) (b : BN) (i j : Int32) : belV v p i j = (if hasR (nM S) (nI 0) i && hasR (nM S) (nI 1) j then beS S b (8 * i.toNatClampNeg + j.toNatClampNeg) else -1) := by
  unfold belV
  rw [← hasM_eq H, ← hasM_eq H]
  by_cases c : (hasM v (nI 0) i && hasM v (nI 1) j) = true
  · rw [if_pos c, if_pos c]
    simp only [Bool.and_eq_true] at c
    obtain ⟨g, a, -, e1, -, e2, h8, -⟩ := hasM_ex H c.1
    obtain ⟨g', a', -, f1, -, f2, h8', -⟩ := hasM_ex H c.2
    rw [e2, f2, e1, f1, bIn_at h8 h8']
    unfold mkB
    rcases bel_all H p b a a' h8 h8' with ⟨q1, q2⟩ | ⟨k, k1, k2, q1, q2⟩
    · rw [q1, if_pos (by decide)]; exact q2.symm
    · rw [q1, if_neg (by rw [i_le, i_0, nI_toInt (by omega)]; omega)]; exact q2.symm
  · rw [if_neg c, if_neg c]
theorem R_match (H : RT v S) (p : BC) (b : BN) (M N mt : Nat → Int32) (z i : Int32) : matV v (mkP v p M N).2.1 (mkP v p M N).2.2 z i = (if hasR (nM S) z i then mtS S b mt (rIx z i) else -1) := by
  have hm := (mts_rel H false p b M N mt).1
  unfold matV mkP
  rw [← hasM_eq H]
  by_cases c : hasM v z i = true
  · rw [if_pos c, if_pos c]
    obtain ⟨g, a, ⟨hg, ez, -⟩, e1, -, -, h8, e3⟩ := hasM_ex H c
    rw [e3, ez, e1]
    rcases (show g = 0 ∨ g = 1 by omega) with rfl | rfl
    · rw [if_pos rfl, mtI_at h8, show 8 * 0 + a = a by omega]
      rcases hm.1 a h8 with ⟨q1, q2⟩ | ⟨j, k1, k2, k3, k4, k5, k6, k7⟩
      · rw [q1, if_pos rfl]; exact q2.symm
      · rw [k4, if_neg (nI_ne_m1 (by omega))]; exact k5.symm
    · rw [if_neg (show ¬ nI 1 = nI 0 by decide), mtI_at h8]
      rcases hm.2 a h8 with ⟨q1, q2⟩ | ⟨j, k1, k2, k3, k4, k5, k6, k7⟩
      · rw [q1, if_pos rfl]; exact q2.symm
      · rw [k4, if_neg (nI_ne_m1 (by omega))]; exact k5.symm
  · rw [if_neg c, if_neg c]
theorem mts_S (H : RT v S) (p : BC) (b : BN) (M N mt : Nat → Int32) : relM (nM S 0) (nM S 1) (mkP v p M N).2.1 (mkP v p M N).2.2 (mtS S b mt) := by
  unfold mkP
  exact (mts_rel H false p b M N mt).1
/-! ways -/
theorem sbQ_rfl {w : SV} (hg : goodS w) (x : Int32) : sbQ w x x = false := by
  cases e : sbF w x x with
  | none => unfold sbQ; rw [e]; rfl
  | some q =>
    obtain ⟨h1, h2⟩ := findF_lt e
    obtain ⟨a, b, ha, hb, hne, e1, e2⟩ := hg.2.2.1 q h1
    have h8 := hg.1.1
    unfold sbP at h2
    rw [e1, e2] at h2
    simp only [Bool.or_eq_true, Bool.and_eq_true, decide_eq_true_eq, and_comm, or_self] at h2
    have h3 := h2.1.trans h2.2.symm
    have h4 := congrArg Int32.toInt h3
    rw [nI_toInt (by omega), nI_toInt (by omega)] at h4
    omega
theorem way_eq (H : RT v S) (x y : Int32) : rWay (nS S) (nF S) (nT S) x y = sbQ (tB v) x y := by
  have hr := H.2.2.1.2
  have hg := H.2.2.2.1.2
  unfold rWay
  by_cases e : x = y
  · subst e
    rw [sbQ_rfl hg, decide_eq_false (fun c => c rfl)]
    rfl
  · rw [decide_eq_true e, Bool.true_and]
    unfold sbQ
    have h := bet_iff hr hg x y
    by_cases q : oI (sbF (tB v) x y) = -1
    · have q2 := h.mp q
      rw [decide_eq_false (p := ¬ rBet (nS S) (nF S) (nT S) 1 x y = -4) (fun c => c q2), decide_eq_false (p := ¬ oI (sbF (tB v) x y) = -1) (fun c => c q)]
    · have q2 : ¬ rBet (nS S) (nF S) (nT S) 1 x y = -4 := fun c => q (h.mpr c)
      rw [decide_eq_true (p := ¬ rBet (nS S) (nF S) (nT S) 1 x y = -4) q2, decide_eq_true (p := ¬ oI (sbF (tB v) x y) = -1) q]
/-- the first that fits is taken, the others leave it -/
theorem first_itR {c : Nat → Bool} {G : Nat → PW → PW} (h1 : ∀ b p, ¬ p.1 = 0 → G b p = p) (h2 : ∀ b p, p.1 = 0 → ¬ (G b p).1 = 0) : ∀ (n : Nat) (p : PW), p.1 = 0 → itR (fun b p => if c b then G b p else p) n p = (match findF c n with
    | some b => G b p
    | none => p)
  | 0, _, _ => rfl
  | n + 1, p, hp => by
    have ih := first_itR (c := c) h1 h2 n p hp
    show (if c n then G n (itR (fun b p => if c b then G b p else p) n p) else itR (fun b p => if c b then G b p else p) n p) = _
    rw [ih, show findF c (n + 1) = (match findF c n with
      | some k => some k
      | none => if c n then some n else none) from rfl]
    cases e : findF c n with
    | some b =>
      dsimp only
      rw [h1 n _ (h2 b p hp)]
      split <;> rfl
    | none =>
      dsimp only
      by_cases q : c n = true
      · rw [if_pos q, if_pos q]
      · rw [if_neg q, if_neg q]
theorem itR_stay {c : Nat → Bool} {G : Nat → PW → PW} (h1 : ∀ b p, ¬ p.1 = 0 → G b p = p) : ∀ (n : Nat) (p : PW), ¬ p.1 = 0 → itR (fun b p => if c b then G b p else p) n p = p
  | 0, _, _ => rfl
  | n + 1, p, hp => by
    show (if c n then G n (itR (fun b p => if c b then G b p else p) n p) else itR (fun b p => if c b then G b p else p) n p) = _
    rw [itR_stay h1 n p hp, h1 n p hp]
    split <;> rfl
theorem rGo_stay {n : Nat} {x y z w : Int32} (p : PW) (h : ¬ p.1 = 0) : rGo n x y z w p = p := by
  unfold rGo
  rw [if_neg h, if_neg h]
theorem rGo_new {n : Nat} {x y z w : Int32} (p : PW) (h : p.1 = 0) : rGo n x y z w p = (n, upd (upd (upd (upd p.2 0 x) 1 y) 2 z) 3 w) := by
  unfold rGo
  rw [if_pos h, if_pos h]
theorem findF_congr {p q : Nat → Bool} : ∀ {n : Nat}, (∀ i, i < n → p i = q i) → findF p n = findF q n
  | 0, _ => rfl
  | n + 1, h => by
    unfold findF
    rw [h n (by omega), findF_congr (fun k hk => h k (by omega))]
def c3W (w : SV) (x y : Int32) (b c : Nat) : Bool := sbQ w x (nI b) && (sbQ w (nI b) (nI c) && sbQ w (nI c) y)
theorem rC3_eq (H : RT v S) {x y : Int32} (h : sbQ (tB v) x y = false) (b c : Nat) : rC3 (nS S) (nF S) (nT S) x y b c = c3W (tB v) x y b c := by
  unfold rC3 c3W
  rw [way_eq H, way_eq H, way_eq H]
  by_cases e1 : nI b = y
  · rw [e1, h]
    simp
  · by_cases e2 : nI c = x
    · rw [e2, h]
      simp
    · rw [decide_eq_true e1, decide_eq_true e2]
      rfl
def g3W (w : SV) (x y : Int32) (m b : Nat) (p : PW) : PW := match findF (c3W w x y b) m with
  | some c => rGo 3 x (nI b) (nI c) y p
  | none => p
theorem g3W_new {w : SV} {x y : Int32} {m b : Nat} {p : PW} (hp : p.1 = 0) (h : (findF (c3W w x y b) m).isSome = true) : ¬ (g3W w x y m b p).1 = 0 := by
  obtain ⟨c, hc⟩ := Option.isSome_iff_exists.mp h
  unfold g3W
  rw [hc]
  dsimp only
  rw [rGo_new p hp]
  exact (by decide : ¬ (3 : Nat) = 0)
def g3X (w : SV) (x y : Int32) (m b : Nat) (p : PW) : PW := if p.1 = 0 then (if (findF (c3W w x y b) m).isSome then g3W w x y m b p else (4, p.2)) else p
theorem r3_one (H : RT v S) {x y : Int32} (h : sbQ (tB v) x y = false) (m b : Nat) (p : PW) : itR (rP3 (nS S) (nF S) (nT S) x y b) m p = (if (findF (c3W (tB v) x y b) m).isSome then g3X (tB v) x y m b p else p) := by
  have e0 : rP3 (nS S) (nF S) (nT S) x y b = fun c p => if c3W (tB v) x y b c then rGo 3 x (nI b) (nI c) y p else p := by
    funext c q
    unfold rP3
    have := rC3_eq H h b c
    unfold rC3 at this
    rw [this]
  rw [e0]
  by_cases hp : p.1 = 0
  · rw [first_itR (fun c p hp => rGo_stay p hp) (fun c p hp => by rw [rGo_new p hp]; exact (by decide : ¬ (3 : Nat) = 0)) m p hp]
    unfold g3X g3W
    rw [if_pos hp]
    cases e : findF (c3W (tB v) x y b) m with
    | some c => rfl
    | none => rfl
  · rw [itR_stay (fun c p hp => rGo_stay p hp) m p hp]
    unfold g3X
    rw [if_neg hp]
    split <;> rfl
theorem r3_all (H : RT v S) {x y : Int32} (h : sbQ (tB v) x y = false) (m : Nat) {p : PW} (hp : p.1 = 0) : itR (fun b p => itR (rP3 (nS S) (nF S) (nT S) x y b) m p) m p = (match findF (fun b => (findF (c3W (tB v) x y b) m).isSome) m with
    | some b => g3W (tB v) x y m b p
    | none => p) := by
  have e0 : (fun b p => itR (rP3 (nS S) (nF S) (nT S) x y b) m p) = fun b p => if (findF (c3W (tB v) x y b) m).isSome then g3X (tB v) x y m b p else p := by
    funext b q
    exact r3_one H h m b q
  rw [e0, first_itR (c := fun b => (findF (c3W (tB v) x y b) m).isSome) (G := g3X (tB v) x y m) (fun b q hq => if_neg hq) (fun b q hq => by
    unfold g3X
    rw [if_pos hq]
    split
    · rename_i hs
      exact g3W_new hq hs
    · exact (by decide : ¬ (4 : Nat) = 0)) m p hp]
  cases e : findF (fun b => (findF (c3W (tB v) x y b) m).isSome) m with
  | none => rfl
  | some b =>
    dsimp only
    have h2 := (findF_lt e).2
    unfold g3X
    rw [if_pos hp, if_pos h2]
/-- a way here and there: as long, through the same meetings -/
def relP (W : WY) (p : PW) : Prop := W.2 = p.1 ∧ (0 < W.2 → ∀ k, k ≤ W.2 → W.1 k = p.2 k)
theorem hasN_m {n a : Nat} (ha : a < n) (hn : n ≤ 8) : hasN n (nI a) = true := hasN_t ha (by omega)
def mate (n : Nat) (x y : Int32) : Prop := (x = -1 ∧ y = -4) ∨ ∃ a, a < n ∧ x = nI a ∧ y = nI a
theorem way_rel (H : RT v S) {x y x' y' : Int32} (hx : mate (sM (tB v)) x x') (hy : mate (sM (tB v)) y y') (w : WY) (pa : Nat → Int32) : relP (wyFind (tB v) x y w) (rPth (nM S) (nS S) (nF S) (nT S) x' y' pa) := by
  have hB : sM (tB v) = nM S 1 := H.2.2.1.2.1
  have h8 : sM (tB v) ≤ 8 := H.2.2.2.1.2.1.1
  unfold wyFind rPth
  rcases hx with ⟨rfl, rfl⟩ | ⟨a, ha, rfl, rfl⟩
  · rw [hasN_m1, if_pos (Or.inl rfl)]
    exact ⟨rfl, fun q => absurd q (Nat.lt_irrefl 0)⟩
  · rcases hy with ⟨rfl, rfl⟩ | ⟨b, hb, rfl, rfl⟩
    · rw [hasN_m1, Bool.and_false, if_pos (Or.inr rfl)]
      exact ⟨rfl, fun q => absurd q (Nat.lt_irrefl 0)⟩
    · have hn : ¬ (nI a = -4 ∨ nI b = -4) := by
        rintro (q | q)
        · exact nI_ne_m4 (by omega) q
        · exact nI_ne_m4 (by omega) q
      rw [hasN_m ha h8, hasN_m hb h8, if_neg hn, ← hB]
      show relP (if sbQ (tB v) (nI a) (nI b) then _ else _) _
      unfold rW3 rW2 rW1 rP1
      rw [way_eq H]
      have e2 : rP2 (nS S) (nF S) (nT S) (nI a) (nI b) = fun m p => if (sbQ (tB v) (nI a) (nI m) && sbQ (tB v) (nI m) (nI b)) then rGo 2 (nI a) (nI m) (nI b) (-4) p else p := by
        funext m p
        unfold rP2
        rw [way_eq H, way_eq H]
      have s3 : ∀ (k l : Nat) (p : PW), ¬ p.1 = 0 → itR (fun b' p => itR (rP3 (nS S) (nF S) (nT S) (nI a) (nI b) b') k p) l p = p := by
        intro k l p hp
        have s0 : ∀ b' q, ¬ q.1 = 0 → itR (rP3 (nS S) (nF S) (nT S) (nI a) (nI b) b') k q = q := fun b' q hq => itR_stay (c := rC3 (nS S) (nF S) (nT S) (nI a) (nI b) b') (fun c p hp => rGo_stay p hp) k q hq
        exact (itR_inv (P := fun q => q = p) l p rfl (fun b' q _ hq => by rw [hq]; exact s0 b' p hp))
      by_cases h1 : sbQ (tB v) (nI a) (nI b) = true
      · rw [if_pos h1, if_pos h1, rGo_new _ rfl, e2, itR_stay (fun c p hp => rGo_stay p hp) _ _ (show ¬ (1 : Nat) = 0 by decide), s3 _ _ _ (show ¬ (1 : Nat) = 0 by decide)]
        refine ⟨rfl, fun _ k hk => ?_⟩
        have hk : k ≤ 1 := hk
        show upd (upd w.1 0 (nI a)) 1 (nI b) k = upd (upd (upd (upd pa 0 (nI a)) 1 (nI b)) 2 (-4)) 3 (-4) k
        rw [upd_n _ _ (show k ≠ 3 by omega), upd_n _ _ (show k ≠ 2 by omega)]
        rcases (show k = 0 ∨ k = 1 by omega) with rfl | rfl
        · rw [upd_n _ _ (by decide), upd_s, upd_n _ _ (by decide), upd_s]
        · rw [upd_s, upd_s]
      · rw [if_neg h1, if_neg h1]
        have h1 : sbQ (tB v) (nI a) (nI b) = false := by simpa using h1
        rw [e2, first_itR (fun c p hp => rGo_stay p hp) (fun c p hp => by rw [rGo_new p hp]; exact (by decide : ¬ (2 : Nat) = 0)) _ _ rfl]
        show relP (if (f1W (tB v) (nI a) (nI b)).isSome then _ else _) (itR _ _ (match f1W (tB v) (nI a) (nI b) with
          | some m => rGo 2 (nI a) (nI m) (nI b) (-4) (0, pa)
          | none => (0, pa)))
        cases e : f1W (tB v) (nI a) (nI b) with
        | some m =>
          dsimp only
          rw [if_pos (show (some m).isSome = true from rfl), rGo_new _ rfl, s3 _ _ _ (show ¬ (2 : Nat) = 0 by decide)]
          refine ⟨rfl, fun _ k hk => ?_⟩
          have hk : k ≤ 2 := hk
          show upd (upd (upd w.1 0 (nI a)) 1 (nI m)) 2 (nI b) k = upd (upd (upd (upd pa 0 (nI a)) 1 (nI m)) 2 (nI b)) 3 (-4) k
          rw [upd_n _ _ (show k ≠ 3 by omega)]
          rcases (show k = 0 ∨ k = 1 ∨ k = 2 by omega) with rfl | rfl | rfl
          · rw [upd_n _ _ (by decide), upd_n _ _ (by decide), upd_s, upd_n _ _ (by decide), upd_n _ _ (by decide), upd_s]
          · rw [upd_n _ _ (by decide), upd_s, upd_n _ _ (by decide), upd_s]
          · rw [upd_s, upd_s]
        | none =>
          dsimp only
          rw [if_neg (by decide), r3_all H h1 _ rfl]
          show relP (if (f2W (tB v) (nI a) (nI b)).isSome then _ else _) (match f2W (tB v) (nI a) (nI b) with
            | some m => g3W (tB v) (nI a) (nI b) (sM (tB v)) m (0, pa)
            | none => (0, pa))
          cases e3 : f2W (tB v) (nI a) (nI b) with
          | none =>
            dsimp only
            rw [if_neg (by decide)]
            exact ⟨rfl, fun q => absurd q (Nat.lt_irrefl 0)⟩
          | some m =>
            dsimp only
            rw [if_pos (show (some m).isSome = true from rfl)]
            obtain ⟨c, hc⟩ := Option.isSome_iff_exists.mp (findF_lt e3).2
            have e4 : g3W (tB v) (nI a) (nI b) (sM (tB v)) m (0, pa) = (3, upd (upd (upd (upd pa 0 (nI a)) 1 (nI m)) 2 (nI c)) 3 (nI b)) := by
              unfold g3W
              rw [show findF (c3W (tB v) (nI a) (nI b) m) (sM (tB v)) = some c from hc]
              dsimp only
              rw [rGo_new _ rfl]
            have e5 : wy2 (tB v) (nI a) (nI b) (wy1 (upd w.1 0 (nI a)) none) = upd (upd (upd w.1 0 (nI a)) 1 (nI m)) 2 (nI c) := by
              unfold wy2
              rw [e3]
              dsimp only
              rw [hc]
              rfl
            rw [e4, e5]
            refine ⟨rfl, fun _ k hk => ?_⟩
            have hk : k ≤ 3 := hk
            show upd (upd (upd (upd w.1 0 (nI a)) 1 (nI m)) 2 (nI c)) 3 (nI b) k = upd (upd (upd (upd pa 0 (nI a)) 1 (nI m)) 2 (nI c)) 3 (nI b) k
            rcases (show k = 0 ∨ k = 1 ∨ k = 2 ∨ k = 3 by omega) with rfl | rfl | rfl | rfl
            · rw [upd_n _ _ (by decide), upd_n _ _ (by decide), upd_n _ _ (by decide), upd_s, upd_n _ _ (by decide), upd_n _ _ (by decide), upd_n _ _ (by decide), upd_s]
            · rw [upd_n _ _ (by decide), upd_n _ _ (by decide), upd_s, upd_n _ _ (by decide), upd_n _ _ (by decide), upd_s]
            · rw [upd_n _ _ (by decide), upd_s, upd_n _ _ (by decide), upd_s]
            · rw [upd_s, upd_s]
theorem mate_at {m0 m1 : Nat} {f g h : Nat → Int32} (hm : relM m0 m1 f g h) {i : Nat} (hi : i < 8) : mate m1 (mtI f (nI i)) (h i) := by
  rw [mtI_at hi]
  rcases hm.1 i hi with q | ⟨j, k1, k2, k3, k4, k5, -⟩
  · exact Or.inl q
  · exact Or.inr ⟨j, k2, k4, k5⟩
theorem exW_rel (H : RT v S) {M N mt : Nat → Int32} (hm : relM (nM S 0) (nM S 1) M N mt) {k : Nat} (hk : k < sS (tA v)) (w : WY) (pa : Nat → Int32) : relP (exW v M k w) (rPt (nM S) (nS S) (nF S) (nT S) mt k pa) := by
  have hB : sM (tB v) = nM S 1 := H.2.2.1.2.1
  have h8 : sM (tA v) ≤ 8 := H.2.2.2.1.1.1.1
  obtain ⟨a, b, ha, hb, -, e1, e2⟩ := H.2.2.2.1.1.2.2.1 k hk
  obtain ⟨f1, f2, -⟩ := H.2.2.1.1.2.2.2 k hk
  rw [show 8 * 0 + k = k by omega] at f1 f2
  have g1 : nF S k = nI a := f1.symm.trans e1
  have g2 : nT S k = nI b := f2.symm.trans e2
  unfold exW rPt rMa
  rw [e1, e2, g1, g2, nI_clamp (by omega), nI_clamp (by omega)]
  refine way_rel H ?_ ?_ w pa
  · rw [hB]; exact mate_at hm (by omega)
  · rw [hB]; exact mate_at hm (by omega)
theorem tol_rel {W : WY} {p : PW} (h : relP W p) (hp : W.2 ≤ 3) {k : Int32} (hk : ¬ k < -1) : tolV v W k = rTol p k := by
  unfold tolV rTol
  rw [← h.1]
  by_cases e : 0 < W.2
  · rw [if_pos e, if_neg (show ¬ W.2 = 0 by omega)]
    by_cases q : k = -1
    · rw [if_pos q, if_pos q]
    · rw [if_neg q, if_neg q]
      have h0 : ¬ k < 0 := fun c => by
        rw [i_lt, i_0] at c
        rw [i_lt, show ((-1 : Int32)).toInt = -1 from by decide] at hk
        exact q (Int32.toInt_inj.mp (by rw [show ((-1 : Int32)).toInt = -1 from by decide]; omega))
      obtain ⟨j, hj, rfl⟩ := nI_of h0
      unfold wyStop
      by_cases c : nI W.2 < nI j
      · rw [if_pos c, if_neg (by
          simp only [Bool.and_eq_true, decide_eq_true_eq, inR]
          rintro ⟨-, -, q⟩
          exact q c)]
      · rw [if_neg c, if_pos (by
          simp only [Bool.and_eq_true, decide_eq_true_eq, inR]
          exact ⟨e, by rw [nI_0]; exact h0, c⟩), nI_clamp hj]
        rw [i_lt, nI_toInt (by omega), nI_toInt hj] at c
        exact h.2 e j (by omega)
  · rw [if_neg e, if_pos (by omega)]
theorem R_told (H : RT v S) (p : BC) (b : BN) (M N mt : Nat → Int32) (wv : WY) (pa : Nat → Int32) (s k : Int32) : (if tolA v s k then tolV v (exW v (mkP v p M N).2.1 s.toNatClampNeg wv) k else -1) = (if rTolA (nS S) s k then rTol (rPt (nM S) (nS S) (nF S) (nT S) (mtS S b mt) s.toNatClampNeg pa) k else -1) := by
  have e : tolA v s k = rTolA (nS S) s k := by
    unfold tolA rTolA
    rw [hasS_eq H]
    congr 1
    by_cases q : k < -1
    · rw [decide_eq_false (fun c => c q), decide_eq_false (fun c => by rw [i_le] at c; rw [i_lt] at q; omega)]
    · rw [decide_eq_true q, decide_eq_true (by rw [i_le]; rw [i_lt] at q; omega)]
  rw [← e]
  by_cases c : tolA v s k = true
  · rw [if_pos c, if_pos c]
    simp only [tolA, Bool.and_eq_true, decide_eq_true_eq] at c
    obtain ⟨g, j, ⟨-, ez, hr, hg, -⟩, e1, hj, e2, h8, -⟩ := hasS_ex H c.1
    have hj : j < sS (tA v) := hj
    rw [e2]
    have hP := exW_rel H (mts_S H p b M N mt) hj wv pa
    have h3 := exW_3 v (mkP v p M N).2.1 j wv
    generalize exW v (mkP v p M N).2.1 j wv = W at *
    generalize rPt (nM S) (nS S) (nF S) (nT S) (mtS S b mt) j pa = P at *
    exact tol_rel hP h3 c.2
  · rw [if_neg c, if_neg c]
theorem nmW_eq (H : RT v S) {W : WY} {p : PW} (h : relP W p) (hw : wyOk (tB v) W) {n : Nat} (hn : n < W.2) : nmW (tB v) W n = rNm (nS S) (nF S) (nT S) (nNm S) p.2 n := by
  obtain ⟨j, hj⟩ := hw.2 n hn
  have hlt := sbF_lt hj
  have h8 : sS (tB v) ≤ 8 := H.2.2.2.1.2.1.2
  unfold nmW rNm
  rw [hj, ← h.2 (by omega) n (by omega), ← h.2 (by omega) (n + 1) (by omega), bet_some H.2.2.1.2 H.2.2.2.1.2 hj, nI_clamp (by omega)]
  exact (H.2.2.1.2.2.2.2 j hlt).2.2
theorem R_named (H : RT v S) (p : BC) (b : BN) (M N mt : Nat → Int32) (wv : WY) (pa : Nat → Int32) (s : Int32) : (if hasS v (nI 0) s then (if sNm (tA v) s.toNatClampNeg = 0 then cmL (tB v) (exW v (mkP v p M N).2.1 s.toNatClampNeg wv) (exW v (mkP v p M N).2.1 s.toNatClampNeg wv).2 0 (nI 0) else sNm (tA v) s.toNatClampNeg) else -1) = (if hasR (nS S) (nI 0) s then (if ¬ nNm S s.toNatClampNeg = 0 ∨ (rPt (nM S) (nS S) (nF S) (nT S) (mtS S b mt) s.toNatClampNeg pa).1 = 0 then nNm S s.toNatClampNeg else rNmF (nS S) (nF S) (nT S) (nNm S) (rPt (nM S) (nS S) (nF S) (nT S) (mtS S b mt) s.toNatClampNeg pa).2 ((rPt (nM S) (nS S) (nF S) (nT S) (mtS S b mt) s.toNatClampNeg pa).1 - 1)) else -1) := by
  rw [← hasS_eq H]
  by_cases c : hasS v (nI 0) s = true
  · rw [if_pos c, if_pos c]
    obtain ⟨g, j, ⟨-, ez, hr, hg, -⟩, e1, hj, e2, h8, -⟩ := hasS_ex H c
    have hj : j < sS (tA v) := hj
    rw [e2]
    have en : sNm (tA v) j = nNm S j := by
      have := (H.2.2.1.1.2.2.2 j hj).2.2
      rw [show 8 * 0 + j = j by omega] at this
      exact this
    rw [en]
    by_cases q : nNm S j = 0
    · rw [if_pos q]
      have hw : wyOk (tB v) (exW v (mkP v p M N).2.1 j wv) := wyFind_ok _ _ _ _
      have hP : relP (exW v (mkP v p M N).2.1 j wv) (rPt (nM S) (nS S) (nF S) (nT S) (mtS S b mt) j pa) := exW_rel H (mts_S H p b M N mt) hj wv pa
      have hn := fun n => nmW_eq H hP hw (n := n)
      have h3 := hw.1
      have h2 := hP.1
      generalize exW v (mkP v p M N).2.1 j wv = W at *
      generalize rPt (nM S) (nS S) (nF S) (nT S) (mtS S b mt) j pa = P at *
      rw [← h2]
      rcases (show W.2 = 0 ∨ W.2 = 1 ∨ W.2 = 2 ∨ W.2 = 3 by omega) with e | e | e | e
      · rw [e, if_pos (Or.inr rfl), q]
        exact nI_0
      · rw [e, if_neg (by rintro (q1 | q1); exact q1 q; exact absurd q1 (by decide))]
        show (if 0 < 0 ∧ ¬ nmW (tB v) W 0 = nI 0 then nI 0 else nmW (tB v) W 0) = rNm (nS S) (nF S) (nT S) (nNm S) P.2 0
        rw [if_neg (fun q => absurd q.1 (by decide)), hn 0 (by omega)]
      · rw [e, if_neg (by rintro (q1 | q1); exact q1 q; exact absurd q1 (by decide))]
        show (if 0 < 0 ∧ ¬ nmW (tB v) W 0 = nI 0 then nI 0 else if 0 < 1 ∧ ¬ nmW (tB v) W 1 = nmW (tB v) W 0 then nI 0 else nmW (tB v) W 1) = (if rNm (nS S) (nF S) (nT S) (nNm S) P.2 1 = rNm (nS S) (nF S) (nT S) (nNm S) P.2 0 then rNm (nS S) (nF S) (nT S) (nNm S) P.2 0 else nI 0)
        rw [if_neg (fun q => absurd q.1 (by decide)), hn 0 (by omega), hn 1 (by omega)]
        by_cases k1 : rNm (nS S) (nF S) (nT S) (nNm S) P.2 1 = rNm (nS S) (nF S) (nT S) (nNm S) P.2 0
        · rw [if_neg (fun q => q.2 k1), if_pos k1, k1]
        · rw [if_pos ⟨by decide, k1⟩, if_neg k1]
      · rw [e, if_neg (by rintro (q1 | q1); exact q1 q; exact absurd q1 (by decide))]
        show (if 0 < 0 ∧ ¬ nmW (tB v) W 0 = nI 0 then nI 0 else if 0 < 1 ∧ ¬ nmW (tB v) W 1 = nmW (tB v) W 0 then nI 0 else if 0 < 2 ∧ ¬ nmW (tB v) W 2 = nmW (tB v) W 1 then nI 0 else nmW (tB v) W 2) = (if rNm (nS S) (nF S) (nT S) (nNm S) P.2 2 = (if rNm (nS S) (nF S) (nT S) (nNm S) P.2 1 = rNm (nS S) (nF S) (nT S) (nNm S) P.2 0 then rNm (nS S) (nF S) (nT S) (nNm S) P.2 0 else nI 0) then (if rNm (nS S) (nF S) (nT S) (nNm S) P.2 1 = rNm (nS S) (nF S) (nT S) (nNm S) P.2 0 then rNm (nS S) (nF S) (nT S) (nNm S) P.2 0 else nI 0) else nI 0)
        rw [if_neg (fun q => absurd q.1 (by decide)), hn 0 (by omega), hn 1 (by omega), hn 2 (by omega)]
        by_cases k1 : rNm (nS S) (nF S) (nT S) (nNm S) P.2 1 = rNm (nS S) (nF S) (nT S) (nNm S) P.2 0
        · rw [if_neg (fun q => q.2 k1), if_pos k1, k1]
          by_cases k2 : rNm (nS S) (nF S) (nT S) (nNm S) P.2 2 = rNm (nS S) (nF S) (nT S) (nNm S) P.2 0
          · rw [if_neg (fun q => q.2 k2), if_pos k2, k2]
          · rw [if_pos ⟨by decide, k2⟩, if_neg k2]
        · rw [if_pos ⟨by decide, k1⟩, if_neg k1]
          split <;> rfl
    · rw [if_neg q, if_pos (Or.inl q)]
  · rw [if_neg c, if_neg c]
theorem xs_rel (H : RT v S) {M N mt : Nat → Int32} (hm : relM (nM S 0) (nM S 1) M N mt) (w : WY) (p : PW) : ∀ n, n ≤ sS (tA v) → (xsN v M n w).1 = (rXs (nM S) (nS S) (nF S) (nT S) mt p n).1
  | 0, _ => rfl
  | n + 1, hn => by
    have ih := xs_rel H hm w p n (by omega)
    have h := (exW_rel H hm (show n < sS (tA v) by omega) (xsN v M n w).2 (rXs (nM S) (nS S) (nF S) (nT S) mt p n).2.2).1
    show (if 0 < (exW v M n (xsN v M n w).2).2 then (xsN v M n w).1 + 1 else (xsN v M n w).1) = (rXs (nM S) (nS S) (nF S) (nT S) mt p n).1 + (if 0 < (rPt (nM S) (nS S) (nF S) (nT S) mt n (rXs (nM S) (nS S) (nF S) (nT S) mt p n).2.2).1 then 1 else 0)
    rw [h, ih]
    split <;> rfl
end WAYS
