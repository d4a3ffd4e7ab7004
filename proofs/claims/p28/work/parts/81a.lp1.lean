/-! ===== the law's rows d, e and the surveys of the class: one state ===== -/
def mmV (v : TV) : Nat → Nat := fun g => if g = 0 then sM (tA v) else sM (tB v)
def ssV (v : TV) : Nat → Nat := fun g => if g = 0 then sS (tA v) else sS (tB v)
def svG (v : TV) (g : Nat) : SV := if g = 0 then tA v else tB v
abbrev dSN (v : TV) (d e : Nat → Int32) : SN := (e 52, tN v, mmV v, ssV v, d, fun i => d (16 + i), fun i => d (32 + i), e, fun i => e (16 + i), fun i => e (32 + i))
def DE (v : TV) (d e : Nat → Int32) : Prop := RT1 v (dSN v d e) ∧ (∀ g, g < 2 → e (48 + g) = nI (mmV v g) ∧ e (50 + g) = nI (ssV v g)) ∧ e 53 = nI (tN v) ∧ ∀ k, k < 16 → ∃ c, c ≤ 3 ∧ d k = nI c
theorem svOf_g (v : TV) {g : Nat} (hg : g < 2) : svOf v (nI g) = svG v g := by
  rcases (show g = 0 ∨ g = 1 by omega) with rfl | rfl
  · exact svOf_0 v
  · exact svOf_1 v
theorem mm_sv (v : TV) (g : Nat) : sM (svG v g) = mmV v g := by unfold svG mmV; split <;> rfl
theorem ss_sv (v : TV) (g : Nat) : sS (svG v g) = ssV v g := by unfold svG ssV; split <;> rfl
theorem okT.mm {v : TV} (h : okT v) (g : Nat) : mmV v g ≤ 8 := by unfold mmV; split; exact h.1.1; exact h.2.1.1
theorem okT.ss {v : TV} (h : okT v) (g : Nat) : ssV v g ≤ 8 := by unfold ssV; split; exact h.1.2; exact h.2.1.2
theorem DE.ok {v : TV} {d e : Nat → Int32} (h : DE v d e) : okT v := h.1.1.ok
theorem DE.m1 {v : TV} {d e : Nat → Int32} (h : DE v d e) (g : Nat) : 1 ≤ mmV v g := by unfold mmV; split; exact h.1.2.1; exact h.1.2.2
theorem hasM_d {v : TV} (h : okT v) {g i : Nat} (hg : g < 2) (hi : i < 2 ^ 31) : hasM v (nI g) (nI i) = decide (i < mmV v g) := by
  have h1 := h.1.1
  have h2 := h.2.1.1
  rcases (show g = 0 ∨ g = 1 by omega) with rfl | rfl
  · show hasM v (nI 0) (nI i) = decide (i < sM (tA v))
    by_cases q : i < sM (tA v)
    · simp [hasM, hasN_t q (by omega), q]
    · simp [hasM, hasN_f (Nat.le_of_not_lt q) hi, q, show ¬ nI 0 = nI 1 by decide]
  · show hasM v (nI 1) (nI i) = decide (i < sM (tB v))
    by_cases q : i < sM (tB v)
    · simp [hasM, hasN_t q (by omega), q]
    · simp [hasM, hasN_f (Nat.le_of_not_lt q) hi, q, show ¬ nI 1 = nI 0 by decide]
theorem hasS_d {v : TV} (h : okT v) {g i : Nat} (hg : g < 2) (hi : i < 2 ^ 31) : hasS v (nI g) (nI i) = decide (i < ssV v g) := by
  have h1 := h.1.2
  have h2 := h.2.1.2
  rcases (show g = 0 ∨ g = 1 by omega) with rfl | rfl
  · show hasS v (nI 0) (nI i) = decide (i < sS (tA v))
    by_cases q : i < sS (tA v)
    · simp [hasS, hasN_t q (by omega), q]
    · simp [hasS, hasN_f (Nat.le_of_not_lt q) hi, q, show ¬ nI 0 = nI 1 by decide]
  · show hasS v (nI 1) (nI i) = decide (i < sS (tB v))
    by_cases q : i < sS (tB v)
    · simp [hasS, hasN_t q (by omega), q]
    · simp [hasS, hasN_f (Nat.le_of_not_lt q) hi, q, show ¬ nI 1 = nI 0 by decide]
theorem DE.rel {v : TV} {d e : Nat → Int32} (h : DE v d e) {g : Nat} (hg : g < 2) : relS (svG v g) g (dSN v d e) := by
  rcases (show g = 0 ∨ g = 1 by omega) with rfl | rfl
  · exact h.1.1.2.2.1.1
  · exact h.1.1.2.2.1.2
theorem DE.good {v : TV} {d e : Nat → Int32} (h : DE v d e) {g : Nat} (hg : g < 2) : goodS (svG v g) := by
  rcases (show g = 0 ∨ g = 1 by omega) with rfl | rfl
  · exact h.1.1.2.2.2.1.1
  · exact h.1.1.2.2.2.1.2
theorem DE.inS {v : TV} {d e : Nat → Int32} (h : DE v d e) {g : Nat} (hg : g < 2) : inS v (dSN v d e) (nI g) g := by
  rcases (show g = 0 ∨ g = 1 by omega) with rfl | rfl
  · exact inS_0 h.1.1
  · exact inS_1 h.1.1
theorem al_mt {v : TV} {d e : Nat → Int32} (h : DE v d e) {g i q : Nat} (hg : g < 2) (hi : i < mmV v g) (hq : q < 3) : meetV v (nI g) (nI i) (nI q) = d (16 * q + 8 * g + i) := by
  have h8 := h.ok.mm g
  have hr := (h.rel hg).2.2.1 i (by rw [mm_sv]; exact hi)
  unfold meetV
  rw [if_pos (by rw [hasM_d h.ok hg (by omega)]; exact decide_eq_true hi), svOf_g v hg, nI_clamp (show i < 2 ^ 31 by omega)]
  rcases (show q = 0 ∨ q = 1 ∨ q = 2 by omega) with rfl | rfl | rfl
  · rw [if_pos rfl, hr.1, show 16 * 0 + 8 * g + i = 8 * g + i by omega]
  · rw [if_neg (by decide), if_pos rfl, hr.2.1, show 16 * 1 + 8 * g + i = 16 + (8 * g + i) by omega]
  · rw [if_neg (by decide), if_neg (by decide), if_pos rfl, hr.2.2, show 16 * 2 + 8 * g + i = 32 + (8 * g + i) by omega]
theorem al_st {v : TV} {d e : Nat → Int32} (h : DE v d e) {g i q : Nat} (hg : g < 2) (hi : i < ssV v g) (hq : q < 3) : strtV v (nI g) (nI i) (nI q) = e (16 * q + 8 * g + i) := by
  have h8 := h.ok.ss g
  have hr := (h.rel hg).2.2.2 i (by rw [ss_sv]; exact hi)
  unfold strtV
  rw [if_pos (by rw [hasS_d h.ok hg (by omega)]; exact decide_eq_true hi), svOf_g v hg, nI_clamp (show i < 2 ^ 31 by omega)]
  rcases (show q = 0 ∨ q = 1 ∨ q = 2 by omega) with rfl | rfl | rfl
  · rw [if_pos rfl, hr.1, show 16 * 0 + 8 * g + i = 8 * g + i by omega]
  · rw [if_neg (by decide), if_pos rfl, hr.2.1, show 16 * 1 + 8 * g + i = 16 + (8 * g + i) by omega]
  · rw [if_neg (by decide), if_neg (by decide), if_pos rfl, hr.2.2, show 16 * 2 + 8 * g + i = 32 + (8 * g + i) by omega]
theorem al_cm {v : TV} {d e : Nat → Int32} (h : DE v d e) (oa ok : PO) (w : (Nat → Int32) × Nat) (f : Nat → Int32) {g : Nat} (hg : g < 2) : coV v oa ok w f (nI g) = e (48 + g) := by
  rw [(h.2.1 g hg).1]
  rcases (show g = 0 ∨ g = 1 by omega) with rfl | rfl <;> rfl
theorem al_cs {v : TV} {d e : Nat → Int32} (h : DE v d e) (oa ok : PO) (w : (Nat → Int32) × Nat) (f : Nat → Int32) {g : Nat} (hg : g < 2) : coV v oa ok w f (nI (2 + g)) = e (50 + g) := by
  rw [(h.2.1 g hg).2]
  rcases (show g = 0 ∨ g = 1 by omega) with rfl | rfl <;> rfl
theorem al_c4 {v : TV} {d e : Nat → Int32} (h : DE v d e) (oa ok : PO) (w : (Nat → Int32) × Nat) (f : Nat → Int32) : coV v oa ok w f (nI 4) = e 52 := h.1.1.1
theorem al_c5 {v : TV} {d e : Nat → Int32} (h : DE v d e) (oa ok : PO) (w : (Nat → Int32) × Nat) (f : Nat → Int32) : coV v oa ok w f (nI 5) = e 53 := h.2.2.1.symm
/-! a street between two, as the law finds it -/
def lasI (p : Nat → Bool) : Nat → Int32
  | 0 => -1
  | n + 1 => if p n then nI n else lasI p n
theorem las_none {p : Nat → Bool} : ∀ {n : Nat}, (∀ k, k < n → p k = false) → lasI p n = -1
  | 0, _ => rfl
  | n + 1, h => by
    unfold lasI
    rw [if_neg (by rw [h n (by omega)]; decide)]
    exact las_none (fun k hk => h k (by omega))
theorem las_one {p : Nat → Bool} {j : Nat} : ∀ {n : Nat}, j < n → p j = true → (∀ k, k < n → k ≠ j → p k = false) → lasI p n = nI j
  | 0, h, _, _ => absurd h (Nat.not_lt_zero _)
  | n + 1, h, hp, hn => by
    unfold lasI
    by_cases e : j = n
    · subst e
      rw [if_pos hp]
    · rw [if_neg (by rw [hn n (by omega) (fun q => e q.symm)]; decide)]
      exact las_one (by omega) hp (fun k hk hne => hn k (by omega) hne)
def stP (e : Nat → Int32) (g : Nat) (u w : Int32) (k : Nat) : Bool := (decide (e (8 * g + k) = u) && decide (e (16 + (8 * g + k)) = w)) || (decide (e (8 * g + k) = w) && decide (e (16 + (8 * g + k)) = u))
def stL (e : Nat → Int32) (g : Nat) (u w : Int32) (n : Nat) : Int32 := lasI (stP e g u w) n
theorem stP_eq {v : TV} {d e : Nat → Int32} (h : DE v d e) {g : Nat} (hg : g < 2) (u w : Int32) {k : Nat} (hk : k < ssV v g) : stP e g u w k = sbP (svG v g) u w k := by
  have hr := (h.rel hg).2.2.2 k (by rw [ss_sv]; exact hk)
  unfold stP sbP
  rw [hr.1, hr.2.1]
theorem stL_none {v : TV} {d e : Nat → Int32} (h : DE v d e) {g : Nat} (hg : g < 2) {u w : Int32} (e0 : sbF (svG v g) u w = none) : stL e g u w (ssV v g) = -1 := by
  refine las_none (fun k hk => ?_)
  rw [stP_eq h hg u w hk]
  unfold sbF at e0
  rw [ss_sv] at e0
  exact findF_all.mp e0 k hk
theorem stL_some {v : TV} {d e : Nat → Int32} (h : DE v d e) {g : Nat} (hg : g < 2) {u w : Int32} {j : Nat} (e0 : sbF (svG v g) u w = some j) : stL e g u w (ssV v g) = nI j := by
  have hl := findF_lt e0
  rw [ss_sv] at hl
  refine las_one hl.1 (by rw [stP_eq h hg u w hl.1]; exact hl.2) (fun k hk hne => ?_)
  rw [stP_eq h hg u w hk]
  cases q : sbP (svG v g) u w k with
  | false => rfl
  | true => exact absurd (sbP_one (h.good hg) (by rw [ss_sv]; exact hk) (by rw [ss_sv]; exact hl.1) q hl.2) hne
theorem stL_iff {v : TV} {d e : Nat → Int32} (h : DE v d e) {g : Nat} (hg : g < 2) (u w : Int32) : (oI (sbF (svG v g) u w) = -1 ↔ stL e g u w (ssV v g) < 0) ∧ (stL e g u w (ssV v g) < 0 → sbF (svG v g) u w = none) := by
  have h8 := h.ok.ss g
  cases q : sbF (svG v g) u w with
  | none => rw [stL_none h hg q]; exact ⟨⟨fun _ => by decide, fun _ => rfl⟩, fun _ => rfl⟩
  | some j =>
    have hl := sbF_lt q
    rw [ss_sv] at hl
    rw [stL_some h hg q]
    have hp : ¬ nI j < 0 := nI_pos (by omega)
    exact ⟨⟨fun e1 => absurd e1 (nI_ne_m1 (by omega)), fun e1 => absurd e1 hp⟩, fun e1 => absurd e1 hp⟩
