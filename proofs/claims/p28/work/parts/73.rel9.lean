/-! ===== where a meeting comes to, here and there ===== -/
theorem itR_id {σ : Type} {f : Nat → σ → σ} : ∀ (n : Nat) (s : σ), (∀ k s, k < n → f k s = s) → itR f n s = s
  | 0, _, _ => rfl
  | n + 1, s, h => by
    show f n (itR f n s) = s
    rw [itR_id n s (fun k s hk => h k s (by omega)), h n s (by omega)]
theorem itR_congr {σ : Type} {f g : Nat → σ → σ} : ∀ (n : Nat) (s : σ), (∀ k s, k < n → f k s = g k s) → itR f n s = itR g n s
  | 0, _, _ => rfl
  | n + 1, s, h => by
    show f n (itR f n s) = g n (itR g n s)
    rw [itR_congr n s (fun k s hk => h k s (by omega)), h n _ (by omega)]
theorem itR_cut {σ : Type} {f : Nat → σ → σ} {m n : Nat} (hmn : m ≤ n) (s : σ) (h : ∀ k s, m ≤ k → k < n → f k s = s) : itR f n s = itR f m s := by
  obtain ⟨d, rfl⟩ : ∃ d, n = m + d := ⟨n - m, by omega⟩
  rw [itR_add, itR_id d _ (fun k s hk => h (m + k) s (by omega) (by omega))]
theorem itF_guard {σ : Type} (f : Nat → σ → σ) (lo m : Nat) (s : σ) : itR (fun k s => if lo ≤ k then f k s else s) m s = itF f lo m s := by
  by_cases h : m ≤ lo
  · rw [itR_id m s (fun k s hk => if_neg (by omega))]
    unfold itF
    rw [show m - lo = 0 by omega]
    rfl
  · obtain ⟨d, rfl⟩ : ∃ d, m = lo + d := ⟨m - lo, by omega⟩
    rw [itR_add, itR_id lo s (fun k s hk => if_neg (by omega))]
    unfold itF
    rw [show lo + d - lo = d by omega]
    exact itR_congr d s (fun k s _ => if_pos (by omega))
theorem itF_none {σ : Type} (f : Nat → σ → σ) {lo m : Nat} (h : m ≤ lo) (s : σ) : itF f lo m s = s := by
  unfold itF
  rw [show m - lo = 0 by omega]
  rfl
/-- three loops that go up, as one over all triples -/
theorem tri_loop {σ : Type} (F : Nat → Nat → Nat → σ → σ) {m : Nat} (hm : m ≤ 8) (s : σ) : itR (fun a s => itF (fun b s => itF (F a b) (b + 1) m s) (a + 1) m s) m s = itR (fun k s => if k / 64 < k / 8 % 8 ∧ k / 8 % 8 < k % 8 ∧ k % 8 < m then F (k / 64) (k / 8 % 8) (k % 8) s else s) 512 s := by
  have h3 : ∀ a b s, itR (fun c s => if a < b ∧ b < c ∧ c < m then F a b c s else s) 8 s = if a < b then itF (F a b) (b + 1) m s else s := by
    intro a b s
    by_cases h : a < b
    · rw [if_pos h, itR_cut hm s (fun k s h1 _ => if_neg (by omega)), ← itF_guard]
      refine itR_congr m s (fun k s hk => ?_)
      by_cases e : b < k
      · rw [if_pos ⟨h, e, hk⟩, if_pos (by omega)]
      · rw [if_neg (by omega), if_neg (by omega)]
    · rw [if_neg h]
      exact itR_id 8 s (fun k s _ => if_neg (by omega))
  have h2 : ∀ a s, itR (fun b s => if a < b then itF (F a b) (b + 1) m s else s) 8 s = itF (fun b s => itF (F a b) (b + 1) m s) (a + 1) m s := by
    intro a s
    rw [itR_cut hm s (fun k s h1 _ => by rw [itF_none _ (by omega)]; split <;> rfl), ← itF_guard]
    refine itR_congr m s (fun k s hk => ?_)
    by_cases e : a < k
    · rw [if_pos e, if_pos (by omega)]
    · rw [if_neg e, if_neg (by omega)]
  have h1 : itR (fun a s => itF (fun b s => itF (F a b) (b + 1) m s) (a + 1) m s) 8 s = itR (fun a s => itF (fun b s => itF (F a b) (b + 1) m s) (a + 1) m s) m s :=
    itR_cut hm s (fun k s h1 _ => itF_none _ (by omega) s)
  rw [← h1, show (512 : Nat) = 64 * 8 from rfl, itR_mul]
  refine itR_congr 8 s (fun a s ha => ?_)
  rw [show (64 : Nat) = 8 * 8 from rfl, itR_mul, ← h2 a s]
  refine itR_congr 8 s (fun b s hb => ?_)
  rw [← h3 a b s]
  refine itR_congr 8 s (fun c s hc => ?_)
  rw [show (8 * 8 * a + (8 * b + c)) / (8 * 8) = a by omega, show (8 * 8 * a + (8 * b + c)) / 8 % 8 = b by omega, show (8 * 8 * a + (8 * b + c)) % 8 = c by omega]
/-! the same numbers -/
theorem absI_eq (x : Int32) : absI x = farI x := by
  unfold absI farI
  split
  · rfl
  · exact Int32.zero_sub x
theorem area_eq {w : SV} {g : Nat} {S : SN} (h : relS w g S) {a b c : Nat} (ha : a < sM w) (hb : b < sM w) (hc : c < sM w) : svArea w a b c = rArea (nX S) (nY S) (8 * g + a) (8 * g + b) (8 * g + c) := by
  obtain ⟨-, a1, a2⟩ := h.2.2.1 a ha
  obtain ⟨-, b1, b2⟩ := h.2.2.1 b hb
  obtain ⟨-, c1, c2⟩ := h.2.2.1 c hc
  unfold svArea rArea
  rw [a1, a2, b1, b2, c1, c2, Int32.mul_comm (nX S (8 * g + c) - nX S (8 * g + a))]
theorem sq_sym (a b : Int32) : (a - b) * (a - b) = (b - a) * (b - a) := by
  have e : a - b = -(b - a) := by simp
  rw [e, Int32.neg_mul, Int32.mul_neg, Int32.neg_neg]
theorem dist_sym (xo yo : Nat → Int32) (p q : Nat) : rDist xo yo p q = rDist xo yo q p := by
  unfold rDist
  rw [sq_sym (xo p), sq_sym (yo p)]
theorem sqS_eq {w : SV} {S : SN} (h : relS w 0 S) {i p : Nat} (hi : i < sM w) (hp : p < sM w) : sqS w i p = rDist (nX S) (nY S) p i := by
  obtain ⟨-, a1, a2⟩ := h.2.2.1 i hi
  obtain ⟨-, b1, b2⟩ := h.2.2.1 p hp
  rw [show 8 * 0 + i = i by omega] at a1 a2
  rw [show 8 * 0 + p = p by omega] at b1 b2
  rw [dist_sym]
  unfold sqS rDist
  rw [a1, a2, b1, b2]
/-! the greatest common measure -/
theorem n_mod {a b : Nat} (ha : a < 2 ^ 31) (hb : b < 2 ^ 31) (h0 : 0 < b) : nI a - nI a / nI b * nI b = nI (a % b) := pk_rem ha h0 hb
theorem gcL_eq : ∀ (k m a b : Nat), b < 2 ^ k → k ≤ 31 → 2 * k + 1 ≤ m → a < 2 ^ 31 → gcL m (nI a) (nI b) = nI (Nat.gcd a b)
  | 0, m, a, b, hb, _, hm, _ => by
    obtain ⟨m, rfl⟩ : ∃ n, m = n + 1 := ⟨m - 1, by omega⟩
    obtain rfl : b = 0 := by simpa using hb
    rw [Nat.gcd_zero_right]
    exact if_pos nI_0
  | k + 1, m, a, b, hb, hk, hm, ha => by
    obtain ⟨m, rfl⟩ : ∃ n, m = n + 2 := ⟨m - 2, by omega⟩
    have h2 : 2 ^ (k + 1) ≤ 2 ^ 31 := Nat.pow_le_pow_right (by decide) hk
    by_cases e : b = 0
    · subst e
      rw [Nat.gcd_zero_right]
      exact if_pos nI_0
    · show (if nI b = 0 then nI a else gcL (m + 1) (nI b) (nI a - nI a / nI b * nI b)) = _
      rw [if_neg (nI_nz (by omega) (by omega)), n_mod ha (by omega) (by omega), ← gcd_step]
      have hr := Nat.mod_lt a (show b > 0 by omega)
      by_cases e2 : a % b = 0
      · rw [e2, Nat.gcd_zero_right]
        exact if_pos nI_0
      · show (if nI (a % b) = 0 then nI b else gcL m (nI (a % b)) (nI b - nI b / nI (a % b) * nI (a % b))) = _
        rw [if_neg (nI_nz (by omega) (by omega)), n_mod (by omega) (by omega) (by omega), ← gcd_step b (a % b)]
        refine gcL_eq k m (a % b) (b % (a % b)) ?_ (by omega) (by omega) (by omega)
        have h3 := Nat.mod_lt b (show a % b > 0 by omega)
        have h4 := Nat.div_add_mod b (a % b)
        have h5 : 1 ≤ b / (a % b) := by
          rw [Nat.one_le_div_iff (by omega)]
          omega
        have h6 : a % b ≤ a % b * (b / (a % b)) := Nat.le_mul_of_pos_right _ h5
        rw [Nat.pow_succ] at hb
        omega
theorem red_eq {x y : Int32} {z : Nat} (hy : bd 2000000000 y) (hz : 1 ≤ z) (hz2 : z < 2 ^ 31) : redV x y (nI z) = x / nI (rGc y (nI z)) := by
  have h0 := far_nn hy (by decide)
  obtain ⟨n, hn, e⟩ := nI_of h0
  unfold redV rGc
  rw [absI_eq, e, gcL_eq 31 64 n z hz2 (by decide) (by decide) hn, nI_clamp hn, nI_clamp hz2]
  have hg : 0 < Nat.gcd n z := Nat.gcd_pos_of_pos_right n (by omega)
  have hl : Nat.gcd n z ≤ z := Nat.gcd_le_right n (by omega)
  rw [if_neg (by rw [i_le, i_0, nI_toInt (by omega)]; omega)]
