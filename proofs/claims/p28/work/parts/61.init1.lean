/-! ===== a pile is made ===== -/
def t0s : Nat → TV := fun _ => tv0
def qaF (pt : Nat → Nat) (k : Nat) : Nat → Option Nat := fun i => if i < k then some (pt i) else none
theorem qaF_s (pt : Nat → Nat) (k y : Nat) : va_up (qaF pt k) k (some y) = qaF (fun i => if i = k then y else pt i) (k + 1) := by
  funext i
  unfold va_up qaF
  by_cases e : i = k
  · rw [if_pos e, if_pos (by omega)]
    dsimp only
    rw [if_pos e]
  · rw [if_neg e]
    by_cases h : i < k
    · rw [if_pos h, if_pos (by omega)]
      dsimp only
      rw [if_neg e]
    · rw [if_neg h, if_neg (by omega)]
theorem wPt_s (E : GE) (pt : Nat → Nat) (pa pb : Nat → Nat → Nat) (k y : Nat) (a b : Nat → Nat) : wPt E (fun i => if i = k then y else pt i) (fun i => if i = k then a else pa i) (fun i => if i = k then b else pb i) (k + 1) t0s = wPt E pt pa pb k t0s ++ wTo3 E y a b tv0 := by
  unfold wPt
  rw [List.range_succ, List.flatMap_append]
  congr 1
  · rw [List.flatMap_def, List.flatMap_def]
    congr 1
    apply List.map_congr_left
    intro i hi
    have hne : i ≠ k := Nat.ne_of_lt (List.mem_range.mp hi)
    dsimp only
    rw [if_neg hne, if_neg hne, if_neg hne]
    try rfl
  · rw [List.flatMap_cons, List.flatMap_nil, List.append_nil]
    dsimp only
    rw [if_pos rfl, if_pos rfl, if_pos rfl]
    try rfl
/-- the same cells, otherwise told -/
theorem g_same {E : GE} {μ : MD} {Γ : GC} {cells slots : Nat} {lv : List (Nat × Value)} {pc : Nat} {st : List Value} {ws ws' : va_W} (hP : ∀ H, va_P E.2.1 vwCl ws H → va_P E.2.1 vwCl ws' H) (ha : ws'.map Prod.fst = ws.map Prod.fst) (k : GG E μ Γ cells slots ws' lv pc st) : GG E μ Γ cells slots ws lv pc st := by
  intro H locs ls hP0 hD hS hl
  refine k H locs ls (hP H hP0) (va_D_iff.mpr ?_) hS hl
  have hd := va_D_iff.mp hD
  refine ⟨by rw [ha]; exact hd.1, fun q hq => ?_⟩
  have h1 : q.1 ∈ ws.map Prod.fst := by rw [← ha]; exact List.mem_map.mpr ⟨q, hq, rfl⟩
  obtain ⟨x, hx, e⟩ := List.mem_map.mp h1
  rw [← e]
  exact hd.2 x hx
theorem qa_same (E : GE) (A B : va_W) (a N : Nat) (f g : Nat → Option Nat) (h : ∀ i, i < N → f i = g i) (H : Heap) (hP : va_P E.2.1 vwCl (A ++ (wQa E a N f ++ B)) H) : va_P E.2.1 vwCl (A ++ (wQa E a N g ++ B)) H := by
  refine va_P_iff.mpr (fun q hq => ?_)
  rcases List.mem_append.mp hq with h1 | h1
  · exact va_P_iff.mp hP q (List.mem_append_left _ h1)
  · rcases List.mem_append.mp h1 with h2 | h2
    · obtain rfl := List.mem_singleton.mp h2
      have h3 := va_P_iff.mp hP (a, .inl (E.2.2 3, N, .inr (.inr (.inr (.inr f))))) (List.mem_append_right _ (List.mem_append_left _ (List.mem_singleton.mpr rfl)))
      have h4 : H[a]? = some (vp_cell (E.2.2 3) (N, .inr (.inr (.inr (.inr f))))) := h3
      show H[a]? = some (vp_cell (E.2.2 3) (N, .inr (.inr (.inr (.inr g)))))
      rw [h4, vp_cell_q, vp_cell_q]
      show some ({ cls := E.2.2 3, slots := Array.ofFn (n := N) fun j => va_rf (f j.val), vm := .none } : Cell) = some { cls := E.2.2 3, slots := Array.ofFn (n := N) fun j => va_rf (g j.val), vm := .none }
      congr 3
      funext j
      rw [h j.val j.isLt]
    · exact va_P_iff.mp hP q (List.mem_append_right _ (List.mem_append_right _ h2))
def PilR (E : GE) (h N : Nat) (v : Option Value) (w : va_W) : Prop := v = none ∧ ∃ (c pt : Nat → Nat) (pa pb : Nat → Nat → Nat), (c 0 = h ∧ w.Perm (wPo E c pt N ((fun i => i), 0) ++ wPt E pt pa pb N t0s))
set_option maxHeartbeats 4000000 in
set_option maxRecDepth 100000 in
theorem X1_loop (E : GE) (q : Nat × Nat) (h N qa : Nat) (h0 : 1 ≤ N) (h8 : N ≤ 8) (Γ : GC) (X : CX E n_X1_init Γ) (Z : EX q Γ.2.2.2.2.2.2.2.2.1 Γ.2.2.1) (hx : RN E n_X1_init Γ (PilR E h N)) :
    ∀ (n k : Nat) (pt : Nat → Nat) (pa pb : Nat → Nat → Nat), k ≤ N → N - k < n → GG E n_X1_init Γ (1 + 15 * k) (N + 116 * k) ([wOb h 1 [.ref qa, .int 0], wQa E qa N (qaF pt k), wPt E pt pa pb k t0s].flatten) [(2, .int (nI k)), (0, .ref h), (1, .int (nI N))] 18 [] := by
  intro n
  induction n with
  | zero => intro k pt pa pb h1 h2; exact absurd h2 (Nat.not_lt_zero _)
  | succ n ih =>
    intro k pt pa pb h1 h2
    refine g_iload_n X 0 dX1_init_18 rfl ?_
    refine g_aload_n X 1 dX1_init_19 rfl ?_
    refine g_getf (v := .ref qa) X fs_X1_15 0 rfl rfl dX1_init_20 ?_
    refine g_alen (v := nI N) X 1 3 rfl rfl rfl dX1_init_23 ?_
    refine g_icmp_ge (tgt := 46) X dX1_init_24 (by decide) (fun c => ?_) (fun c => ?_)
    · have ek : k = N := by have := n_le (by omega) (by omega) c; omega
      subst ek
      refine g_same (ws' := [wOb h 1 [.ref qa, .int 0], wQa E qa k (fun i => some (pt i)), wPt E pt pa pb k t0s].flatten) (fun H hP => ?_) ?_ ?_
      · exact qa_same E (wOb h 1 [.ref qa, .int 0]) _ qa k (qaF pt k) (fun i => some (pt i)) (fun i hi => if_pos hi) H hP
      · simp only [List.flatten_cons, List.flatten_nil, List.append_nil, List.map_append, fsOb, fsQa]
      · exact g_vretN X hx rfl (List.Perm.refl _) ⟨rfl, adL [h, qa], pt, pa, pb, rfl, List.Perm.of_eq (by simp only [List.flatten_cons, List.flatten_nil, List.append_nil]; rw [← List.append_assoc]; rfl)⟩ ⟨by show 1 + 15 * k ≤ 121; omega, by show k + 116 * k ≤ 936; omega⟩ dX1_init_46
    · have hk := n_nle (by omega) (by omega) c
      refine g_aload_n X 1 dX1_init_27 rfl ?_
      refine g_getf (v := .ref qa) X fs_X1_15 0 rfl rfl dX1_init_28 ?_
      refine g_iload_n X 0 dX1_init_31 rfl ?_
      refine g_new (S := [wOb h 1 [.ref qa, .int 0], wQa E qa N (qaF pt k), wPt E pt pa pb k t0s]) X nw_X1_13 (by show 1 + 15 * k + 1 ≤ 121; omega) (by show N + 116 * k + 4 ≤ 936; omega) dX1_init_32 (fun y => ?_)
      refine g_dup X dX1_init_35 rfl ?_
      refine g_callI (S := [wOb h 1 [.ref qa, .int 0], wQa E qa N (qaF pt k), wPt E pt pa pb k t0s, wOb y 6 [.null, .null, .int 0, .int 0]]) (C := [wOb y 6 [.null, .null, .int 0, .int 0]]) (R := [wOb h 1 [.ref qa, .int 0], wQa E qa N (qaF pt k), wPt E pt pa pb k t0s]) (As := []) (rest := [.ref y, .int (nI k), .ref qa]) X Z (c_X6_init E q y) is_X1_21 rfl [3] [0, 1, 2] 4 rfl (by decide) rfl rfl rfl rfl (Nat.le_of_ble_eq_true rfl) dX1_init_36 ⟨by show 1 + 15 * k + 1 + 14 ≤ 121; omega, by show N + 116 * k + 4 + 112 ≤ 936; omega⟩ (fun v w hw => ?_)
      obtain ⟨rfl, a, b, hp⟩ := hw
      refine GG.perm (ws' := [wOb h 1 [.ref qa, .int 0], wQa E qa N (qaF pt k), wPt E pt pa pb k t0s, wTo3 E y a b tv0].flatten) (pm_app (R := [wOb h 1 [.ref qa, .int 0], wQa E qa N (qaF pt k), wPt E pt pa pb k t0s]) hp (by simp only [List.flatten_cons, List.flatten_nil, List.append_nil, List.append_assoc])) ?_
      have hm : (y, (.inr (6, [.ref (a 0), .ref (b 0), .int 0, .int (nI 0)]) : va_E)) ∈ [wOb h 1 [.ref qa, .int 0], wQa E qa N (qaF pt k), wPt E pt pa pb k t0s, wTo3 E y a b tv0].flatten :=
        List.mem_flatten.mpr ⟨wTo3 E y a b tv0, by simp, List.mem_cons_self⟩
      obtain ⟨qk, hq⟩ := List.getElem?_of_mem hm
      refine g_aast (ws' := [wOb h 1 [.ref qa, .int 0], wQa E qa N (va_up (qaF pt k) k (some y)), wPt E pt pa pb k t0s, wTo3 E y a b tv0].flatten) X 1 qk 6 rfl hq rfl rfl k (ix_nI hk (by omega)) rfl dX1_init_39 ?_
      refine g_iincN (lv' := [(2, .int (nI (k + 1))), (0, .ref h), (1, .int (nI N))]) X 0 dX1_init_40 rfl (by decide) rfl ?_
      refine g_goto (tgt := 18) X dX1_init_43 (by decide) ?_
      refine GG.eq (ws' := [wOb h 1 [.ref qa, .int 0], wQa E qa N (qaF (fun i => if i = k then y else pt i) (k + 1)), wPt E (fun i => if i = k then y else pt i) (fun i => if i = k then a else pa i) (fun i => if i = k then b else pb i) (k + 1) t0s].flatten) ?_ rfl ?_
      · rw [qaF_s, wPt_s]
        simp only [List.flatten_cons, List.flatten_nil, List.append_nil]
      · exact GG.wd (c1 := 1 + 15 * (k + 1)) (s1 := N + 116 * (k + 1)) (by show 1 + 15 * k + 1 + 14 ≤ _; omega) (by show N + 116 * k + 4 + 112 ≤ _; omega) (ih (k + 1) _ _ _ hk (by omega))
set_option maxHeartbeats 4000000 in
set_option maxRecDepth 100000 in
theorem c_X1_init (E : GE) (q : Nat × Nat) (h N : Nat) (h0 : 1 ≤ N) (h8 : N ≤ 8) : CN E q n_X1_init [.ref h, .int (nI N)] ([wOb h 1 [.null, .int 0]].flatten) (PilR E h N) := by
  refine CN.intro (by decide +kernel) (Nat.le_of_ble_eq_true rfl) (fun Γ X Z hx => ?_)
  refine GG.lv [0, 1] (lv' := [(0, .ref h), (1, .int (nI N))]) rfl ?_
  refine g_aload_n X 0 dX1_init_0 rfl ?_
  refine g_objInit X is_X1_1 oi_im oi_co ⟨by decide, Nat.le_of_ble_eq_true rfl⟩ dX1_init_1 ?_
  refine g_aload_n X 0 dX1_init_4 rfl ?_
  refine g_iload_n X 1 dX1_init_5 rfl ?_
  refine g_iconst (v := nI 1) X dX1_init_6 rfl ?_
  refine g_max X cs_X1_7 ⟨by decide, Nat.le_of_ble_eq_true rfl, Nat.zero_le _, Nat.zero_le _⟩ dX1_init_7 ?_
  rw [if_neg (nI_nlt h0 (by omega))]
  refine g_newQ (S := [wOb h 1 [.null, .int 0]]) (N := N) X Z cl_X1_13 rfl (by omega) (by show 0 + 1 ≤ 121; omega) (by show 0 + N ≤ 936; omega) dX1_init_10 (fun qa => ?_)
  refine g_putF (ws' := [wOb h 1 [.ref qa, .int 0], wQa E qa N (fun _ => none)].flatten) X ps_X1_15 rfl 0 rfl rfl rfl (Nat.le_of_ble_eq_true rfl) rfl dX1_init_13 ?_
  refine g_iconst (v := nI 0) X dX1_init_16 rfl ?_
  refine g_istore_n (lv' := [(2, .int (nI 0)), (0, .ref h), (1, .int (nI N))]) X dX1_init_17 (by decide) rfl ?_
  refine GG.eq (ws' := [wOb h 1 [.ref qa, .int 0], wQa E qa N (qaF (fun _ => 0) 0), wPt E (fun _ => 0) (fun _ _ => 0) (fun _ _ => 0) 0 t0s].flatten) ?_ rfl ?_
  · have e : qaF (fun _ => 0) 0 = fun _ => none := by
      funext i
      unfold qaF
      rw [if_neg (by omega)]
    rw [e]
    rfl
  · exact GG.wd (c1 := 1 + 15 * 0) (s1 := N + 116 * 0) (by show 0 + 1 ≤ _; omega) (by omega) (X1_loop E q h N qa h0 h8 Γ X Z hx (N + 1) 0 _ _ _ (Nat.zero_le _) (by omega))
