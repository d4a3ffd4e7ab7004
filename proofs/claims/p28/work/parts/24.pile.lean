/-! ===== piles: copies in a store, in an order ===== -/
def wTo3 (E : GE) (t : Nat) (a b : Nat → Nat) (v : TV) : va_W := [wTw E t a b (tR v) (tN v), wSv E a (tA v), wSv E b (tB v)].flatten
def wPo (E : GE) (c pt : Nat → Nat) (N : Nat) (v : (Nat → Nat) × Nat) : va_W := [(c 0, .inr (1, [.ref (c 1), .int (nI v.2)])), (c 1, .inl (E.2.2 3, N, .inr (.inr (.inr (.inr (fun i => some (pt (v.1 i))))))))]
def wPt (E : GE) (pt : Nat → Nat) (pa pb : Nat → Nat → Nat) (N : Nat) (tv : Nat → TV) : va_W := (List.range N).flatMap (fun k => wTo3 E (pt k) (pa k) (pb k) (tv k))
theorem fsPo (E : GE) (c pt : Nat → Nat) (N : Nat) (v : (Nat → Nat) × Nat) : (wPo E c pt N v).map Prod.fst = [c 0, c 1] := rfl
theorem fsTo3 (E : GE) (t : Nat) (a b : Nat → Nat) (v : TV) : (wTo3 E t a b v).map Prod.fst = [t, a 0, a 1, a 2, a 3, a 4, a 5, a 6, b 0, b 1, b 2, b 3, b 4, b 5, b 6] := rfl
theorem fsPt (E : GE) (pt : Nat → Nat) (pa pb : Nat → Nat → Nat) (N : Nat) (tv : Nat → TV) : (wPt E pt pa pb N tv).map Prod.fst = (List.range N).flatMap (fun k => [pt k, pa k 0, pa k 1, pa k 2, pa k 3, pa k 4, pa k 5, pa k 6, pb k 0, pb k 1, pb k 2, pb k 3, pb k 4, pb k 5, pb k 6]) := by
  unfold wPt
  rw [List.map_flatMap]
  rfl
def upT (tv : Nat → TV) (k : Nat) (x : TV) : Nat → TV := fun i => if i = k then x else tv i
def upN (r : Nat → Nat) (j k : Nat) : Nat → Nat := fun i => if i = j then k else r i
theorem pt_perm (E : GE) (pt : Nat → Nat) (pa pb : Nat → Nat → Nat) {N : Nat} (tv : Nat → TV) {k : Nat} (hk : k < N) : (wPt E pt pa pb N tv).Perm (wTo3 E (pt k) (pa k) (pb k) (tv k) ++ ((List.range N).erase k).flatMap (fun k => wTo3 E (pt k) (pa k) (pb k) (tv k))) := by
  have h := (List.perm_cons_erase (List.mem_range.mpr hk)).flatMap_right (fun k => wTo3 E (pt k) (pa k) (pb k) (tv k))
  rw [List.flatMap_cons] at h
  exact h
theorem pt_perm' (E : GE) (pt : Nat → Nat) (pa pb : Nat → Nat → Nat) {N : Nat} (tv : Nat → TV) {k : Nat} (hk : k < N) (x : TV) : (wPt E pt pa pb N (upT tv k x)).Perm (wTo3 E (pt k) (pa k) (pb k) x ++ ((List.range N).erase k).flatMap (fun k => wTo3 E (pt k) (pa k) (pb k) (tv k))) := by
  have h := pt_perm E pt pa pb (upT tv k x) hk
  have e1 : upT tv k x k = x := if_pos rfl
  rw [e1] at h
  have e2 : ((List.range N).erase k).flatMap (fun k' => wTo3 E (pt k') (pa k') (pb k') (upT tv k x k')) = ((List.range N).erase k).flatMap (fun k' => wTo3 E (pt k') (pa k') (pb k') (tv k')) := by
    rw [List.flatMap_def, List.flatMap_def]
    congr 1
    apply List.map_congr_left
    intro i hi
    have hne : i ≠ k := fun q => by
      subst q
      exact (List.Nodup.not_mem_erase List.nodup_range) hi
    unfold upT
    rw [if_neg hne]
  rw [e2] at h
  exact h
theorem pl_move {A K po PT oth : va_W} (hp : PT.Perm (K ++ oth)) : (A ++ (po ++ PT)).Perm ((K ++ A) ++ (po ++ oth)) := by
  have h1 : (A ++ (po ++ PT)).Perm (A ++ (po ++ (K ++ oth))) := (hp.append_left po).append_left A
  have h2 : (A ++ (po ++ (K ++ oth))).Perm (A ++ (K ++ (po ++ oth))) := (List.perm_append_comm_assoc po K oth).append_left A
  have h3 : (A ++ (K ++ (po ++ oth))).Perm (K ++ (A ++ (po ++ oth))) := List.perm_append_comm_assoc A K (po ++ oth)
  have h4 := (h1.trans h2).trans h3
  rw [List.append_assoc]
  exact h4
theorem pl_move2 {A K po PT oth : va_W} (hp : PT.Perm (K ++ oth)) : (A ++ (po ++ PT)).Perm ((A ++ K) ++ (po ++ oth)) :=
  (pl_move hp).trans (List.Perm.append_right _ List.perm_append_comm)
section GGP
variable {E : GE} {μ : MD} {Γ : GC} {cells slots : Nat} {lv : List (Nat × Value)} {pc : Nat} {rest : List Value}
theorem g_plld (X : CX E μ Γ) {S : List va_W} (i0 : Nat) {c pt : Nat → Nat} {N : Nat} {v : (Nat → Nat) × Nat} (hS : S[i0]? = some (wPo E c pt N v)) {i : Int32} (j : Nat) (hin : ix i j N) (d : decode μ.2.1 pc = .ok (.aaload, 1))
    (kk : GG E μ Γ cells slots S.flatten lv (pc + 1) (.ref (pt (v.1 j)) :: rest)) : GG E μ Γ cells slots S.flatten lv pc (.int i :: .ref (c 1) :: rest) := by
  obtain ⟨q0, h0⟩ := List.getElem?_of_mem (List.mem_flatten.mpr ⟨_, List.mem_of_getElem? hS, List.mem_cons_of_mem _ List.mem_cons_self⟩)
  exact g_aald X q0 h0 j hin rfl d kk
theorem g_plst (X : CX E μ Γ) {S S' : List va_W} (i0 i1 : Nat) {c pt : Nat → Nat} {pa pb : Nat → Nat → Nat} {N : Nat} {v : (Nat → Nat) × Nat} {tv : Nat → TV} (hS : S[i0]? = some (wPo E c pt N v)) (hS1 : S[i1]? = some (wPt E pt pa pb N tv)) {k : Nat} (hk : k < N) {i : Int32} (j : Nat) (hin : ix i j N) (hS' : S.set i0 (wPo E c pt N (upN v.1 j k, v.2)) = S') (d : decode μ.2.1 pc = .ok (.aastore, 1))
    (kk : GG E μ Γ cells slots S'.flatten lv (pc + 1) rest) : GG E μ Γ cells slots S.flatten lv pc (.ref (pt k) :: .int i :: .ref (c 1) :: rest) := by
  subst hS'
  obtain ⟨h1, h2⟩ := sg_set S i0 _ (wPo E c pt N (upN v.1 j k, v.2)) hS
  have p1 := sg_perm S i0 _ hS
  have p2 := sg_perm _ i0 _ h1
  rw [h2] at p2
  have hm : (pt k, (.inr (6, [.ref (pa k 0), .ref (pb k 0), .int (tR (tv k)), .int (nI (tN (tv k)))]) : va_E)) ∈ S.flatten :=
    List.mem_flatten.mpr ⟨_, List.mem_of_getElem? hS1, List.mem_flatMap.mpr ⟨k, List.mem_range.mpr hk, List.mem_cons_self⟩⟩
  obtain ⟨qk, hq⟩ := List.getElem?_of_mem (p1.mem_iff.mp hm)
  have e : (fun i => some (pt (upN v.1 j k i))) = va_up (fun i => some (pt (v.1 i))) j (some (pt k)) := by
    funext i
    unfold upN va_up
    by_cases q : i = j
    · rw [if_pos q, if_pos q]
    · rw [if_neg q, if_neg q]
  refine GG.perm p1 (g_aast X 1 qk 6 rfl hq rfl rfl j hin rfl d (GG.perm ?_ kk))
  have p3 := p2.symm
  unfold wPo at p3 ⊢
  rw [← e]
  exact p3
/-- the towns are laid into the store's place k -/
theorem g_plpush (X : CX E μ Γ) {t : Nat} {a b : Nat → Nat} {v : TV} {po : va_W} {pt : Nat → Nat} {pa pb : Nat → Nat → Nat} {N : Nat} {tv : Nat → TV} {k idx : Nat} (hk : k < N) (hM : CT E m_X6_copy [.ref (pt k), .ref t] ([wTw E (pt k) (pa k) (pb k) (tR (tv k)) (tN (tv k)), wSv E (pa k) (tA (tv k)), wSv E (pb k) (tB (tv k)), wTw E t a b (tR v) (tN v), wSv E a (tA v), wSv E b (tB v)].flatten) none
      ([wTw E (pt k) (pa k) (pb k) (tR (tCopy v (tv k))) (tN (tCopy v (tv k))), wSv E (pa k) (tA (tCopy v (tv k))), wSv E (pb k) (tB (tCopy v (tv k))), wTw E t a b (tR v) (tN v), wSv E a (tA v), wSv E b (tB v)].flatten)) (hs : VSite μ.1.cls idx m_X6_copy 1) (hR : rmOK m_X6_copy μ = true) (hcat : (rest.map fun v => v.category).sum ≤ 8) (d : decode μ.2.1 pc = .ok (.invokevirtual idx, 3))
    (kk : GG E μ Γ 0 0 ([wTw E t a b (tR v) (tN v), wSv E a (tA v), wSv E b (tB v), po, wPt E pt pa pb N (upT tv k (tCopy v (tv k)))].flatten) lv (pc + 3) rest) : GG E μ Γ 0 0 ([wTw E t a b (tR v) (tN v), wSv E a (tA v), wSv E b (tB v), po, wPt E pt pa pb N tv].flatten) lv pc (.ref t :: .ref (pt k) :: rest) := by
  have e1 : ∀ PT : va_W, [wTw E t a b (tR v) (tN v), wSv E a (tA v), wSv E b (tB v), po, PT].flatten = wTo3 E t a b v ++ (po ++ PT) := fun PT => by
    simp only [wTo3, List.flatten_cons, List.flatten_nil, List.append_nil, List.append_assoc]
  have e2 : ∀ x : TV, [wTw E (pt k) (pa k) (pb k) (tR x) (tN x), wSv E (pa k) (tA x), wSv E (pb k) (tB x), wTw E t a b (tR v) (tN v), wSv E a (tA v), wSv E b (tB v)].flatten = wTo3 E (pt k) (pa k) (pb k) x ++ wTo3 E t a b v := fun x => by
    simp only [wTo3, List.flatten_cons, List.flatten_nil, List.append_nil, List.append_assoc]
  rw [e1] at kk ⊢
  rw [e2, e2] at hM
  exact g_callVP (q0 := 0) X hM hs hR (pl_move (pt_perm E pt pa pb tv hk)) (by simp only [List.map_append, fsTo3]) (pl_move (pt_perm' E pt pa pb tv hk _)) rfl rfl rfl rfl hcat d rfl kk
/-- the towns are taken out of the store's place k -/
theorem g_plpop (X : CX E μ Γ) {t : Nat} {a b : Nat → Nat} {v : TV} {po : va_W} {pt : Nat → Nat} {pa pb : Nat → Nat → Nat} {N : Nat} {tv : Nat → TV} {k idx : Nat} (hk : k < N) (hM : CT E m_X6_copy [.ref t, .ref (pt k)] ([wTw E t a b (tR v) (tN v), wSv E a (tA v), wSv E b (tB v), wTw E (pt k) (pa k) (pb k) (tR (tv k)) (tN (tv k)), wSv E (pa k) (tA (tv k)), wSv E (pb k) (tB (tv k))].flatten) none
      ([wTw E t a b (tR (tCopy (tv k) v)) (tN (tCopy (tv k) v)), wSv E a (tA (tCopy (tv k) v)), wSv E b (tB (tCopy (tv k) v)), wTw E (pt k) (pa k) (pb k) (tR (tv k)) (tN (tv k)), wSv E (pa k) (tA (tv k)), wSv E (pb k) (tB (tv k))].flatten)) (hs : VSite μ.1.cls idx m_X6_copy 1) (hR : rmOK m_X6_copy μ = true) (hcat : (rest.map fun v => v.category).sum ≤ 8) (d : decode μ.2.1 pc = .ok (.invokevirtual idx, 3))
    (kk : GG E μ Γ 0 0 ([wTw E t a b (tR (tCopy (tv k) v)) (tN (tCopy (tv k) v)), wSv E a (tA (tCopy (tv k) v)), wSv E b (tB (tCopy (tv k) v)), po, wPt E pt pa pb N tv].flatten) lv (pc + 3) rest) : GG E μ Γ 0 0 ([wTw E t a b (tR v) (tN v), wSv E a (tA v), wSv E b (tB v), po, wPt E pt pa pb N tv].flatten) lv pc (.ref (pt k) :: .ref t :: rest) := by
  have e1 : ∀ x : TV, [wTw E t a b (tR x) (tN x), wSv E a (tA x), wSv E b (tB x), po, wPt E pt pa pb N tv].flatten = wTo3 E t a b x ++ (po ++ wPt E pt pa pb N tv) := fun x => by
    simp only [wTo3, List.flatten_cons, List.flatten_nil, List.append_nil, List.append_assoc]
  have e2 : ∀ x : TV, [wTw E t a b (tR x) (tN x), wSv E a (tA x), wSv E b (tB x), wTw E (pt k) (pa k) (pb k) (tR (tv k)) (tN (tv k)), wSv E (pa k) (tA (tv k)), wSv E (pb k) (tB (tv k))].flatten = wTo3 E t a b x ++ wTo3 E (pt k) (pa k) (pb k) (tv k) := fun x => by
    simp only [wTo3, List.flatten_cons, List.flatten_nil, List.append_nil, List.append_assoc]
  rw [e1] at kk ⊢
  rw [e2, e2] at hM
  exact g_callVP (q0 := 0) X hM hs hR (pl_move2 (pt_perm E pt pa pb tv hk)) (by simp only [List.map_append, fsTo3]) (pl_move2 (pt_perm E pt pa pb tv hk)) rfl rfl rfl rfl hcat d rfl kk
end GGP
def shN (r : Nat → Nat) (i : Nat) : Nat → Nat := fun k => if k + 1 < i then r (k + 1) else r k
theorem shN_1 (r : Nat → Nat) : shN r 1 = r := by
  funext k
  unfold shN
  rw [if_neg (by omega)]
theorem shN_s (r : Nat → Nat) {i : Nat} (h : 1 ≤ i) : upN (shN r i) (i - 1) (shN r i i) = shN r (i + 1) := by
  funext k
  unfold upN shN
  by_cases e : k = i - 1
  · subst e
    rw [if_pos rfl, if_neg (by omega), if_pos (by omega)]
    congr 1; omega
  · rw [if_neg e]
    by_cases h2 : k + 1 < i
    · rw [if_pos h2, if_pos (by omega)]
    · rw [if_neg h2, if_neg (by omega)]
theorem shN_lt {r : Nat → Nat} {N i : Nat} (h : ∀ k, k < N → r k < N) (hi : i ≤ N) : ∀ k, k < N → shN r i k < N := by
  intro k hk
  unfold shN
  split
  · exact h _ (by omega)
  · exact h k hk
def rotN (r : Nat → Nat) (N : Nat) : Nat → Nat := upN (shN r N) (N - 1) (r 0)
theorem rotN_lt {r : Nat → Nat} {N : Nat} (h : ∀ k, k < N → r k < N) (hN : 0 < N) : ∀ k, k < N → rotN r N k < N := by
  intro k hk
  unfold rotN upN
  split
  · exact h 0 hN
  · exact shN_lt h (Nat.le_refl N) k hk
def plR (r : Nat → Nat) (h N : Nat) : Nat → Nat := if h < N then r else rotN r N
def plH (h N : Nat) : Nat := if h < N then h + 1 else N
def plK (r : Nat → Nat) (h N : Nat) : Nat := if h < N then r h else rotN r N (N - 1)
