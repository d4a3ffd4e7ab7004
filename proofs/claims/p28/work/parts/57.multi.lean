/-! ===== an array of arrays of ints is made ===== -/
theorem mu_outer (c : ClassId) (N h0 : Nat) : ∀ i, Jvm.Free.Multi.outerC c N h0 i = arrV c N (fun j => if j < i then .ref (h0 + 1 + j) else .null)
  | 0 => by
    show ({ cls := c, slots := Array.replicate N .null, vm := .none } : Cell) = _
    rw [arrV_new]
    congr 1
  | i + 1 => by
    show (Jvm.Free.Multi.outerC c N h0 i).setSlot i (.ref (h0 + 1 + i)) = _
    rw [mu_outer c N h0 i, arrV_store]
    congr 1
    funext j
    unfold updV
    by_cases e : j = i
    · subst e
      rw [if_pos rfl, if_pos (by omega)]
    · rw [if_neg e]
      dsimp only
      by_cases h : j < i
      · rw [if_pos h, if_pos (by omega)]
      · rw [if_neg h, if_neg (by omega)]
def wRa (E : GE) (a : Nat) (rb : Nat → Nat) : va_W := [(a, .inl (E.2.2 2, 8, .inr (.inr (.inr (.inr (fun j => some (rb j)))))))]
theorem fsRa (E : GE) (a : Nat) (rb : Nat → Nat) : (wRa E a rb).map Prod.fst = [a] := rfl
theorem mu_row (c : ClassId) (h0 : Nat) : Jvm.Free.Multi.outerC c 8 h0 8 = vp_cell c (8, .inr (.inr (.inr (.inr (fun j => some (h0 + 1 + j)))))) := by
  rw [mu_outer, vp_cell_q]
  have h : ∀ f g : Nat → Value, (∀ j, j < 8 → f j = g j) → arrV c 8 f = arrV c 8 g := fun f g h => by
    show ({ cls := c, slots := Array.ofFn (n := 8) fun j => f j.val, vm := .none } : Cell) = { cls := c, slots := Array.ofFn (n := 8) fun j => g j.val, vm := .none }
    congr 2
    funext j
    exact h j.val j.isLt
  refine h _ _ (fun j hj => ?_)
  rw [if_pos hj]
  rfl
theorem g_multi {E : GE} {μ : MD} {Γ : GC} {cells slots : Nat} {lv : List (Nat × Value)} {pc : Nat} {rest : List Value} (X : CX E μ Γ) {qs : Nat × Nat} (Z : EX qs Γ.2.2.2.2.2.2.2.2.1 Γ.2.2.1) {S : List va_W} {idx : Nat} (hw : Cond.classLink μ.1.cls idx ("[" ++ (FieldType.array .int).toString) ∈ TT) (hw2 : Cond.arrayClass .int ∈ TT) (hc : cells + 9 ≤ μ.2.2.2.2.cells) (hsl : slots + 72 ≤ μ.2.2.2.2.slots) (d : decode μ.2.1 pc = .ok (.multianewarray idx 2, 4))
    (k : ∀ q : Nat, GG E μ Γ (cells + 9) (slots + 72) (S ++ [wRa E q (fun j => q + 1 + j)] ++ [wRw E (fun j => q + 1 + j) (fun _ _ => 0)]).flatten lv (pc + 4) (.ref q :: rest)) : GG E μ Γ cells slots S.flatten lv pc (.int (nI 8) :: .int (nI 8) :: rest) := by
  intro H locs ls hP hD hS hl T hT X0
  subst hT
  have e8 : (nI 8).toNatClampNeg = 8 := nI_clamp (by decide)
  obtain ⟨vm₁, cA, comp, hW, f1, f2, -, -, X1, st⟩ := X0.multianewarray2F (ty := .int) X.1.1 X.1.2.2.2.1 (X.1.2.2.2.2 _ hw) Z.2.1 (X.1.2.2.2.2 _ hw2) (g := F0 Γ.2.2.2.1 pc ls (.int (nI 8) :: .int (nI 8) :: rest)) rfl (by rw [X.1.2.1]; exact d) rfl (by decide) (by decide) (by rw [e8]; decide) (by rw [e8]; decide) (by rw [e8]; decide) rfl rfl (by rw [e8]; exact hc) (by rw [e8]; exact hsl)
  rw [e8] at X1 st
  have ec : comp = E.2.2 0 := ek_arr X.2.1 (k := 0) (ty := .int) rfl (fun _ h => by cases h) f2
  have eA : cA = E.2.2 2 := ek_arr X.2.1 (k := 2) (ty := .array .int) rfl (fun _ h => by cases h) f1
  subst ec; subst eA
  obtain ⟨z1, z2, -, -⟩ := Jvm.Free.Multi.fill_facts (T.setVm vm₁) (E.2.2 2) (E.2.2 0) 8 8 (.int 0) 8
  have z3 := fun (a : Addr) (ha : a < T.heap.size) => Jvm.Free.Multi.fill_old (T.setVm vm₁) (E.2.2 2) (E.2.2 0) 8 8 (.int 0) (a := a) ha 8
  have z4 := fun (j : Nat) (hj : j < 8) => Jvm.Free.Multi.fill_inner (T.setVm vm₁) (E.2.2 2) (E.2.2 0) 8 8 (.int 0) 8 j hj
  have hh : (T.setVm vm₁).heap = T.heap := rfl
  rw [hh] at z1 z2 z4
  have hd := va_D_iff.mp hD
  have hlt : ∀ q ∈ S.flatten, q.1 < T.heap.size := fun q hq => (va_P_iff.mp hP q hq).lt
  have hP1 : va_P E.2.1 vwCl (S ++ [wRa E T.heap.size (fun j => T.heap.size + 1 + j)] ++ [wRw E (fun j => T.heap.size + 1 + j) (fun _ _ => 0)]).flatten (Jvm.Free.Multi.fill (T.setVm vm₁) (E.2.2 2) (E.2.2 0) 8 8 (.int 0) 8).heap := by
    rw [sg_push, sg_push]
    refine va_P_iff.mpr (fun q hq => ?_)
    rcases List.mem_append.mp hq with h | h
    · rcases List.mem_append.mp h with h | h
      · exact (va_P_iff.mp hP q h).kept (z3 q.1 (hlt q h))
      · obtain rfl := List.mem_singleton.mp h
        show _ = some (vp_cell _ _)
        rw [z2]
        exact congrArg some (mu_row _ _)
    · obtain ⟨j, hj, rfl⟩ := List.mem_map.mp h
      show _ = some (vp_cell _ _)
      refine (z4 j (List.mem_range.mp hj)).trans (congrArg some ?_)
      show ({ cls := E.2.2 0, slots := Array.replicate 8 (.int 0), vm := .none } : Cell) = _
      rw [arrV_new]
      rfl
  have hD1 : va_D Γ.2.2.2.2.2.2.2.2.1 (S ++ [wRa E T.heap.size (fun j => T.heap.size + 1 + j)] ++ [wRw E (fun j => T.heap.size + 1 + j) (fun _ _ => 0)]).flatten := by
    rw [sg_push, sg_push]
    refine va_D_iff.mpr ⟨?_, fun q hq => ?_⟩
    · rw [List.map_append, List.map_append, fsRa, fsRw]
      refine List.nodup_append.mpr ⟨List.nodup_append.mpr ⟨hd.1, by simp, fun a ha b hb e => ?_⟩, ?_, fun a ha b hb e => ?_⟩
      · subst e
        obtain ⟨x, hx, rfl⟩ := List.mem_map.mp ha
        have := hlt x hx
        rw [List.mem_singleton.mp hb] at this
        omega
      · exact List.Pairwise.map _ (fun a b (h : a ≠ b) => show T.heap.size + 1 + a ≠ T.heap.size + 1 + b by omega) List.nodup_range
      · subst e
        obtain ⟨j, -, e⟩ := List.mem_map.mp hb
        rcases List.mem_append.mp ha with h | h
        · obtain ⟨x, hx, rfl⟩ := List.mem_map.mp h
          have := hlt x hx
          omega
        · have := List.mem_singleton.mp h
          omega
    · rcases List.mem_append.mp hq with h | h
      · rcases List.mem_append.mp h with h | h
        · exact hd.2 q h
        · rw [List.mem_singleton.mp h]
          exact X.2.2.1 _ hS.1
      · obtain ⟨j, -, rfl⟩ := List.mem_map.mp h
        exact X.2.2.1 _ (Nat.le_trans hS.1 (by show T.heap.size ≤ T.heap.size + 1 + j; omega))
  have hS1 : va_S Γ.2.2.2.2.2.2.2.2.1 Γ.2.2.1.heap (Jvm.Free.Multi.fill (T.setVm vm₁) (E.2.2 2) (E.2.2 0) 8 8 (.int 0) 8).heap locs :=
    ⟨Nat.le_trans hS.1 (by rw [z1]; omega), fun q h1 h2 => by rw [z3 q (Nat.lt_of_lt_of_le h1 hS.1)]; exact hS.2.1 q h1 h2, hS.2.2⟩
  obtain ⟨t, a1, b1⟩ := k T.heap.size _ locs ls hP1 hD1 hS1 hl _ rfl X1
  exact ⟨t, st t a1, b1⟩
