/-- an array over arrays: what the tables say of it -/
def va_AOA (ty : FieldType) (U : State) : Prop := (Cond.arrayOver (.array ty)).before #[] U = true
theorem va_AOA.of {ty : FieldType} {A : Array Value} {U : State} (h : (Cond.arrayOver (.array ty)).before A U = true) : va_AOA ty U := h
theorem va_AOA.use {ty : FieldType} {A : Array Value} {U : State} (h : va_AOA ty U) : (Cond.arrayOver (.array ty)).before A U = true := h
/-! ===== BEGIN words of one list among another's, by their places ===== -/
theorem goodIn_r {big : List Cond} (ws : List Cond) (ps : List Nat) (hp : ws = ps.filterMap (fun i => big[i]?)) (h : ws.all goodWord = true) : GoodIn big ws := by
  intro w hw
  have h1 := List.all_eq_true.mp h w hw
  rw [hp] at hw
  obtain ⟨i, -, hi⟩ := List.mem_filterMap.mp hw
  have hm : w ∈ big := by first | exact List.mem_of_getElem? hi | exact List.getElem?_mem hi
  exact ⟨hm, good_of_word h1⟩
theorem goodIn_app {big a b : List Cond} (ha : GoodIn big a) (hb : GoodIn big b) : GoodIn big (a ++ b) := fun w h => (List.mem_append.mp h).elim (ha w) (hb w)
theorem goodIn_ca {big a b : List Cond} {c : Cond} (ha : GoodIn big (c :: a)) (hb : GoodIn big b) : GoodIn big (c :: (a ++ b)) := fun w h => (List.mem_cons.mp h).elim (fun e => ha w (List.mem_cons.mpr (Or.inl e))) (fun h => (List.mem_append.mp h).elim (fun h => ha w (List.mem_cons.mpr (Or.inr h))) (hb w))
theorem goodIn_sub {big ws : List Cond} (hm : ∀ w ∈ ws, w ∈ big) (h : ws.all goodWord = true) : GoodIn big ws := fun w hw => ⟨hm w hw, good_of_word (List.all_eq_true.mp h w hw)⟩
/-! ===== END ===== -/

/-! ===== BEGIN new T[n][m]: the outer array a place, the inner ones among the pooled ===== -/
/-- f, but v at every address of l -/
def vr_up {α : Type} (f : Nat → α) (l : List Nat) (v : α) : Nat → α := fun a => if a ∈ l then v else f a
theorem vr_up_in {α : Type} {f : Nat → α} {l : List Nat} {v : α} {a : Nat} (h : a ∈ l) : vr_up f l v a = v := if_pos h
theorem vr_up_ne {α : Type} {f : Nat → α} {l : List Nat} {v : α} {a : Nat} (h : a ∉ l) : vr_up f l v a = f a := if_neg h
theorem vr_rows {L l : List Nat} {f : Nat → va_E} {e : va_E} (h : ∀ a, a ∈ l → a ∉ L) : va_pl L f ++ l.map (fun a => (a, e)) = va_pl (L ++ l) (vr_up f l e) := by
  unfold va_pl
  rw [List.map_append]
  congr 1
  · apply List.map_congr_left
    intro a ha
    rw [vr_up_ne (fun q => h a q ha)]
  · apply List.map_congr_left
    intro a ha
    rw [vr_up_in ha]
theorem vr_lay {X rows : va_W} {x : Nat × va_E} {pl : va_W} {D : va_G} {cl : List vw_C} {H : Heap} (hP : va_P D cl (((X ++ pl) ++ [x]) ++ rows) H) : va_P D cl ((X ++ [x]) ++ (pl ++ rows)) H := by
  rw [List.append_assoc (X ++ pl)] at hP
  have h := va_P.swap hP
  rw [← List.append_assoc X] at h
  have h2 := va_P.swap h
  rw [List.append_assoc (X ++ [x])] at h2
  exact h2
theorem vr_layD {X rows : va_W} {x : Nat × va_E} {pl : va_W} {A : Nat → Prop} (hD : va_D A (((X ++ pl) ++ [x]) ++ rows)) : va_D A ((X ++ [x]) ++ (pl ++ rows)) := by
  rw [List.append_assoc (X ++ pl)] at hD
  have h := va_D.swap hD
  rw [← List.append_assoc X] at h
  have h2 := va_D.swap h
  rw [List.append_assoc (X ++ [x])] at h2
  exact h2
theorem vr_outer (c : ClassId) (N h0 : Nat) : ∀ i : Nat, Jvm.Free.Multi.outerC c N h0 i = arrV c N (fun j => va_rf (if j < i then some (h0 + 1 + j) else none))
  | 0 => by
    show ({ cls := c, slots := Array.replicate N .null, vm := .none } : Cell) = _
    rw [arrV_new]
    refine congrArg (arrV c N) (funext fun j => ?_)
    simp [va_rf]
  | i + 1 => by
    show (Jvm.Free.Multi.outerC c N h0 i).setSlot i (.ref (h0 + 1 + i)) = _
    rw [vr_outer c N h0 i, arrV_store]
    refine congrArg (arrV c N) (funext fun j => ?_)
    by_cases e : j = i
    · subst e
      simp [updV, va_rf]
    · by_cases h : j < i
      · simp [updV, e, h, Nat.lt_succ_of_lt h]
      · simp [updV, e, h, show ¬ j < i + 1 by omega]
section VGM
variable {p : Program} {l : Launch} {e : Env} {R : Room} {s : State} {m : MethodId} {args : Array Value} {below : List Frame} {meth : Method} {c : Code} {H : Heap} {locs : List Loc} {cells slots : Nat} {Q : State → Prop}
variable {cc : ByteArray} {pc : Nat} {ls : Array Slot} {rest : List Value} {D : va_G} {cl : List vw_C} {A : Nat → Prop} {a : Nat} {tys : List (ClassId × FieldType)} {ws : va_W} {H0 : Heap}
theorem va_mna {X : va_W} {L : List Nat} {f : Nat → va_E} {cc : ByteArray} (hexec : p.tables.exec = Jvm.exec) (hb : c.code = cc) {own : String} {index : Nat} {ty : FieldType} {cy : ClassId} (hown : s.vm.findClass own = some m.cls) (hclink : (Cond.classLink own index ("[" ++ (FieldType.array ty).toString)).before args s = true) (hover : va_AOA ty s) (harr : (Cond.arrayClass ty).before args s = true) (hcy : s.vm.findClass (FieldType.array ty).toString = some cy)
    (hK : va_K D cl tys s) (hP : va_P D cl (X ++ va_pl L f) H) (hD : va_D A (X ++ va_pl L f)) (hS : va_S A H0 H locs) (hA : ∀ q, H0.size ≤ q → A q) {n k : Int32} {N' K' : Nat} {z : vp_A} (hn : ¬ n < 0) (hk : ¬ k < 0) (hN : n.toNatClampNeg = N') (hM : k.toNatClampNeg = K')
    (hb1 : N' * 4 ≤ 536870912) (hb2 : K' * componentBytes ty ≤ 536870912) (hb3 : K' ≤ 536870912) (hdf : fits ty (defaultValue ty) = true) (hdd : (defaultValue ty).isDefault = true) (hcells : cells + (1 + N') ≤ R.cells) (hslots : slots + (N' + N' * K') ≤ R.slots) (hz : ∀ c : ClassId, Jvm.Free.Multi.innerC c K' (defaultValue ty) = vp_cell c z) (hdg : decode cc pc = .ok (.multianewarray index 2, 4))
    (kk : ∀ (q : Nat) (r : Nat → Nat) (cA : ClassId) (H1 : Heap), (∀ i j : Nat, i < N' → j < N' → r i = r j → i = j) → (∀ i : Nat, i < N' → r i ∉ L) → va_K D cl (tys ++ [(cA, .array ty)]) s →
      va_P D cl ((X ++ [(q, .inl (cA, N', .inr (.inr (.inr (.inr (fun i => if i < N' then some (r i) else none))))))]) ++ va_pl (L ++ (List.range N').map r) (vr_up f ((List.range N').map r) (.inl (cy, z)))) H1 → va_D A ((X ++ [(q, .inl (cA, N', .inr (.inr (.inr (.inr (fun i => if i < N' then some (r i) else none))))))]) ++ va_pl (L ++ (List.range N').map r) (vr_up f ((List.range N').map r) (.inl (cy, z)))) → va_S A H0 H1 locs →
      W p l e R s m args below meth c H1 locs (cells + 1 + N') (slots + N' + N' * K') Q (F0 m (pc + 4) ls (.ref q :: rest))) : W p l e R s m args below meth c H locs cells slots Q (F0 m pc ls (.int k :: .int n :: rest)) := by
  subst hN
  subst hM
  intro T hT Xs
  obtain ⟨vm₁, cA, comp, -, fA, fC, hO, -, X', step⟩ := Xs.multianewarray2F hexec hown hclink (va_AOA.use hover) harr (g := F0 m pc ls (.int k :: .int n :: rest)) rfl (by rw [hb]; exact hdg) rfl hn hk hb1 hb2 hb3 hdf hdd hcells hslots
  have ec : some cy = some comp := hcy.symm.trans fC
  cases ec
  generalize hF : Jvm.Free.Multi.fill (T.setVm vm₁) cA cy n.toNatClampNeg k.toNatClampNeg (defaultValue ty) n.toNatClampNeg = F at X' step
  have hTh : (T.setVm vm₁).heap = H := hT
  obtain ⟨f1, f2, -, -⟩ := Jvm.Free.Multi.fill_facts (T.setVm vm₁) cA cy n.toNatClampNeg k.toNatClampNeg (defaultValue ty) n.toNatClampNeg
  rw [hF, hTh] at f1 f2
  have hold : ∀ x : Nat, x < H.size → F.heap[x]? = H[x]? := fun x hx => by
    have := Jvm.Free.Multi.fill_old (T.setVm vm₁) cA cy n.toNatClampNeg k.toNatClampNeg (defaultValue ty) (a := x) (by rw [hTh]; exact hx) n.toNatClampNeg
    rw [hF, hTh] at this
    exact this
  have hrow : ∀ j : Nat, j < n.toNatClampNeg → F.heap[H.size + 1 + j]? = some (vp_cell cy z) := fun j hj => by
    have := Jvm.Free.Multi.fill_inner (T.setVm vm₁) cA cy n.toNatClampNeg k.toNatClampNeg (defaultValue ty) n.toNatClampNeg j hj
    rw [hF, hTh, hz] at this
    exact this
  have hout : Jvm.Free.Multi.outerC cA n.toNatClampNeg H.size n.toNatClampNeg = vp_cell cA (n.toNatClampNeg, .inr (.inr (.inr (.inr (fun i => if i < n.toNatClampNeg then some (H.size + 1 + i) else none))))) := by
    rw [vp_cell_q]
    exact vr_outer cA n.toNatClampNeg H.size n.toNatClampNeg
  rw [hout] at f2
  have hlt : ∀ a, a ∈ L → a < H.size := fun a ha => by
    obtain ⟨k9, hk9⟩ := va_pl_get (X := X) (f := f) ha
    exact (hP k9 _ hk9).lt
  have hnl : ∀ i : Nat, i < n.toNatClampNeg → H.size + 1 + i ∉ L := fun i _ h => by
    have := hlt _ h
    omega
  have hnm : ∀ a, a ∈ (List.range n.toNatClampNeg).map (fun i => H.size + 1 + i) → a ∉ L := fun a ha h => by
    obtain ⟨i, -, rfl⟩ := List.mem_map.mp ha
    have := hlt _ h
    omega
  have hP0 : va_P D cl (X ++ va_pl L f) F.heap := hP.kept (fun k9 x hx => hold x.1 ((hP k9 x hx).lt))
  have hP1 : va_P D cl ((X ++ va_pl L f) ++ [(H.size, .inl (cA, n.toNatClampNeg, .inr (.inr (.inr (.inr (fun i => if i < n.toNatClampNeg then some (H.size + 1 + i) else none))))))]) F.heap := hP0.app (fun k9 x hx => by
    have h0 : k9 < 1 := (List.getElem?_eq_some_iff.mp hx).1
    rw [show k9 = 0 by omega] at hx
    cases hx
    exact f2)
  have hP2 : va_P D cl (((X ++ va_pl L f) ++ [(H.size, .inl (cA, n.toNatClampNeg, .inr (.inr (.inr (.inr (fun i => if i < n.toNatClampNeg then some (H.size + 1 + i) else none))))))]) ++ ((List.range n.toNatClampNeg).map (fun i => H.size + 1 + i)).map (fun a => (a, .inl (cy, z)))) F.heap := hP1.app (fun k9 x hx => by
    obtain ⟨a, ha, rfl⟩ := List.mem_map.mp (List.mem_of_getElem? hx)
    obtain ⟨i, hi, rfl⟩ := List.mem_map.mp ha
    exact hrow i (List.mem_range.mp hi))
  have hD2 : va_D A (((X ++ va_pl L f) ++ [(H.size, .inl (cA, n.toNatClampNeg, .inr (.inr (.inr (.inr (fun i => if i < n.toNatClampNeg then some (H.size + 1 + i) else none))))))]) ++ ((List.range n.toNatClampNeg).map (fun i => H.size + 1 + i)).map (fun a => (a, .inl (cy, z)))) := by
    have hD1 := hD.push (e := .inl (cA, n.toNatClampNeg, .inr (.inr (.inr (.inr (fun i => if i < n.toNatClampNeg then some (H.size + 1 + i) else none)))))) hP rfl (hA _ hS.1)
    generalize hW1 : (X ++ va_pl L f) ++ [(H.size, .inl (cA, n.toNatClampNeg, .inr (.inr (.inr (.inr (fun i => if i < n.toNatClampNeg then some (H.size + 1 + i) else none))))))] = W1 at hD1 hP1 ⊢
    have hle : ∀ (k9 : Nat) (x : Nat × va_E), W1[k9]? = some x → x.1 ≤ H.size := fun k9 x hx => by
      rw [← hW1] at hx
      by_cases hl : k9 < (X ++ va_pl L f).length
      · rw [List.getElem?_append_left hl] at hx
        exact Nat.le_of_lt ((hP k9 x hx).lt)
      · rw [List.getElem?_append_right (by omega)] at hx
        have h0 : k9 - (X ++ va_pl L f).length < 1 := (List.getElem?_eq_some_iff.mp hx).1
        rw [show k9 - (X ++ va_pl L f).length = 0 by omega] at hx
        cases hx
        exact Nat.le_refl _
    have hr : ∀ (k9 : Nat) (x : Nat × va_E), (((List.range n.toNatClampNeg).map (fun i => H.size + 1 + i)).map (fun a => ((a, .inl (cy, z)) : Nat × va_E)))[k9]? = some x → x.1 = H.size + 1 + k9 := fun k9 x hx => by
      rw [List.getElem?_map, List.getElem?_map] at hx
      by_cases h9 : k9 < n.toNatClampNeg
      · rw [List.getElem?_range h9] at hx
        cases hx
        rfl
      · have hn0 : (List.range n.toNatClampNeg)[k9]? = none := List.getElem?_eq_none (by rw [List.length_range]; omega)
        rw [hn0] at hx
        cases hx
    refine ⟨fun i j x y hi hj hxy => ?_, fun k9 x hx => ?_⟩
    · by_cases h1 : i < W1.length <;> by_cases h2 : j < W1.length
      · rw [List.getElem?_append_left h1] at hi
        rw [List.getElem?_append_left h2] at hj
        exact hD1.1 i j x y hi hj hxy
      · rw [List.getElem?_append_left h1] at hi
        rw [List.getElem?_append_right (by omega)] at hj
        have := hle _ _ hi
        have := hr _ _ hj
        omega
      · rw [List.getElem?_append_right (by omega)] at hi
        rw [List.getElem?_append_left h2] at hj
        have := hle _ _ hj
        have := hr _ _ hi
        omega
      · rw [List.getElem?_append_right (by omega)] at hi hj
        have := hr _ _ hi
        have := hr _ _ hj
        omega
    · by_cases h1 : k9 < W1.length
      · rw [List.getElem?_append_left h1] at hx
        exact hD1.2 k9 x hx
      · rw [List.getElem?_append_right (by omega)] at hx
        have := hr _ _ hx
        exact hA _ (by have := hS.1; omega)
  have hAr : ArrOfT s cA (.array ty) := fun N9 z9 => by
    obtain ⟨-, k9, hk9, cm9, hkk9⟩ := (hO 0 0 0).1
    exact ⟨(fun q hq => by cases hq), k9, hk9, cm9, hkk9⟩
  have hK2 : va_K D cl (tys ++ [(cA, .array ty)]) s := ⟨hK.1, fun k9 x hx => by
    by_cases hl : k9 < tys.length
    · rw [List.getElem?_append_left hl] at hx
      exact hK.2 k9 x hx
    · rw [List.getElem?_append_right (by omega)] at hx
      have h0 : k9 - tys.length < 1 := (List.getElem?_eq_some_iff.mp hx).1
      rw [show k9 - tys.length = 0 by omega] at hx
      cases hx
      exact ⟨hAr, fA⟩⟩
  obtain ⟨t, a1, b1⟩ := kk H.size (fun i => H.size + 1 + i) cA F.heap (fun i j _ _ h => by have h9 : H.size + 1 + i = H.size + 1 + j := h; omega) hnl hK2 (by rw [← vr_rows hnm]; exact vr_lay hP2) (by rw [← vr_rows hnm]; exact vr_layD hD2) ⟨by rw [f1]; have := hS.1; omega, fun x h1 h2 => (hold x (Nat.lt_of_lt_of_le h1 hS.1)).trans (hS.2.1 x h1 h2), hS.2.2⟩ F rfl X'
  refine ⟨t, step t ?_, b1⟩
  have e : T.heap.size = H.size := by rw [hT]
  rw [e]
  exact a1
end VGM
/-! ===== END ===== -/

/-! ===== BEGIN printed: names, fields, word lists, decode rows ===== -/
def RX0 : String := "TwoSurveys$Matching"
def TX0 : u_T := fun k => match k with
  | 0 => ("TwoSurveys$Matching", "beliefs", "[[I", true)
  | 1 => ("TwoSurveys$Matching", "before", "[[I", true)
  | 2 => ("TwoSurveys$Matching", "mates0", "[I", true)
  | 3 => ("TwoSurveys$Matching", "mates1", "[I", true)
  | 4 => ("TwoSurveys$Matching", "exchanged0", "[I", true)
  | 5 => ("TwoSurveys$Matching", "exchanged1", "[I", true)
  | _ => ("TwoSurveys$Matching", "pairs", "I", false)
def tyX0 : Nat → FieldType := fun k => match k with
  | 0 => .array (.array .int)
  | 1 => .array (.array .int)
  | 2 => .array .int
  | 3 => .array .int
  | 4 => .array .int
  | 5 => .array .int
  | _ => .int
abbrev wsX00 : List Cond := u_ws RX0 TX0 7
theorem nmX0 : ∀ a, a < 7 → ∀ b, b < 7 → a ≠ b → (TX0 a).2.1 ≠ (TX0 b).2.1 := by decide +kernel
theorem tyX0_ok : ∀ k, k < 7 → parseFieldDescriptor (TX0 k).2.2.1 = some (tyX0 k) := by decide +kernel
abbrev cX0_init : ByteArray := prog_2_method_1_code
def yX0_init : MethodName := ⟨RX0, "<init>", "()V"⟩
abbrev cX0_make : ByteArray := prog_2_method_2_code
def yX0_make : MethodName := ⟨RX0, "make", "(LTwoSurveys$Towns;)V"⟩
abbrev cX0_pairs : ByteArray := prog_2_method_3_code
def yX0_pairs : MethodName := ⟨RX0, "pairs", "()I"⟩
abbrev cX0_beliefIn : ByteArray := prog_2_method_4_code
def yX0_beliefIn : MethodName := ⟨RX0, "beliefIn", "(II)I"⟩
abbrev cX0_isPair : ByteArray := prog_2_method_5_code
def yX0_isPair : MethodName := ⟨RX0, "isPair", "(II)Z"⟩
abbrev cX0_mateOf : ByteArray := prog_2_method_6_code
def yX0_mateOf : MethodName := ⟨RX0, "mateOf", "(II)I"⟩
abbrev cX0_unmatched : ByteArray := prog_2_method_7_code
def yX0_unmatched : MethodName := ⟨RX0, "unmatched", "(LTwoSurveys$Towns;I)I"⟩
abbrev cX0_isSameExchanged : ByteArray := prog_2_method_8_code
def yX0_isSameExchanged : MethodName := ⟨RX0, "isSameExchanged", "()Z"⟩
abbrev cX0_turnedTriples : ByteArray := prog_2_method_9_code
def yX0_turnedTriples : MethodName := ⟨RX0, "turnedTriples", "(LTwoSurveys$Towns;)I"⟩
abbrev cX0_areMatched : ByteArray := prog_2_method_10_code
def yX0_areMatched : MethodName := ⟨RX0, "areMatched", "(III)Z"⟩
abbrev cX0_isTurned : ByteArray := prog_2_method_11_code
def yX0_isTurned : MethodName := ⟨RX0, "isTurned", "(LTwoSurveys$Towns;III)Z"⟩
abbrev cX0_areNumbers : ByteArray := prog_2_method_12_code
def yX0_areNumbers : MethodName := ⟨RX0, "areNumbers", "(II)Z"⟩
abbrev cX0_firstBelief : ByteArray := prog_2_method_13_code
def yX0_firstBelief : MethodName := ⟨RX0, "firstBelief", "(LTwoSurveys$Towns;II)I"⟩
abbrev cX0_improve : ByteArray := prog_2_method_14_code
def yX0_improve : MethodName := ⟨RX0, "improve", "(LTwoSurveys$Towns;)V"⟩
abbrev cX0_support : ByteArray := prog_2_method_15_code
def yX0_support : MethodName := ⟨RX0, "support", "(LTwoSurveys$Towns;III)I"⟩
abbrev cX0_beliefBefore : ByteArray := prog_2_method_16_code
def yX0_beliefBefore : MethodName := ⟨RX0, "beliefBefore", "(II)I"⟩
abbrev cX0_pairUp : ByteArray := prog_2_method_17_code
def yX0_pairUp : MethodName := ⟨RX0, "pairUp", "(I[I[I)I"⟩
abbrev cX0_pairUpOne : ByteArray := prog_2_method_18_code
def yX0_pairUpOne : MethodName := ⟨RX0, "pairUpOne", "(I[I[I)Z"⟩
def RX1 : String := "TwoSurveys$Pile"
def TX1 : u_T := fun k => match k with
  | 0 => ("TwoSurveys$Pile", "copies", "[LTwoSurveys$Towns;", true)
  | _ => ("TwoSurveys$Pile", "height", "I", false)
def tyX1 : Nat → FieldType := fun k => match k with
  | 0 => .array (.object "TwoSurveys$Towns")
  | _ => .int
abbrev wsX10 : List Cond := u_ws RX1 TX1 2
theorem nmX1 : ∀ a, a < 2 → ∀ b, b < 2 → a ≠ b → (TX1 a).2.1 ≠ (TX1 b).2.1 := by decide +kernel
theorem tyX1_ok : ∀ k, k < 2 → parseFieldDescriptor (TX1 k).2.2.1 = some (tyX1 k) := by decide +kernel
abbrev cX1_init : ByteArray := prog_3_method_1_code
def yX1_init : MethodName := ⟨RX1, "<init>", "(I)V"⟩
abbrev cX1_height : ByteArray := prog_3_method_2_code
def yX1_height : MethodName := ⟨RX1, "height", "()I"⟩
abbrev cX1_clear : ByteArray := prog_3_method_3_code
def yX1_clear : MethodName := ⟨RX1, "clear", "()V"⟩
abbrev cX1_push : ByteArray := prog_3_method_4_code
def yX1_push : MethodName := ⟨RX1, "push", "(LTwoSurveys$Towns;)V"⟩
abbrev cX1_pop : ByteArray := prog_3_method_5_code
def yX1_pop : MethodName := ⟨RX1, "pop", "(LTwoSurveys$Towns;)Z"⟩
abbrev cX1_dropOldest : ByteArray := prog_3_method_6_code
def yX1_dropOldest : MethodName := ⟨RX1, "dropOldest", "()V"⟩
def RX2 : String := "TwoSurveys$Reader"
def TX2 : u_T := fun k => match k with
  | 0 => ("TwoSurveys$Reader", "numbers", "[I", true)
  | _ => ("TwoSurveys$Reader", "next", "I", false)
def tyX2 : Nat → FieldType := fun k => match k with
  | 0 => .array .int
  | _ => .int
abbrev wsX20 : List Cond := u_ws RX2 TX2 2
theorem nmX2 : ∀ a, a < 2 → ∀ b, b < 2 → a ≠ b → (TX2 a).2.1 ≠ (TX2 b).2.1 := by decide +kernel
theorem tyX2_ok : ∀ k, k < 2 → parseFieldDescriptor (TX2 k).2.2.1 = some (tyX2 k) := by decide +kernel
abbrev cX2_init : ByteArray := prog_4_method_1_code
def yX2_init : MethodName := ⟨RX2, "<init>", "()V"⟩
abbrev cX2_read : ByteArray := prog_4_method_2_code
def yX2_read : MethodName := ⟨RX2, "read", "(LTwoSurveys$Text;LTwoSurveys$Towns;)I"⟩
abbrev cX2_readItem : ByteArray := prog_4_method_3_code
def yX2_readItem : MethodName := ⟨RX2, "readItem", "(LTwoSurveys$Text;LTwoSurveys$Towns;)Z"⟩
abbrev cX2_numbersOf : ByteArray := prog_4_method_4_code
def yX2_numbersOf : MethodName := ⟨RX2, "numbersOf", "(I)I"⟩
abbrev cX2_readNumber : ByteArray := prog_4_method_5_code
def yX2_readNumber : MethodName := ⟨RX2, "readNumber", "(LTwoSurveys$Text;)I"⟩
abbrev cX2_take : ByteArray := prog_4_method_6_code
def yX2_take : MethodName := ⟨RX2, "take", "(ILTwoSurveys$Towns;)Z"⟩
def RX3 : String := "TwoSurveys$Shelves"
def TX3 : u_T := fun k => match k with
  | _ => ("TwoSurveys$Shelves", "things", "[I", true)
def tyX3 : Nat → FieldType := fun k => match k with
  | _ => .array .int
abbrev wsX30 : List Cond := u_ws RX3 TX3 1
theorem nmX3 : ∀ a, a < 1 → ∀ b, b < 1 → a ≠ b → (TX3 a).2.1 ≠ (TX3 b).2.1 := by decide +kernel
theorem tyX3_ok : ∀ k, k < 1 → parseFieldDescriptor (TX3 k).2.2.1 = some (tyX3 k) := by decide +kernel
abbrev cX3_init : ByteArray := prog_5_method_1_code
def yX3_init : MethodName := ⟨RX3, "<init>", "()V"⟩
abbrev cX3_clear : ByteArray := prog_5_method_2_code
def yX3_clear : MethodName := ⟨RX3, "clear", "()V"⟩
abbrev cX3_hasPlace : ByteArray := prog_5_method_3_code
def yX3_hasPlace : MethodName := ⟨RX3, "hasPlace", "(II)Z"⟩
abbrev cX3_takes : ByteArray := prog_5_method_4_code
def yX3_takes : MethodName := ⟨RX3, "takes", "(II)Z"⟩
abbrev cX3_put : ByteArray := prog_5_method_5_code
def yX3_put : MethodName := ⟨RX3, "put", "(III)V"⟩
abbrev cX3_thingAt : ByteArray := prog_5_method_6_code
def yX3_thingAt : MethodName := ⟨RX3, "thingAt", "(II)I"⟩
abbrev cX3_things : ByteArray := prog_5_method_7_code
def yX3_things : MethodName := ⟨RX3, "things", "()I"⟩
def RX4 : String := "TwoSurveys$Survey"
def TX4 : u_T := fun k => match k with
  | 0 => ("TwoSurveys$Survey", "kinds", "[I", true)
  | 1 => ("TwoSurveys$Survey", "xs", "[I", true)
  | 2 => ("TwoSurveys$Survey", "ys", "[I", true)
  | 3 => ("TwoSurveys$Survey", "starts", "[I", true)
  | 4 => ("TwoSurveys$Survey", "ends", "[I", true)
  | 5 => ("TwoSurveys$Survey", "names", "[I", true)
  | 6 => ("TwoSurveys$Survey", "meetings", "I", false)
  | _ => ("TwoSurveys$Survey", "streets", "I", false)
def tyX4 : Nat → FieldType := fun k => match k with
  | 0 => .array .int
  | 1 => .array .int
  | 2 => .array .int
  | 3 => .array .int
  | 4 => .array .int
  | 5 => .array .int
  | 6 => .int
  | _ => .int
abbrev wsX40 : List Cond := u_ws RX4 TX4 8
theorem nmX4 : ∀ a, a < 8 → ∀ b, b < 8 → a ≠ b → (TX4 a).2.1 ≠ (TX4 b).2.1 := by decide +kernel
theorem tyX4_ok : ∀ k, k < 8 → parseFieldDescriptor (TX4 k).2.2.1 = some (tyX4 k) := by decide +kernel
abbrev cX4_init : ByteArray := prog_6_method_1_code
def yX4_init : MethodName := ⟨RX4, "<init>", "()V"⟩
abbrev cX4_clear : ByteArray := prog_6_method_2_code
def yX4_clear : MethodName := ⟨RX4, "clear", "()V"⟩
abbrev cX4_copy : ByteArray := prog_6_method_3_code
def yX4_copy : MethodName := ⟨RX4, "copy", "(LTwoSurveys$Survey;)V"⟩
abbrev cX4_meetings : ByteArray := prog_6_method_4_code
def yX4_meetings : MethodName := ⟨RX4, "meetings", "()I"⟩
abbrev cX4_streets : ByteArray := prog_6_method_5_code
def yX4_streets : MethodName := ⟨RX4, "streets", "()I"⟩
abbrev cX4_hasMeeting : ByteArray := prog_6_method_6_code
def yX4_hasMeeting : MethodName := ⟨RX4, "hasMeeting", "(I)Z"⟩
abbrev cX4_hasStreet : ByteArray := prog_6_method_7_code
def yX4_hasStreet : MethodName := ⟨RX4, "hasStreet", "(I)Z"⟩
abbrev cX4_kindOf : ByteArray := prog_6_method_8_code
def yX4_kindOf : MethodName := ⟨RX4, "kindOf", "(I)I"⟩
abbrev cX4_xOf : ByteArray := prog_6_method_9_code
def yX4_xOf : MethodName := ⟨RX4, "xOf", "(I)I"⟩
abbrev cX4_yOf : ByteArray := prog_6_method_10_code
def yX4_yOf : MethodName := ⟨RX4, "yOf", "(I)I"⟩
abbrev cX4_startOf : ByteArray := prog_6_method_11_code
def yX4_startOf : MethodName := ⟨RX4, "startOf", "(I)I"⟩
abbrev cX4_endOf : ByteArray := prog_6_method_12_code
def yX4_endOf : MethodName := ⟨RX4, "endOf", "(I)I"⟩
abbrev cX4_nameOf : ByteArray := prog_6_method_13_code
def yX4_nameOf : MethodName := ⟨RX4, "nameOf", "(I)I"⟩
abbrev cX4_otherEnd : ByteArray := prog_6_method_14_code
def yX4_otherEnd : MethodName := ⟨RX4, "otherEnd", "(II)I"⟩
abbrev cX4_streetsAt : ByteArray := prog_6_method_15_code
def yX4_streetsAt : MethodName := ⟨RX4, "streetsAt", "(I)I"⟩
abbrev cX4_streetBetween : ByteArray := prog_6_method_16_code
def yX4_streetBetween : MethodName := ⟨RX4, "streetBetween", "(II)I"⟩
abbrev cX4_twiceArea : ByteArray := prog_6_method_17_code
def yX4_twiceArea : MethodName := ⟨RX4, "twiceArea", "(III)I"⟩
abbrev cX4_addMeeting : ByteArray := prog_6_method_18_code
def yX4_addMeeting : MethodName := ⟨RX4, "addMeeting", "(III)Z"⟩
abbrev cX4_addStreet : ByteArray := prog_6_method_19_code
def yX4_addStreet : MethodName := ⟨RX4, "addStreet", "(III)Z"⟩
abbrev cX4_dropStreet : ByteArray := prog_6_method_20_code
def yX4_dropStreet : MethodName := ⟨RX4, "dropStreet", "(I)V"⟩
abbrev cX4_put : ByteArray := prog_6_method_21_code
def yX4_put : MethodName := ⟨RX4, "put", "(III)V"⟩
abbrev cX4_setKind : ByteArray := prog_6_method_22_code
def yX4_setKind : MethodName := ⟨RX4, "setKind", "(II)V"⟩
abbrev cX4_setName : ByteArray := prog_6_method_23_code
def yX4_setName : MethodName := ⟨RX4, "setName", "(II)V"⟩
def RX5 : String := "TwoSurveys$Text"
def TX5 : u_T := fun k => match k with
  | 0 => ("TwoSurveys$Text", "letters", "[C", true)
  | _ => ("TwoSurveys$Text", "length", "I", false)
def tyX5 : Nat → FieldType := fun k => match k with
  | 0 => .array .char
  | _ => .int
abbrev wsX50 : List Cond := u_ws RX5 TX5 2
theorem nmX5 : ∀ a, a < 2 → ∀ b, b < 2 → a ≠ b → (TX5 a).2.1 ≠ (TX5 b).2.1 := by decide +kernel
theorem tyX5_ok : ∀ k, k < 2 → parseFieldDescriptor (TX5 k).2.2.1 = some (tyX5 k) := by decide +kernel
abbrev cX5_init : ByteArray := prog_7_method_1_code
def yX5_init : MethodName := ⟨RX5, "<init>", "()V"⟩
abbrev cX5_length : ByteArray := prog_7_method_2_code
def yX5_length : MethodName := ⟨RX5, "length", "()I"⟩
abbrev cX5_add : ByteArray := prog_7_method_3_code
def yX5_add : MethodName := ⟨RX5, "add", "(I)Z"⟩
abbrev cX5_clear : ByteArray := prog_7_method_4_code
def yX5_clear : MethodName := ⟨RX5, "clear", "()V"⟩
abbrev cX5_letterAt : ByteArray := prog_7_method_5_code
def yX5_letterAt : MethodName := ⟨RX5, "letterAt", "(I)I"⟩
def RX6 : String := "TwoSurveys$Towns"
def TX6 : u_T := fun k => match k with
  | 0 => ("TwoSurveys$Towns", "survey0", "LTwoSurveys$Survey;", true)
  | 1 => ("TwoSurveys$Towns", "survey1", "LTwoSurveys$Survey;", true)
  | 2 => ("TwoSurveys$Towns", "radius", "I", false)
  | _ => ("TwoSurveys$Towns", "rounds", "I", false)
def tyX6 : Nat → FieldType := fun k => match k with
  | 0 => .object "TwoSurveys$Survey"
  | 1 => .object "TwoSurveys$Survey"
  | 2 => .int
  | _ => .int
abbrev wsX60 : List Cond := u_ws RX6 TX6 4
theorem nmX6 : ∀ a, a < 4 → ∀ b, b < 4 → a ≠ b → (TX6 a).2.1 ≠ (TX6 b).2.1 := by decide +kernel
theorem tyX6_ok : ∀ k, k < 4 → parseFieldDescriptor (TX6 k).2.2.1 = some (tyX6 k) := by decide +kernel
abbrev cX6_init : ByteArray := prog_8_method_1_code
def yX6_init : MethodName := ⟨RX6, "<init>", "()V"⟩
abbrev cX6_clear : ByteArray := prog_8_method_2_code
def yX6_clear : MethodName := ⟨RX6, "clear", "()V"⟩
abbrev cX6_copy : ByteArray := prog_8_method_3_code
def yX6_copy : MethodName := ⟨RX6, "copy", "(LTwoSurveys$Towns;)V"⟩
abbrev cX6_surveyOf : ByteArray := prog_8_method_4_code
def yX6_surveyOf : MethodName := ⟨RX6, "surveyOf", "(I)LTwoSurveys$Survey;"⟩
abbrev cX6_radius : ByteArray := prog_8_method_5_code
def yX6_radius : MethodName := ⟨RX6, "radius", "()I"⟩
abbrev cX6_rounds : ByteArray := prog_8_method_6_code
def yX6_rounds : MethodName := ⟨RX6, "rounds", "()I"⟩
abbrev cX6_setRadius : ByteArray := prog_8_method_7_code
def yX6_setRadius : MethodName := ⟨RX6, "setRadius", "(I)Z"⟩
abbrev cX6_setRounds : ByteArray := prog_8_method_8_code
def yX6_setRounds : MethodName := ⟨RX6, "setRounds", "(I)Z"⟩
abbrev cX6_reachOf : ByteArray := prog_8_method_9_code
def yX6_reachOf : MethodName := ⟨RX6, "reachOf", "(II)I"⟩
abbrev cX6_squaredDistance : ByteArray := prog_8_method_10_code
def yX6_squaredDistance : MethodName := ⟨RX6, "squaredDistance", "(II)I"⟩
def RX7 : String := "TwoSurveys$Transfer"
def TX7 : u_T := fun k => match k with
  | 0 => ("TwoSurveys$Transfer", "topX", "I", false)
  | 1 => ("TwoSurveys$Transfer", "topY", "I", false)
  | 2 => ("TwoSurveys$Transfer", "bottom", "I", false)
  | 3 => ("TwoSurveys$Transfer", "cornerA", "I", false)
  | 4 => ("TwoSurveys$Transfer", "cornerB", "I", false)
  | _ => ("TwoSurveys$Transfer", "cornerC", "I", false)
def tyX7 : Nat → FieldType := fun k => match k with
  | 0 => .int
  | 1 => .int
  | 2 => .int
  | 3 => .int
  | 4 => .int
  | _ => .int
abbrev wsX70 : List Cond := u_ws RX7 TX7 6
theorem nmX7 : ∀ a, a < 6 → ∀ b, b < 6 → a ≠ b → (TX7 a).2.1 ≠ (TX7 b).2.1 := by decide +kernel
theorem tyX7_ok : ∀ k, k < 6 → parseFieldDescriptor (TX7 k).2.2.1 = some (tyX7 k) := by decide +kernel
abbrev cX7_init : ByteArray := prog_9_method_1_code
def yX7_init : MethodName := ⟨RX7, "<init>", "()V"⟩
abbrev cX7_topOfX : ByteArray := prog_9_method_2_code
def yX7_topOfX : MethodName := ⟨RX7, "topOfX", "()I"⟩
abbrev cX7_bottomOfX : ByteArray := prog_9_method_3_code
def yX7_bottomOfX : MethodName := ⟨RX7, "bottomOfX", "()I"⟩
abbrev cX7_topOfY : ByteArray := prog_9_method_4_code
def yX7_topOfY : MethodName := ⟨RX7, "topOfY", "()I"⟩
abbrev cX7_bottomOfY : ByteArray := prog_9_method_5_code
def yX7_bottomOfY : MethodName := ⟨RX7, "bottomOfY", "()I"⟩
abbrev cX7_find : ByteArray := prog_9_method_6_code
def yX7_find : MethodName := ⟨RX7, "find", "(LTwoSurveys$Towns;LTwoSurveys$Matching;I)V"⟩
abbrev cX7_set : ByteArray := prog_9_method_7_code
def yX7_set : MethodName := ⟨RX7, "set", "(III)V"⟩
abbrev cX7_findTriangle : ByteArray := prog_9_method_8_code
def yX7_findTriangle : MethodName := ⟨RX7, "findTriangle", "(LTwoSurveys$Survey;LTwoSurveys$Matching;I)Z"⟩
abbrev cX7_isInside : ByteArray := prog_9_method_9_code
def yX7_isInside : MethodName := ⟨RX7, "isInside", "(LTwoSurveys$Survey;IIII)Z"⟩
abbrev cX7_blend : ByteArray := prog_9_method_10_code
def yX7_blend : MethodName := ⟨RX7, "blend", "(LTwoSurveys$Towns;LTwoSurveys$Matching;I)V"⟩
abbrev cX7_nearest : ByteArray := prog_9_method_11_code
def yX7_nearest : MethodName := ⟨RX7, "nearest", "(LTwoSurveys$Survey;LTwoSurveys$Matching;I)I"⟩
abbrev cX7_follow : ByteArray := prog_9_method_12_code
def yX7_follow : MethodName := ⟨RX7, "follow", "(LTwoSurveys$Towns;LTwoSurveys$Matching;II)V"⟩
abbrev cX7_reduced : ByteArray := prog_9_method_13_code
def yX7_reduced : MethodName := ⟨RX7, "reduced", "(III)I"⟩
def RX8 : String := "TwoSurveys$Way"
def TX8 : u_T := fun k => match k with
  | 0 => ("TwoSurveys$Way", "stops", "[I", true)
  | _ => ("TwoSurveys$Way", "streets", "I", false)
def tyX8 : Nat → FieldType := fun k => match k with
  | 0 => .array .int
  | _ => .int
abbrev wsX80 : List Cond := u_ws RX8 TX8 2
theorem nmX8 : ∀ a, a < 2 → ∀ b, b < 2 → a ≠ b → (TX8 a).2.1 ≠ (TX8 b).2.1 := by decide +kernel
theorem tyX8_ok : ∀ k, k < 2 → parseFieldDescriptor (TX8 k).2.2.1 = some (tyX8 k) := by decide +kernel
abbrev cX8_init : ByteArray := prog_10_method_1_code
def yX8_init : MethodName := ⟨RX8, "<init>", "()V"⟩
abbrev cX8_isFound : ByteArray := prog_10_method_2_code
def yX8_isFound : MethodName := ⟨RX8, "isFound", "()Z"⟩
abbrev cX8_streets : ByteArray := prog_10_method_3_code
def yX8_streets : MethodName := ⟨RX8, "streets", "()I"⟩
abbrev cX8_stopAt : ByteArray := prog_10_method_4_code
def yX8_stopAt : MethodName := ⟨RX8, "stopAt", "(I)I"⟩
abbrev cX8_find : ByteArray := prog_10_method_5_code
def yX8_find : MethodName := ⟨RX8, "find", "(LTwoSurveys$Survey;II)V"⟩
abbrev cX8_commonName : ByteArray := prog_10_method_6_code
def yX8_commonName : MethodName := ⟨RX8, "commonName", "(LTwoSurveys$Survey;)I"⟩
abbrev cX8_findOne : ByteArray := prog_10_method_7_code
def yX8_findOne : MethodName := ⟨RX8, "findOne", "(LTwoSurveys$Survey;II)Z"⟩
abbrev cX8_findTwo : ByteArray := prog_10_method_8_code
def yX8_findTwo : MethodName := ⟨RX8, "findTwo", "(LTwoSurveys$Survey;II)Z"⟩
def RX9 : String := "TwoSurveys"
def TX9 : u_T := fun k => match k with
  | 0 => ("TwoSurveys", "text", "LTwoSurveys$Text;", true)
  | 1 => ("TwoSurveys", "reader", "LTwoSurveys$Reader;", true)
  | 2 => ("TwoSurveys", "now", "LTwoSurveys$Towns;", true)
  | 3 => ("TwoSurveys", "draft", "LTwoSurveys$Towns;", true)
  | 4 => ("TwoSurveys", "acts", "LTwoSurveys$Pile;", true)
  | 5 => ("TwoSurveys", "kept", "LTwoSurveys$Pile;", true)
  | 6 => ("TwoSurveys", "shelves", "LTwoSurveys$Shelves;", true)
  | 7 => ("TwoSurveys", "matching", "LTwoSurveys$Matching;", true)
  | 8 => ("TwoSurveys", "way", "LTwoSurveys$Way;", true)
  | _ => ("TwoSurveys", "transfer", "LTwoSurveys$Transfer;", true)
def tyX9 : Nat → FieldType := fun k => match k with
  | 0 => .object "TwoSurveys$Text"
  | 1 => .object "TwoSurveys$Reader"
  | 2 => .object "TwoSurveys$Towns"
  | 3 => .object "TwoSurveys$Towns"
  | 4 => .object "TwoSurveys$Pile"
  | 5 => .object "TwoSurveys$Pile"
  | 6 => .object "TwoSurveys$Shelves"
  | 7 => .object "TwoSurveys$Matching"
  | 8 => .object "TwoSurveys$Way"
  | _ => .object "TwoSurveys$Transfer"
abbrev wsX90 : List Cond := u_ws RX9 TX9 10
theorem nmX9 : ∀ a, a < 10 → ∀ b, b < 10 → a ≠ b → (TX9 a).2.1 ≠ (TX9 b).2.1 := by decide +kernel
theorem tyX9_ok : ∀ k, k < 10 → parseFieldDescriptor (TX9 k).2.2.1 = some (tyX9 k) := by decide +kernel
abbrev cX9_init : ByteArray := prog_1_method_1_code
def yX9_init : MethodName := ⟨RX9, "<init>", "()V"⟩
abbrev cX9_write : ByteArray := prog_1_method_2_code
def yX9_write : MethodName := ⟨RX9, "write", "(I)I"⟩
abbrev cX9_wipe : ByteArray := prog_1_method_3_code
def yX9_wipe : MethodName := ⟨RX9, "wipe", "()I"⟩
abbrev cX9_fault : ByteArray := prog_1_method_4_code
def yX9_fault : MethodName := ⟨RX9, "fault", "()I"⟩
abbrev cX9_lay : ByteArray := prog_1_method_5_code
def yX9_lay : MethodName := ⟨RX9, "lay", "()I"⟩
abbrev cX9_meeting : ByteArray := prog_1_method_6_code
def yX9_meeting : MethodName := ⟨RX9, "meeting", "(III)I"⟩
abbrev cX9_street : ByteArray := prog_1_method_7_code
def yX9_street : MethodName := ⟨RX9, "street", "(III)I"⟩
abbrev cX9_move : ByteArray := prog_1_method_8_code
def yX9_move : MethodName := ⟨RX9, "move", "(IIII)I"⟩
abbrev cX9_rename : ByteArray := prog_1_method_9_code
def yX9_rename : MethodName := ⟨RX9, "rename", "(III)I"⟩
abbrev cX9_name : ByteArray := prog_1_method_10_code
def yX9_name : MethodName := ⟨RX9, "name", "(III)I"⟩
abbrev cX9_join : ByteArray := prog_1_method_11_code
def yX9_join : MethodName := ⟨RX9, "join", "(IIII)I"⟩
abbrev cX9_cut : ByteArray := prog_1_method_12_code
def yX9_cut : MethodName := ⟨RX9, "cut", "(II)I"⟩
abbrev cX9_tune : ByteArray := prog_1_method_13_code
def yX9_tune : MethodName := ⟨RX9, "tune", "(II)I"⟩
abbrev cX9_undo : ByteArray := prog_1_method_14_code
def yX9_undo : MethodName := ⟨RX9, "undo", "()I"⟩
abbrev cX9_belief : ByteArray := prog_1_method_15_code
def yX9_belief : MethodName := ⟨RX9, "belief", "(II)I"⟩
abbrev cX9_match : ByteArray := prog_1_method_16_code
def yX9_match : MethodName := ⟨RX9, "match", "(II)I"⟩
abbrev cX9_told : ByteArray := prog_1_method_17_code
def yX9_told : MethodName := ⟨RX9, "told", "(II)I"⟩
abbrev cX9_named : ByteArray := prog_1_method_18_code
def yX9_named : MethodName := ⟨RX9, "named", "(I)I"⟩
abbrev cX9_comes : ByteArray := prog_1_method_19_code
def yX9_comes : MethodName := ⟨RX9, "comes", "(II)I"⟩
abbrev cX9_whole : ByteArray := prog_1_method_20_code
def yX9_whole : MethodName := ⟨RX9, "whole", "(I)I"⟩
abbrev cX9_shelve : ByteArray := prog_1_method_21_code
def yX9_shelve : MethodName := ⟨RX9, "shelve", "(III)I"⟩
abbrev cX9_shelf : ByteArray := prog_1_method_22_code
def yX9_shelf : MethodName := ⟨RX9, "shelf", "(II)I"⟩
abbrev cX9_keep : ByteArray := prog_1_method_24_code
def yX9_keep : MethodName := ⟨RX9, "keep", "()I"⟩
abbrev cX9_back : ByteArray := prog_1_method_25_code
def yX9_back : MethodName := ⟨RX9, "back", "()I"⟩
abbrev cX9_count : ByteArray := prog_1_method_26_code
def yX9_count : MethodName := ⟨RX9, "count", "(I)I"⟩
abbrev cX9_startTowns : ByteArray := prog_1_method_27_code
def yX9_startTowns : MethodName := ⟨RX9, "startTowns", "()LTwoSurveys$Towns;"⟩
abbrev cX9_isWithin : ByteArray := prog_1_method_28_code
def yX9_isWithin : MethodName := ⟨RX9, "isWithin", "(III)Z"⟩
abbrev cX9_isRadius : ByteArray := prog_1_method_29_code
def yX9_isRadius : MethodName := ⟨RX9, "isRadius", "(I)Z"⟩
abbrev cX9_isRounds : ByteArray := prog_1_method_30_code
def yX9_isRounds : MethodName := ⟨RX9, "isRounds", "(I)Z"⟩
abbrev cX9_hasMeeting : ByteArray := prog_1_method_31_code
def yX9_hasMeeting : MethodName := ⟨RX9, "hasMeeting", "(II)Z"⟩
abbrev cX9_hasStreet : ByteArray := prog_1_method_32_code
def yX9_hasStreet : MethodName := ⟨RX9, "hasStreet", "(II)Z"⟩
abbrev cX9_hasThing : ByteArray := prog_1_method_33_code
def yX9_hasThing : MethodName := ⟨RX9, "hasThing", "(I)Z"⟩
abbrev cX9_express : ByteArray := prog_1_method_34_code
def yX9_express : MethodName := ⟨RX9, "express", "(LTwoSurveys$Towns;I)V"⟩
abbrev cX9_numberOfWhole : ByteArray := prog_1_method_35_code
def yX9_numberOfWhole : MethodName := ⟨RX9, "numberOfWhole", "(LTwoSurveys$Towns;I)I"⟩
abbrev cX9_expressedStreets : ByteArray := prog_1_method_36_code
def yX9_expressedStreets : MethodName := ⟨RX9, "expressedStreets", "(LTwoSurveys$Towns;)I"⟩
def RX10 : String := "TwoSurveysModel"
def TX10 : u_T := fun k => match k with
  | _ => ("", "", "", false)
def tyX10 : Nat → FieldType := fun k => match k with
  | _ => .int
abbrev wsX100 : List Cond := u_ws RX10 TX10 0
theorem nmX10 : ∀ a, a < 0 → ∀ b, b < 0 → a ≠ b → (TX10 a).2.1 ≠ (TX10 b).2.1 := by decide +kernel
theorem tyX10_ok : ∀ k, k < 0 → parseFieldDescriptor (TX10 k).2.2.1 = some (tyX10 k) := by decide +kernel
def RJ9 : String := "java/lang/Math"
def TJ9 : u_T := fun k => match k with
  | _ => ("", "", "", false)
def tyJ9 : Nat → FieldType := fun k => match k with
  | _ => .int
abbrev wsJ90 : List Cond := u_ws RJ9 TJ9 0
theorem nmJ9 : ∀ a, a < 0 → ∀ b, b < 0 → a ≠ b → (TJ9 a).2.1 ≠ (TJ9 b).2.1 := by decide +kernel
theorem tyJ9_ok : ∀ k, k < 0 → parseFieldDescriptor (TJ9 k).2.2.1 = some (tyJ9 k) := by decide +kernel
abbrev cJ9_abs_0f7a4 : ByteArray := prog_13_method_59_code
def yJ9_abs_0f7a4 : MethodName := ⟨RJ9, "abs", "(I)I"⟩
abbrev cJ9_max_7cf53 : ByteArray := prog_13_method_65_code
def yJ9_max_7cf53 : MethodName := ⟨RJ9, "max", "(II)I"⟩
abbrev cJ9_min_7cf53 : ByteArray := prog_13_method_69_code
def yJ9_min_7cf53 : MethodName := ⟨RJ9, "min", "(II)I"⟩
def RJ0 : String := "java/lang/String"
def TJ0 : u_T := fun k => match k with
  | _ => ("", "", "", false)
def tyJ0 : Nat → FieldType := fun k => match k with
  | _ => .int
abbrev wsJ00 : List Cond := u_ws RJ0 TJ0 0
theorem nmJ0 : ∀ a, a < 0 → ∀ b, b < 0 → a ≠ b → (TJ0 a).2.1 ≠ (TJ0 b).2.1 := by decide +kernel
theorem tyJ0_ok : ∀ k, k < 0 → parseFieldDescriptor (TJ0 k).2.2.1 = some (tyJ0 k) := by decide +kernel
abbrev cJ0_length_8abf5 : ByteArray := prog_14_method_54_code
def yJ0_length_8abf5 : MethodName := ⟨RJ0, "length", "()I"⟩
abbrev cJ0_charAt_5068e : ByteArray := prog_14_method_56_code
def yJ0_charAt_5068e : MethodName := ⟨RJ0, "charAt", "(I)C"⟩
abbrev cJ0_coder_7d493 : ByteArray := prog_14_method_152_code
def yJ0_coder_7d493 : MethodName := ⟨RJ0, "coder", "()B"⟩
abbrev cJ0_isLatin1_aae02 : ByteArray := prog_14_method_154_code
def yJ0_isLatin1_aae02 : MethodName := ⟨RJ0, "isLatin1", "()Z"⟩
abbrev cJ0_checkIndex_df160 : ByteArray := prog_14_method_155_code
def yJ0_checkIndex_df160 : MethodName := ⟨RJ0, "checkIndex", "(II)V"⟩
def RJ1 : String := "java/lang/StringLatin1"
def TJ1 : u_T := fun k => match k with
  | _ => ("", "", "", false)
def tyJ1 : Nat → FieldType := fun k => match k with
  | _ => .int
abbrev wsJ10 : List Cond := u_ws RJ1 TJ1 0
theorem nmJ1 : ∀ a, a < 0 → ∀ b, b < 0 → a ≠ b → (TJ1 a).2.1 ≠ (TJ1 b).2.1 := by decide +kernel
theorem tyJ1_ok : ∀ k, k < 0 → parseFieldDescriptor (TJ1 k).2.2.1 = some (tyJ1 k) := by decide +kernel
abbrev cJ1_charAt_3b067 : ByteArray := prog_15_method_2_code
def yJ1_charAt_3b067 : MethodName := ⟨RJ1, "charAt", "([BI)C"⟩
def RJ2 : String := "java/lang/StringUTF16"
def TJ2 : u_T := fun k => match k with
  | _ => ("", "", "", false)
def tyJ2 : Nat → FieldType := fun k => match k with
  | _ => .int
abbrev wsJ20 : List Cond := u_ws RJ2 TJ2 0
theorem nmJ2 : ∀ a, a < 0 → ∀ b, b < 0 → a ≠ b → (TJ2 a).2.1 ≠ (TJ2 b).2.1 := by decide +kernel
theorem tyJ2_ok : ∀ k, k < 0 → parseFieldDescriptor (TJ2 k).2.2.1 = some (tyJ2 k) := by decide +kernel
abbrev cJ2_getChar_3b067 : ByteArray := prog_16_method_5_code
def yJ2_getChar_3b067 : MethodName := ⟨RJ2, "getChar", "([BI)C"⟩
abbrev cJ2_length_9d52b : ByteArray := prog_16_method_6_code
def yJ2_length_9d52b : MethodName := ⟨RJ2, "length", "([B)I"⟩
abbrev cJ2_charAt_3b067 : ByteArray := prog_16_method_83_code
def yJ2_charAt_3b067 : MethodName := ⟨RJ2, "charAt", "([BI)C"⟩
abbrev cJ2_checkIndex_2214a : ByteArray := prog_16_method_91_code
def yJ2_checkIndex_2214a : MethodName := ⟨RJ2, "checkIndex", "(I[B)V"⟩
def RJ10 : String := "java/lang/System"
def TJ10 : u_T := fun k => match k with
  | _ => ("", "", "", false)
def tyJ10 : Nat → FieldType := fun k => match k with
  | _ => .int
abbrev wsJ100 : List Cond := u_ws RJ10 TJ10 0
theorem nmJ10 : ∀ a, a < 0 → ∀ b, b < 0 → a ≠ b → (TJ10 a).2.1 ≠ (TJ10 b).2.1 := by decide +kernel
theorem tyJ10_ok : ∀ k, k < 0 → parseFieldDescriptor (TJ10 k).2.2.1 = some (tyJ10 k) := by decide +kernel
def RJ3 : String := "jdk/internal/util/Preconditions"
def TJ3 : u_T := fun k => match k with
  | _ => ("", "", "", false)
def tyJ3 : Nat → FieldType := fun k => match k with
  | _ => .int
abbrev wsJ30 : List Cond := u_ws RJ3 TJ3 0
theorem nmJ3 : ∀ a, a < 0 → ∀ b, b < 0 → a ≠ b → (TJ3 a).2.1 ≠ (TJ3 b).2.1 := by decide +kernel
theorem tyJ3_ok : ∀ k, k < 0 → parseFieldDescriptor (TJ3 k).2.2.1 = some (tyJ3 k) := by decide +kernel
abbrev cJ3_checkIndex_8e157 : ByteArray := prog_18_method_11_code
def yJ3_checkIndex_8e157 : MethodName := ⟨RJ3, "checkIndex", "(IILjava/util/function/BiFunction;)I"⟩
def RL : String := "TwoSurveysLaw"
abbrev cL_low : ByteArray := method_2_code
def yL_low : MethodName := ⟨RL, "low", "(II)I"⟩
abbrev cL_cell : ByteArray := method_3_code
def yL_cell : MethodName := ⟨RL, "cell", "([II)I"⟩
abbrev cL_two : ByteArray := method_4_code
def yL_two : MethodName := ⟨RL, "two", "(LTwoSurveys;II)V"⟩
abbrev cL_item : ByteArray := method_5_code
def yL_item : MethodName := ⟨RL, "item", "(LTwoSurveys;IIII)V"⟩
abbrev cL_street : ByteArray := method_6_code
def yL_street : MethodName := ⟨RL, "street", "([IIII)I"⟩
abbrev cL_surveys : ByteArray := method_7_code
def yL_surveys : MethodName := ⟨RL, "surveys", "(LTwoSurveys;[I[I[I)Z"⟩
abbrev cL_alike : ByteArray := method_8_code
def yL_alike : MethodName := ⟨RL, "alike", "(LTwoSurveys;[I[I)Z"⟩
abbrev cL_acts : ByteArray := method_9_code
def yL_acts : MethodName := ⟨RL, "acts", "([I[II)I"⟩
abbrev cL_told : ByteArray := method_10_code
def yL_told : MethodName := ⟨RL, "told", "(LTwoSurveys;I)I"⟩
abbrev cL_some : ByteArray := method_11_code
def yL_some : MethodName := ⟨RL, "some", "(LTwoSurveys;[III[I[I)Z"⟩
abbrev cL_distance : ByteArray := method_13_code
def yL_distance : MethodName := ⟨RL, "distance", "([III)I"⟩
abbrev cL_law : ByteArray := code
def yL_law : MethodName := ⟨RL, "law", "([I)Z"⟩
abbrev vwCl : List vw_C := [(RX0, TX0, 7), (RX1, TX1, 2), (RX2, TX2, 2), (RX3, TX3, 1), (RX4, TX4, 8), (RX5, TX5, 2), (RX6, TX6, 4), (RX7, TX7, 6), (RX8, TX8, 2), (RX9, TX9, 10)]
