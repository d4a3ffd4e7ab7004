/-! ===== what the law starts from: the classes, the arrays, the text ===== -/
theorem arr_of {s : State} {ty : FieldType} {args : Array Value} (h : (Cond.arrayClass ty).before args s = true) (hn : ∀ C, ty ≠ .object C) : ∃ cA, ArrOfT s cA ty ∧ va_RA s cA ty := by
  obtain ⟨c, k, comp, h1, h2, h3⟩ := Cond.arrayClass_spec h
  refine ⟨c, fun n z => ⟨fun k h => (by cases h), k, h2, comp, h3⟩, ?_⟩
  cases ty with
  | object C => exact absurd rfl (hn C)
  | _ => exact h1
theorem arr_ov {s : State} {ty : FieldType} {args : Array Value} (h : (Cond.arrayOver (.array ty)).before args s = true) : ∃ cA, ArrOfT s cA (.array ty) ∧ va_RA s cA (.array ty) := by
  obtain ⟨comp, c, k, g1, g2, g3, g4, g5⟩ := arrayOverA_spec h
  exact ⟨c, fun n z => ⟨fun k h => (by cases h), k, g3, comp, g4⟩, g5⟩
theorem arr_ob {s : State} {C : String} {args : Array Value} (h : (Cond.arrayOver (.object C)).before args s = true) : ∃ cA, ArrOfT s cA (.object C) ∧ va_RA s cA (.object C) := by
  obtain ⟨comp, c, k, h1, h2, h3, h4, h5⟩ := Cond.arrayOver_spec h
  exact ⟨c, fun n z => ⟨fun k h => (by cases h), k, h3, comp, h4⟩, k, comp, h3, h4, h1, h5⟩
theorem nw_tbl : ∀ q ∈ nwL, Cond.methodLinkNest q.1 q.2.1 q.2.2.1 q.2.2.2 ∈ lw_tbl := by decide +kernel
theorem vk_S_one {adK adV : Nat → Nat} {A : Nat → Prop} {U : State} {H : Heap} (h : vk_S 1 [190] [stB] adK adV A U H) : vk_S 1 [190] [stB] (fun _ => adK 0) (fun _ => adV 0) A U H :=
  ⟨fun i hi => by
    obtain rfl : i = 0 := by omega
    exact h.1 0 hi, fun i j hi hj _ => by omega⟩
abbrev stS : Term := .string "TwoSurveys" 264
abbrev stF : Term := .field stS "java/lang/String" "value" "[B"
theorem fl_el : ∀ j, j < 190 → (flatC (Jvm.Cond.and given_1 narrow_1))[13 + j]? = some (Cond.eq (.elem stF (.int (Int32.ofNat j))) (.int (stB.getD j 0))) := by decide +kernel
theorem st_env {s : State} {b : Nat} (l : Launch) (hts : ∀ w ∈ lw_tbl, w.before #[Value.ref b] s = true) (hgv : (Jvm.Cond.and given_1 narrow_1).before #[Value.ref b] s = true) : ∃ (E : GE) (q : Nat × Nat), E.1 = l ∧ EV E s ∧ EX q (fun q => s.heap.size ≤ q) s := by
  obtain ⟨cX0, iX0, kX0⟩ := u_known (C := RX0) (T := TX0) (N := 7) (n := 7) hts (fun w h => tt_lw (inT_X0 w h)) (hts _ (List.mem_of_getElem? (i := 159) (by decide +kernel)))
  obtain ⟨cX1, iX1, kX1⟩ := u_known (C := RX1) (T := TX1) (N := 2) (n := 2) hts (fun w h => tt_lw (inT_X1 w h)) (hts _ (List.mem_of_getElem? (i := 126) (by decide +kernel)))
  obtain ⟨cX2, iX2, kX2⟩ := u_known (C := RX2) (T := TX2) (N := 2) (n := 2) hts (fun w h => tt_lw (inT_X2 w h)) (hts _ (List.mem_of_getElem? (i := 62) (by decide +kernel)))
  obtain ⟨cX3, iX3, kX3⟩ := u_known (C := RX3) (T := TX3) (N := 1) (n := 1) hts (fun w h => tt_lw (inT_X3 w h)) (hts _ (List.mem_of_getElem? (i := 145) (by decide +kernel)))
  obtain ⟨cX4, iX4, kX4⟩ := u_known (C := RX4) (T := TX4) (N := 8) (n := 8) hts (fun w h => tt_lw (inT_X4 w h)) (hts _ (List.mem_of_getElem? (i := 82) (by decide +kernel)))
  obtain ⟨cX5, iX5, kX5⟩ := u_known (C := RX5) (T := TX5) (N := 2) (n := 2) hts (fun w h => tt_lw (inT_X5 w h)) (hts _ (List.mem_of_getElem? (i := 48) (by decide +kernel)))
  obtain ⟨cX6, iX6, kX6⟩ := u_known (C := RX6) (T := TX6) (N := 4) (n := 4) hts (fun w h => tt_lw (inT_X6 w h)) (hts _ (List.mem_of_getElem? (i := 76) (by decide +kernel)))
  obtain ⟨cX7, iX7, kX7⟩ := u_known (C := RX7) (T := TX7) (N := 6) (n := 6) hts (fun w h => tt_lw (inT_X7 w h)) (hts _ (List.mem_of_getElem? (i := 202) (by decide +kernel)))
  obtain ⟨cX8, iX8, kX8⟩ := u_known (C := RX8) (T := TX8) (N := 2) (n := 2) hts (fun w h => tt_lw (inT_X8 w h)) (hts _ (List.mem_of_getElem? (i := 189) (by decide +kernel)))
  obtain ⟨cX9, iX9, kX9⟩ := u_known (C := RX9) (T := TX9) (N := 10) (n := 10) hts (fun w h => tt_lw (inT_X9 w h)) (hts _ (List.mem_of_getElem? (i := 40) (by decide +kernel)))
  obtain ⟨dC, dI, hKc⟩ : ∃ (dC : Nat → ClassId) (dI : Nat → Nat → Nat), ∀ (k : Nat) (q : vw_C), vwCl[k]? = some q → u_Kn s q.1 q.2.1 q.2.2 (dC k) (dI k) := by
    refine ⟨fun k => if k = 0 then cX0 else if k = 1 then cX1 else if k = 2 then cX2 else if k = 3 then cX3 else if k = 4 then cX4 else if k = 5 then cX5 else if k = 6 then cX6 else if k = 7 then cX7 else if k = 8 then cX8 else cX9, fun k => if k = 0 then iX0 else if k = 1 then iX1 else if k = 2 then iX2 else if k = 3 then iX3 else if k = 4 then iX4 else if k = 5 then iX5 else if k = 6 then iX6 else if k = 7 then iX7 else if k = 8 then iX8 else iX9, ?_⟩
    intro k q hq
    match k, hq with
    | 0, hq => cases hq; exact kX0
    | 1, hq => cases hq; exact kX1
    | 2, hq => cases hq; exact kX2
    | 3, hq => cases hq; exact kX3
    | 4, hq => cases hq; exact kX4
    | 5, hq => cases hq; exact kX5
    | 6, hq => cases hq; exact kX6
    | 7, hq => cases hq; exact kX7
    | 8, hq => cases hq; exact kX8
    | 9, hq => cases hq; exact kX9
    | k + 10, hq => simp [vwCl] at hq
  have oT := hts (.arrayOver (.object "TwoSurveys$Towns")) (List.mem_of_getElem? (i := 135) (by decide +kernel))
  have oI := hts (.arrayOver (.array .int)) (List.mem_of_getElem? (i := 165) (by decide +kernel))
  obtain ⟨z0, a0, r0⟩ := arr_of (ty := .int) (hts _ (List.mem_of_getElem? (i := 74) (by decide +kernel))) (fun _ h => by cases h)
  obtain ⟨z1, a1, r1⟩ := arr_of (ty := .char) (hts _ (List.mem_of_getElem? (i := 60) (by decide +kernel))) (fun _ h => by cases h)
  obtain ⟨z2, a2, r2⟩ := arr_ov oI
  obtain ⟨z3, a3, r3⟩ := arr_ob oT
  have hs := flat_of_before _ hgv
  have hA : ∀ a : Nat, a < s.heap.size → ¬ (fun q => s.heap.size ≤ q) a := fun a h => Nat.not_le.mpr h
  obtain ⟨adK, adV, hS, hev⟩ := vk_Sof (args := #[Value.ref b]) (s := s) (N := 1) (tm := fun _ => stS) (len := [190]) (byt := [stB]) (A := fun q => s.heap.size ≤ q) (fun i hi => by obtain rfl : i = 0 := (by omega); decide)
    (fun i hi => hs _ (List.mem_of_getElem? (i := 9) (by decide +kernel))) (fun i hi => hs _ (List.mem_of_getElem? (i := 10) (by decide +kernel))) (fun i hi => hs _ (List.mem_of_getElem? (i := 11) (by decide +kernel)))
    (fun i hi => by obtain rfl : i = 0 := (by omega); exact hs _ (List.mem_of_getElem? (i := 12) (by decide +kernel))) (fun i hi j hj => by obtain rfl : i = 0 := (by omega); exact hs _ (List.mem_of_getElem? (i := 13 + j) (fl_el j hj)))
    (fun i j hi hj hne => absurd (show i = j by omega) hne) hA
  have hR : vk_R "TwoSurveys" 264 stT (adK 0) s := vk_R.of (hts _ (List.mem_of_getElem? (i := 229) (by decide +kernel))) (hev 0 (by decide))
  have hZ : va_Z "java/lang/String" "COMPACT_STRINGS" "Z" (.int 1) (fun q => s.heap.size ≤ q) s s.heap := va_Zof (hts _ (List.mem_of_getElem? (i := 239) (by decide +kernel))) (hts _ (List.mem_of_getElem? (i := 34) (by decide +kernel))) (va_eqt (hs _ (List.mem_of_getElem? (i := 4) (by decide +kernel)))) hA
  have hQ : va_Zq "jdk/internal/util/Preconditions" "SIOOBE_FORMATTER" "Ljava/util/function/BiFunction;" (fun q => s.heap.size ≤ q) s s.heap := va_Zqof (hts _ (List.mem_of_getElem? (i := 255) (by decide +kernel))) (hts _ (List.mem_of_getElem? (i := 36) (by decide +kernel))) (hs _ (List.mem_of_getElem? (i := 5) (by decide +kernel))) hA
  refine ⟨(l, (dC, dI), fun k => if k = 0 then z0 else if k = 1 then z1 else if k = 2 then z2 else z3), (adK 0, adV 0), rfl, ⟨⟨hKc, ?_⟩, fun q hq => va_Nw.of rfl (hts _ (nw_tbl q hq))⟩, oT, oI, vk_S_one hS, hR, hZ, hQ⟩
  intro k q hq
  match k, hq with
  | 0, hq => cases hq; exact ⟨a0, r0⟩
  | 1, hq => cases hq; exact ⟨a1, r1⟩
  | 2, hq => cases hq; exact ⟨a2, r2⟩
  | 3, hq => cases hq; exact ⟨a3, r3⟩
  | k + 4, hq => simp [tysA] at hq
