/-! ===== the layer for methods that make cells: their contracts, a row an instruction ===== -/
def aa_ov (t : FieldType) (U : State) : Prop := (Cond.arrayOver (.array t)).before #[] U = true
theorem aa_ov.moved {t : FieldType} {u U : State} (hvm : u.vm.Alike U.vm) (h : aa_ov t u) : aa_ov t U := by
  obtain ⟨comp, c, k, g1, g2, g3, g4, g5⟩ := arrayOverA_spec h
  obtain ⟨k1, hk1, e1⟩ := hvm.2.2 _ _ g3
  have e2 : (U.vm.classes.findIdx? fun (x : Class) => match x.kind with | .array component _ => component == comp | _ => false) = some c := by
    rw [hvm.findIdx?_eq _ (fun _ => rfl)]
    exact g2
  have e3 : k1.kind = .array comp (.array t) := by rw [e1]; exact g4
  have e4 : U.vm.findClass (FieldType.array t).toString = some comp := by rw [hvm.findClass]; exact g1
  have e5 : U.vm.findClass ("[" ++ (FieldType.array t).toString) = some c := by rw [hvm.findClass]; exact g5
  unfold aa_ov Cond.before Cond.holds
  simp only [Cond.value]
  rw [e4, Option.bind_some]
  refine (congrArg (fun o : Option Nat => (o.bind (fun c => (U.vm.classes[c]?).map fun (k : Class) => match k.kind with | .array _ ty => decide (ty = FieldType.array t) && decide (U.vm.findClass ("[" ++ (FieldType.array t).toString) = some c) | _ => false) == some true)) e2).trans ?_
  simp [hk1, e3, e5]
/-- the one text of the class: its signs -/
def stB : List Int32 := [114, 49, 50, 59, 110, 50, 59, 97, 48, 44, 53, 44, 53, 59, 97, 48, 44, 50, 48, 44, 54, 59, 97, 48, 44, 51, 52, 44, 56, 59, 97, 49, 44, 54, 44, 50, 52, 59, 97, 48, 44, 50, 49, 44, 50, 53, 59, 97, 50, 44, 52, 48, 44, 50, 54, 59, 98, 48, 44, 56, 44, 55, 59, 98, 48, 44, 50, 50, 44, 53, 59, 98, 48, 44, 51, 51, 44, 49, 49, 59, 98, 48, 44, 57, 44, 50, 56, 59, 98, 48, 44, 50, 52, 44, 50, 55, 59, 98, 48, 44, 51, 48, 44, 49, 56, 59, 115, 48, 44, 49, 44, 51, 59, 115, 49, 44, 50, 44, 48, 59, 115, 48, 44, 51, 44, 52, 59, 115, 49, 44, 52, 44, 48, 59, 115, 51, 44, 52, 44, 53, 59, 115, 52, 44, 53, 44, 48, 59, 116, 48, 44, 49, 44, 51, 59, 116, 49, 44, 50, 44, 54, 59, 116, 48, 44, 51, 44, 52, 59, 116, 49, 44, 53, 44, 55, 59, 116, 53, 44, 52, 44, 55, 59, 116, 51, 44, 52, 44, 53, 59]
def stT : String := "r12;n2;a0,5,5;a0,20,6;a0,34,8;a1,6,24;a0,21,25;a2,40,26;b0,8,7;b0,22,5;b0,33,11;b0,9,28;b0,24,27;b0,30,18;s0,1,3;s1,2,0;s0,3,4;s1,4,0;s3,4,5;s4,5,0;t0,1,3;t1,2,6;t0,3,4;t1,5,7;t5,4,7;t3,4,5;"
/-- the text lies at q, outside of A -/
def SX (q : Nat × Nat) (A : Nat → Prop) (U : State) : Prop := vk_S 1 [190] [stB] (fun _ => q.1) (fun _ => q.2) A U U.heap ∧ vk_R "TwoSurveys" 264 stT q.1 U ∧ va_Z "java/lang/String" "COMPACT_STRINGS" "Z" (.int 1) A U U.heap ∧ va_Zq "jdk/internal/util/Preconditions" "SIOOBE_FORMATTER" "Ljava/util/function/BiFunction;" A U U.heap
/-- what the methods that make cells need beside the words of the tables -/
def EX (q : Nat × Nat) (A : Nat → Prop) (U : State) : Prop := va_AO "TwoSurveys$Towns" U ∧ aa_ov .int U ∧ SX q A U
theorem EX.blind {q : Nat × Nat} {A : Nat → Prop} {U : State} (g : JFrame) (mk : MethodId) (a : Array Value) (h : EX q A U) : EX q A (U.calling g mk a) := by
  obtain ⟨h1, h2, h3, h4, h5, h6⟩ := h
  have hal : U.vm.Alike (U.calling g mk a).vm := Vm.Alike.refl U.vm
  exact ⟨va_AO.moved hal h1, aa_ov.moved hal h2, vk_S.moved hal h3, vk_R.same rfl h4, va_Z.moved hal h5, va_Zq.moved hal h6⟩
theorem EX.go {q : Nat × Nat} {A A' : Nat → Prop} {s U : State} (hW : s.WarmedH U.vm) (hk : ∀ a : Nat, a < s.heap.size → ¬ A a → U.heap[a]? = s.heap[a]?) (hA : ∀ a, A' a → A a) (h : EX q A s) : EX q A' U := by
  obtain ⟨h1, h2, h3, h4, h5, h6⟩ := h
  have hal := hW.alike
  exact ⟨va_AO.moved hal h1, aa_ov.moved hal h2, ((vk_S.moved hal h3).kept hk).narrow hA, vk_R.warm hW h4, ((va_Z.moved hal h5).kept hk).narrow hA, ((va_Zq.moved hal h6).kept hk).narrow hA⟩
/-- what a method that makes cells gives back: the answer, the world: as R says -/
def CNq (E : GE) (R : Option Value → va_W → Prop) (A : Nat → Prop) : Array Value → State → Outcome → State → Prop := fun _ st oc t => (∃ (v : Option Value) (w' : va_W), oc = .returned v ∧ R v w' ∧ va_P E.2.1 vwCl w' t.heap ∧ va_D A w') ∧ va_F A st t
def CN (E : GE) (q : Nat × Nat) (μ : MD) (av : List Value) (w : va_W) (R : Option Value → va_W → Prop) : Prop :=
  ∀ sz : Nat, Met E.1 μ.1 (.code μ.1 μ.2.1 μ.2.2.1 μ.2.2.2.1 :: TT) μ.2.2.2.2 (va_Pc av (fun U => CTp E w sz U ∧ EX q (va_A w sz) U)) (CNq E R (va_A w sz)) μ.2.2.2.2.cells μ.2.2.2.2.slots (va_A w sz)
def RN (E : GE) (μ : MD) (Γ : GC) (R : Option Value → va_W → Prop) : Prop :=
  Γ.2.2.2.2.2.2.2.2.2 = MQ Γ.2.2.2.2.2.1 (CNq E R Γ.2.2.2.2.2.2.2.2.1) Γ.2.2.2.2.1 Γ.2.2.1 μ.2.2.2.2.cells μ.2.2.2.2.slots Γ.2.2.2.2.2.2.2.2.1
theorem CN.intro {E : GE} {q : Nat × Nat} {μ : MD} {av : List Value} {w : va_W} {R : Option Value → va_W → Prop} (hy : plainName μ.1.cls = true) (hlen : (lg_sl av).length ≤ μ.2.2.1)
    (body : ∀ Γ : GC, CX E μ Γ → EX q Γ.2.2.2.2.2.2.2.2.1 Γ.2.2.1 → RN E μ Γ R → GG E μ Γ 0 0 w (lv_args 0 av) 0 []) : CN E q μ av w R := by
  intro sz
  refine Met.ofW (cc := μ.2.1) (maxL := μ.2.2.1) (ret := μ.2.2.2.1) hy rfl ?_
  intro p e s m args below meth c s₁ B hml hv
  obtain ⟨rfl, ⟨hsz, hP, hK, hD0⟩, hE⟩ := hv
  subst hsz
  have hts := atoms_spec (ws := Cond.code μ.1 μ.2.1 μ.2.2.1 μ.2.2.2.1 :: TT) B.pre
  rw [lg_entry_eq]
  exact body (p, e, s, m, av.toArray, below, meth, c, va_A w s.heap.size, MQ below (CNq E R (va_A w s.heap.size)) av.toArray s μ.2.2.2.2.cells μ.2.2.2.2.slots (va_A w s.heap.size))
    ⟨⟨B.exec, B.bytes, hml, findClass_of_methodNamed B.named, fun w hw => hts w (List.mem_cons_of_mem _ hw)⟩, hK, fun q h => Or.inr h, B.returns, B.notSynchronized, (name_of_methodNamed B.named B.method).1⟩ hE rfl
    s.heap [] _ hP hD0.self va_S.rf (lv_entry av hlen)
theorem CNp.blind {E : GE} {q : Nat × Nat} {w : va_W} {sz : Nat} {av : List Value} : FrameBlind (va_Pc av (fun U => CTp E w sz U ∧ EX q (va_A w sz) U)) := fun a U g mk h => ⟨h.1, ⟨h.2.1.1, h.2.1.2.1, EV.blind g mk a h.2.1.2.2.1, h.2.1.2.2.2⟩, EX.blind g mk a h.2.2⟩
/-- behind a call that made cells -/
theorem va_after2 {A0 : Nat → Prop} {D : va_G} {cl : List vw_C} {wc wr w1 : va_W} {H H1 : Heap} (hP : va_P D cl (wc ++ wr) H) (hD : va_D A0 (wc ++ wr))
    (hk : ∀ q : Nat, q < H.size → ¬ va_A wc H.size q → H1[q]? = H[q]?) (hF : ∀ q, va_A wc H.size q → A0 q) (hP1 : va_P D cl w1 H1) (hD1 : va_D (va_A wc H.size) w1) : va_P D cl (wr ++ w1) H1 ∧ va_D A0 (wr ++ w1) := by
  have hd := va_D_iff.mp hD
  rw [List.map_append] at hd
  have hd1 := va_D_iff.mp hD1
  have hn : ∀ q ∈ wr, ¬ va_A wc H.size q.1 := fun q hq hA => by
    have h0 := va_P_iff.mp hP q (List.mem_append_right _ hq)
    rcases hA with ⟨j, e, h3⟩ | h3
    · exact (List.nodup_append.mp hd.1).2.2 q.1 (List.mem_map.mpr ⟨_, List.mem_of_getElem? h3, rfl⟩) q.1 (List.mem_map.mpr ⟨q, hq, rfl⟩) rfl
    · have := h0.lt
      omega
  refine ⟨va_P_iff.mpr (fun q hq => ?_), va_D_iff.mpr ⟨?_, fun q hq => ?_⟩⟩
  · rcases List.mem_append.mp hq with h | h
    · have h0 := va_P_iff.mp hP q (List.mem_append_right _ h)
      exact h0.kept (hk q.1 h0.lt (hn q h))
    · exact va_P_iff.mp hP1 q h
  · rw [List.map_append]
    refine List.nodup_append.mpr ⟨(List.nodup_append.mp hd.1).2.1, hd1.1, fun a ha b hb e => ?_⟩
    subst e
    obtain ⟨x, hx, rfl⟩ := List.mem_map.mp ha
    obtain ⟨y, hy, e⟩ := List.mem_map.mp hb
    have := hd1.2 y hy
    rw [e] at this
    exact hn x hx this
  · rcases List.mem_append.mp hq with h | h
    · exact hd.2 q (List.mem_append_right _ h)
    · exact hF q.1 (hd1.2 q h)
section GGN
variable {p : Program} {l : Launch} {e : Env} {R : Room} {s : State} {m : MethodId} {args : Array Value} {below : List Frame} {meth : Method} {c : Code} {H : Heap} {locs : List Loc} {cells slots : Nat} {Q : State → Prop}
theorem run_goN {E : GE} {Rn : Option Value → va_W → Prop} {A0 A1 : Nat → Prop} {H0 : Heap} {a : Array Value} {free : Addr → Prop} {rest st0 : List Value} {pc : Nat} {ls : Array Slot} {mc ms : Nat}
    (hr : va_Run p l e R s m args below meth c H locs cells slots mc ms (F0 m pc ls st0) rest (CNq E Rn A1 a) free) (hS : va_S A0 H0 H locs) (hA : ∀ q, q < H.size → A1 q → A0 q) (hf : ∀ q, free q → A0 q)
    (kk : ∀ (H1 : Heap) (locs1 : List Loc) (v : Option Value) (w' : va_W), Rn v w' → va_P E.2.1 vwCl w' H1 → va_D A1 w' → H.size ≤ H1.size → (∀ q : Nat, q < H.size → ¬ A1 q → H1[q]? = H[q]?) → va_S A0 H0 H1 locs1 → W p l e R s m args below meth c H1 locs1 (cells + mc) (slots + ms) Q (F0 m (pc + 3) ls (v.toList ++ rest))) : W p l e R s m args below meth c H locs cells slots Q (F0 m pc ls st0) := by
  intro T hT X
  obtain ⟨v1, st₀, t, T', L, h0, X', hL, e1, e2, ⟨⟨v, w', hv, hp1, hp2, hp3⟩, hz, hk⟩, st⟩ := hr T hT X
  cases hv
  rw [h0] at hz hk
  obtain ⟨t2, a1, b1⟩ := kk T'.heap (locs ++ L) v1 w' hp1 (by rw [e1]; exact hp2) hp3 (by rw [e1]; exact hz) (fun q h1 h2 => by rw [e1]; exact hk q h1 h2)
    ⟨Nat.le_trans hS.1 (by rw [e1]; exact hz), fun q h1 h2 => by rw [e1, hk q (Nat.lt_of_lt_of_le h1 hS.1) (fun z => h2 (hA q (Nat.lt_of_lt_of_le h1 hS.1) z))]; exact hS.2.1 q h1 h2, fun q hq => by
      rcases List.mem_append.mp hq with h | h
      · exact hS.2.2 q h
      · exact hf _ (hL q h)⟩ T' rfl X'
  exact ⟨t2, st t2 a1, b1⟩
end GGN
/-- a constructor's call: its words -/
def ISite (own : String) (idx : Nat) (ν : MD) (n : Nat) : Prop := GoodIn TT (.code ν.1 ν.2.1 ν.2.2.1 ν.2.2.2.1 :: TT) ∧ ν.2.2.2.1 = none ∧ Cond.initialized ν.1.cls ∈ TT ∧ (Cond.methodLink own idx ν.1 ∈ TT ∨ ∃ host, (own, idx, ν.1, host) ∈ nwL) ∧ Cond.instanceMethod ν.1 ∈ TT ∧ ν.1.name = "<init>" ∧ (ν.1.cls ≠ "java/lang/invoke/MethodHandle" ∧ ν.1.cls ≠ "java/lang/invoke/VarHandle" ∧ (parseMethodDescriptor ν.1.desc).map (fun d => d.parameters.length) = some n)
/-- a class whose objects are made -/
def NewS (own : String) (idx ci : Nat) (fs : List Value) (N : Nat) : Prop := ∃ (C : String) (T : u_T) (ty : Nat → FieldType), vwCl[ci]? = some (C, T, N) ∧ (∀ w ∈ u_ws C T N, w ∈ TT) ∧ (∀ k, k < N → parseFieldDescriptor (T k).2.2.1 = some (ty k)) ∧ Cond.classLink own idx C ∈ TT ∧ Cond.instantiable C N ∈ TT ∧ Cond.initialized C ∈ TT ∧ ∀ j, j < N → defaultValue (ty j) = vp_V fs j
def rmK (ν μ : MD) : Bool := decide (ν.2.2.2.2.frames + 1 ≤ μ.2.2.2.2.frames) && decide (8 + (ν.2.2.1 + 11) + ν.2.2.2.2.locals ≤ μ.2.2.2.2.locals)
theorem rmK_sp {ν μ : MD} (h : rmK ν μ = true) : ν.2.2.2.2.frames + 1 ≤ μ.2.2.2.2.frames ∧ 8 + (ν.2.2.1 + 11) + ν.2.2.2.2.locals ≤ μ.2.2.2.2.locals := by
  simpa [rmK, Bool.and_eq_true] using h
theorem ek_arr {E : GE} {s : State} (h : EV E s) {k : Nat} {cA : ClassId} {ty : FieldType} (hk : (tysA E.2.2)[k]? = some (E.2.2 k, ty)) (hn : ∀ C, ty ≠ .object C) (hf : s.vm.findClass ("[" ++ ty.toString) = some cA) : cA = E.2.2 k := by
  have h1 := (h.1.2 k _ hk).2
  have h2 : s.vm.findClass ("[" ++ ty.toString) = some (E.2.2 k) := by
    cases ty with
    | object C => exact absurd rfl (hn C)
    | _ => exact h1
  exact Option.some.inj (hf.symm.trans h2)
def wOb (a ci : Nat) (fs : List Value) : va_W := [(a, .inr (ci, fs))]
def wCh (E : GE) (a n : Nat) (f : Nat → Int32) : va_W := [(a, .inl (E.2.2 1, n, .inl f))]
def wQa (E : GE) (a n : Nat) (f : Nat → Option Nat) : va_W := [(a, .inl (E.2.2 3, n, .inr (.inr (.inr (.inr f)))))]
theorem fsOb (a ci : Nat) (fs : List Value) : (wOb a ci fs).map Prod.fst = [a] := rfl
theorem fsCh (E : GE) (a n : Nat) (f : Nat → Int32) : (wCh E a n f).map Prod.fst = [a] := rfl
theorem fsQa (E : GE) (a n : Nat) (f : Nat → Option Nat) : (wQa E a n f).map Prod.fst = [a] := rfl
section GGA
variable {E : GE} {μ : MD} {Γ : GC} {cells slots : Nat} {lv : List (Nat × Value)} {pc : Nat} {rest : List Value}
theorem sg_push (S : List va_W) (g : va_W) : (S ++ [g]).flatten = S.flatten ++ g := by simp
theorem g_new (X : CX E μ Γ) {S : List va_W} {idx ci N : Nat} {fs : List Value} (hs : NewS μ.1.cls idx ci fs N) (hc : cells + 1 ≤ μ.2.2.2.2.cells) (hsl : slots + N ≤ μ.2.2.2.2.slots) (d : decode μ.2.1 pc = .ok (.new idx, 3))
    (k : ∀ q : Nat, GG E μ Γ (cells + 1) (slots + N) (S ++ [wOb q ci fs]).flatten lv (pc + 3) (.ref q :: rest)) : GG E μ Γ cells slots S.flatten lv pc rest := by
  obtain ⟨C, T, ty, h1, h2, h3, h4, h5, h6, h7⟩ := hs
  intro H locs ls hP hD hS hl
  refine va_new (tys := tysA E.2.2) X.1.1 X.1.2.1 X.1.2.2.2.2 h2 ty h3 X.1.2.2.2.1 (X.1.2.2.2.2 _ h4) (X.1.2.2.2.2 _ h5) (X.1.2.2.2.2 _ h6) X.2.1.1 hP hD hS X.2.2.1 h1 h7 hc hsl d (fun q H1 hP1 hD1 hS1 => ?_)
  exact k q H1 locs ls (by rw [sg_push]; exact hP1) (by rw [sg_push]; exact hD1) hS1 hl
theorem g_newI (X : CX E μ Γ) {S : List va_W} {n : Int32} {N : Nat} (hw : Cond.arrayClass .int ∈ TT) (hn : n = nI N) (hN : N < 2 ^ 27) (hc : cells + 1 ≤ μ.2.2.2.2.cells) (hsl : slots + N ≤ μ.2.2.2.2.slots) (d : decode μ.2.1 pc = .ok (.newarray .int, 2))
    (k : ∀ q : Nat, GG E μ Γ (cells + 1) (slots + N) (S ++ [wAr E q N (fun _ => 0)]).flatten lv (pc + 2) (.ref q :: rest)) : GG E μ Γ cells slots S.flatten lv pc (.int n :: rest) := by
  subst hn
  intro H locs ls hP hD hS hl
  refine va_newa (tys := tysA E.2.2) (atype := .int) (ty := .int) (a0 := (N, .inl (fun _ => 0))) (N' := N) X.1.1 X.1.2.1 (X.1.2.2.2.2 _ hw) rfl X.2.1.1 hP hD hS X.2.2.1 (fun _ => rfl) (nI_pos (by omega)) (nI_clamp (by omega)) (by show N * 4 ≤ 536870912; omega) hc hsl d (fun q cA H1 hK1 hP1 hD1 hS1 => ?_)
  have e : cA = E.2.2 0 := ek_arr X.2.1 (k := 0) rfl (fun _ h => by cases h) (hK1.2 4 _ rfl).2
  subst e
  exact k q H1 locs ls (by rw [sg_push]; exact hP1) (by rw [sg_push]; exact hD1) hS1 hl
theorem g_newC (X : CX E μ Γ) {S : List va_W} {n : Int32} {N : Nat} (hw : Cond.arrayClass .char ∈ TT) (hn : n = nI N) (hN : N < 2 ^ 27) (hc : cells + 1 ≤ μ.2.2.2.2.cells) (hsl : slots + N ≤ μ.2.2.2.2.slots) (d : decode μ.2.1 pc = .ok (.newarray .char, 2))
    (k : ∀ q : Nat, GG E μ Γ (cells + 1) (slots + N) (S ++ [wCh E q N (fun _ => 0)]).flatten lv (pc + 2) (.ref q :: rest)) : GG E μ Γ cells slots S.flatten lv pc (.int n :: rest) := by
  subst hn
  intro H locs ls hP hD hS hl
  refine va_newa (tys := tysA E.2.2) (atype := .char) (ty := .char) (a0 := (N, .inl (fun _ => 0))) (N' := N) X.1.1 X.1.2.1 (X.1.2.2.2.2 _ hw) rfl X.2.1.1 hP hD hS X.2.2.1 (fun _ => rfl) (nI_pos (by omega)) (nI_clamp (by omega)) (by show N * 2 ≤ 536870912; omega) hc hsl d (fun q cA H1 hK1 hP1 hD1 hS1 => ?_)
  have e : cA = E.2.2 1 := ek_arr X.2.1 (k := 1) rfl (fun _ h => by cases h) (hK1.2 4 _ rfl).2
  subst e
  exact k q H1 locs ls (by rw [sg_push]; exact hP1) (by rw [sg_push]; exact hD1) hS1 hl
theorem g_newQ (X : CX E μ Γ) {qs : Nat × Nat} (Z : EX qs Γ.2.2.2.2.2.2.2.2.1 Γ.2.2.1) {S : List va_W} {idx : Nat} {n : Int32} {N : Nat} (hw : Cond.classLink μ.1.cls idx "TwoSurveys$Towns" ∈ TT) (hn : n = nI N) (hN : N < 2 ^ 27) (hc : cells + 1 ≤ μ.2.2.2.2.cells) (hsl : slots + N ≤ μ.2.2.2.2.slots) (d : decode μ.2.1 pc = .ok (.anewarray idx, 3))
    (k : ∀ q : Nat, GG E μ Γ (cells + 1) (slots + N) (S ++ [wQa E q N (fun _ => none)]).flatten lv (pc + 3) (.ref q :: rest)) : GG E μ Γ cells slots S.flatten lv pc (.int n :: rest) := by
  subst hn
  intro H locs ls hP hD hS hl
  refine va_newq (tys := tysA E.2.2) (N' := N) X.1.1 X.1.2.1 X.1.2.2.2.1 (X.1.2.2.2.2 _ hw) Z.1 X.2.1.1 hP hD hS X.2.2.1 (nI_pos (by omega)) (nI_clamp (by omega)) (by omega) hc hsl d (fun q cA H1 hK1 hP1 hD1 hS1 => ?_)
  have e : cA = E.2.2 3 := by
    obtain ⟨kA, comp, -, -, -, f1⟩ := (hK1.2 4 _ rfl).2
    obtain ⟨kB, comp2, -, -, -, f2⟩ := (X.2.1.1.2 3 _ rfl).2
    exact Option.some.inj (f1.symm.trans f2)
  subst e
  exact k q H1 locs ls (by rw [sg_push]; exact hP1) (by rw [sg_push]; exact hD1) hS1 hl
theorem g_objInit (X : CX E μ Γ) {ws : va_W} {idx : Nat} {a : Nat} (h1 : Cond.methodLink μ.1.cls idx Lib.objectInit ∈ TT) (h2 : Cond.instanceMethod Lib.objectInit ∈ TT) (h3 : Cond.code Lib.objectInit ⟨#[0xb1]⟩ 1 none ∈ TT) (hR : 1 ≤ μ.2.2.2.2.frames ∧ (rest.map fun v => v.category).sum + 12 ≤ μ.2.2.2.2.locals) (d : decode μ.2.1 pc = .ok (.invokespecial idx, 3))
    (k : GG E μ Γ cells slots ws lv (pc + 3) rest) : GG E μ Γ cells slots ws lv pc (.ref a :: rest) := by
  intro H locs ls hP hD hS hl
  refine W.objInit X.1.1 X.1.2.1 X.1.2.2.2.1 (X.1.2.2.2.2 _ h1) (X.1.2.2.2.2 _ h2) (X.1.2.2.2.2 _ h3) rfl (by rw [X.1.2.2.1]; exact hl.1) rfl d hR.1 (by show 2 * 0 + _ + 12 ≤ _; rw [Nat.mul_zero, Nat.zero_add]; exact hR.2) ?_
  exact k H locs ls hP hD hS hl
/-- the call of a method that makes cells -/
theorem g_callIP (X : CX E μ Γ) {qs : Nat × Nat} (Z : EX qs Γ.2.2.2.2.2.2.2.2.1 Γ.2.2.1) {ws : va_W} {ν : MD} {b : Nat} {As : List Value} {wc wr : va_W} {Rn : Option Value → va_W → Prop} {idx n : Nat} {st : List Value} (hM : CN E qs ν (.ref b :: As) wc Rn) (hs : ISite μ.1.cls idx ν n) (hR : rmK ν μ = true) (hp : ws.Perm (wc ++ wr))
    (hst : st = As.reverse ++ .ref b :: rest) (hn : As.length = n) (hcat : (rest.map fun v => v.category).sum ≤ 8) (d : decode μ.2.1 pc = .ok (.invokespecial idx, 3)) (hcs : cells + ν.2.2.2.2.cells ≤ μ.2.2.2.2.cells ∧ slots + ν.2.2.2.2.slots ≤ μ.2.2.2.2.slots)
    (k : ∀ (v : Option Value) (w' : va_W), Rn v w' → GG E μ Γ (cells + ν.2.2.2.2.cells) (slots + ν.2.2.2.2.slots) (wr ++ w') lv (pc + 3) (v.toList ++ rest)) : GG E μ Γ cells slots ws lv pc st := by
  obtain ⟨hR3, hR4⟩ := rmK_sp hR
  intro H locs ls hP hD hS hl
  have hPa := va_P_perm hp hP
  have hDa := va_D_perm hp hD
  have hPc : va_P E.2.1 vwCl wc H := va_P_iff.mpr (fun q hq => va_P_iff.mp hPa q (List.mem_append_left _ hq))
  have hDc := va_D_left hDa
  have hFc : ∀ q, va_A wc H.size q → Γ.2.2.2.2.2.2.2.2.1 q := fun q hq => by
    rcases hq with ⟨j, e, h3⟩ | h3
    · exact hDc.2 j _ h3
    · exact X.2.2.1 q (Nat.le_trans hS.1 h3)
  obtain ⟨s1, s2, s3, s4, s5, s6, s7⟩ := hs
  have s1' : GoodIn TT (.code ν.1 ν.2.1 ν.2.2.1 none :: TT) := by rw [← s2]; exact s1
  have hM' : Met E.1 ν.1 (.code ν.1 ν.2.1 ν.2.2.1 none :: TT) ν.2.2.2.2 (va_Pc (.ref b :: As) (fun U => CTp E wc H.size U ∧ EX qs (va_A wc H.size) U)) (CNq E Rn (va_A wc H.size)) ν.2.2.2.2.cells ν.2.2.2.2.slots (va_A wc H.size) := by
    have := hM H.size
    rw [s2] at this
    exact this
  have hpre : PreS Γ.2.2.1 H (va_Pc (.ref b :: As) (fun U => CTp E wc H.size U ∧ EX qs (va_A wc H.size) U)) (.ref b :: As) := ⟨CNp.blind, fun U hU hW => ⟨rfl, ⟨by rw [hU], by rw [hU]; exact hPc, EV.warm hW X.2.1, hDc.weaken (fun _ _ _ _ => trivial)⟩, EX.go hW (fun a h1 h2 => by rw [hU]; exact hS.2.1 a h1 h2) hFc Z⟩⟩
  have hrun : va_Run Γ.1 E.1 Γ.2.1 μ.2.2.2.2 Γ.2.2.1 Γ.2.2.2.1 Γ.2.2.2.2.1 Γ.2.2.2.2.2.1 Γ.2.2.2.2.2.2.1 Γ.2.2.2.2.2.2.2.1 H locs cells slots ν.2.2.2.2.cells ν.2.2.2.2.slots (F0 Γ.2.2.2.1 pc ls st) rest (CNq E Rn (va_A wc H.size) (Value.ref b :: As).toArray) (va_A wc H.size) := by
    rcases s4 with s4 | ⟨host, s4⟩
    · exact va_runI ⟨X.1.1, X.1.2.1, X.1.2.2.1, X.1.2.2.2.1, X.1.2.2.2.2⟩ hM' (cwI n X.1.2.2.2.2 s1' rfl rfl rfl (X.1.2.2.2.2 _ s3) (X.1.2.2.2.2 _ s4) (X.1.2.2.2.2 _ s5) s6 s7 ⟨hR3, hR4⟩) hpre rfl hn hl.1 hst (lv_room hcat) d hcs
    · exact va_runIN ⟨X.1.1, X.1.2.1, X.1.2.2.1, X.1.2.2.2.1, X.1.2.2.2.2⟩ hM' ⟨va_cnB n X.1.2.2.2.2 s1' rfl rfl rfl (X.2.1.2 _ s4) (X.1.2.2.2.2 _ s3) s7 ⟨hR3, hR4⟩, s6, X.1.2.2.2.2 _ s5⟩ hpre rfl hn hl.1 hst (lv_room hcat) d hcs
  refine run_goN hrun hS (fun q _ h => hFc q h) hFc (fun H1 locs1 v w' hRn hP1 hD1 hz hk hS1 => ?_)
  obtain ⟨hP', hD'⟩ := va_after2 hPa hDa hk hFc hP1 hD1
  exact k v w' hRn H1 locs1 ls hP' hD' hS1 hl
theorem sgP_append (S : List va_W) (w : va_W) : S.flatten ++ w = (S ++ [w]).flatten := by simp
theorem g_callI (X : CX E μ Γ) {qs : Nat × Nat} (Z : EX qs Γ.2.2.2.2.2.2.2.2.1 Γ.2.2.1) {S C R : List va_W} {ν : MD} {b : Nat} {As : List Value} {Rn : Option Value → va_W → Prop} {idx n : Nat} {st : List Value} (hM : CN E qs ν (.ref b :: As) C.flatten Rn) (hs : ISite μ.1.cls idx ν n) (hR : rmK ν μ = true) (is js : List Nat) (N : Nat) (hN : S.length = N) (hp : (is ++ js).Perm (List.range N)) (hC : sgP S is = C) (hR0 : sgP S js = R)
    (hst : st = As.reverse ++ .ref b :: rest) (hn : As.length = n) (hcat : (rest.map fun v => v.category).sum ≤ 8) (d : decode μ.2.1 pc = .ok (.invokespecial idx, 3)) (hcs : cells + ν.2.2.2.2.cells ≤ μ.2.2.2.2.cells ∧ slots + ν.2.2.2.2.slots ≤ μ.2.2.2.2.slots)
    (k : ∀ (v : Option Value) (w' : va_W), Rn v w' → GG E μ Γ (cells + ν.2.2.2.2.cells) (slots + ν.2.2.2.2.slots) (R ++ [w']).flatten lv (pc + 3) (v.toList ++ rest)) : GG E μ Γ cells slots S.flatten lv pc st := by
  subst hC hR0
  exact g_callIP X Z hM hs hR (sgP_perm hN hp) hst hn hcat d hcs (fun v w' h => by rw [sgP_append]; exact k v w' h)
/-- the end of a method that makes cells -/
theorem g_vretN (X : CX E μ Γ) {ws w' : va_W} {Rn : Option Value → va_W → Prop} (hx : RN E μ Γ Rn) (hr : μ.2.2.2.1 = none) (hw : ws.Perm w') (hv : Rn none w') (hcs : cells ≤ μ.2.2.2.2.cells ∧ slots ≤ μ.2.2.2.2.slots) (d : decode μ.2.1 pc = .ok (.return_, 1)) : GG E μ Γ cells slots ws lv pc [] := by
  intro H locs ls hP hD hS hl
  rw [hx]
  refine W.widen hcs.1 hcs.2 ?_
  exact W.vret X.1.1 X.1.2.1 (X.2.2.2.1.trans hr) (fun t ht hW => ⟨⟨none, w', rfl, hv, by rw [ht]; exact va_P_perm hw hP, va_D_perm hw hD⟩, hS.F ht⟩) hS.2.2 d X.2.2.2.2.1
theorem g_aretN (X : CX E μ Γ) {ws w' : va_W} {Rn : Option Value → va_W → Prop} (hx : RN E μ Γ Rn) {y : Nat} {C : String} (hr : μ.2.2.2.1 = some (.object C)) (hw : ws.Perm w') (hv : Rn (some (.ref y)) w') (hcs : cells ≤ μ.2.2.2.2.cells ∧ slots ≤ μ.2.2.2.2.slots) (d : decode μ.2.1 pc = .ok (.areturn, 1)) : GG E μ Γ cells slots ws lv pc [.ref y] := by
  intro H locs ls hP hD hS hl
  rw [hx]
  refine W.widen hcs.1 hcs.2 ?_
  exact W.aret X.1.1 X.1.2.1 (X.2.2.2.1.trans hr) (Or.inl ⟨_, rfl⟩) (Or.inr ⟨_, rfl⟩) (fun t ht hW => ⟨⟨some (.ref y), w', rfl, hv, by rw [ht]; exact va_P_perm hw hP, va_D_perm hw hD⟩, hS.F ht⟩) hS.2.2 d X.2.2.2.2.1
end GGA
