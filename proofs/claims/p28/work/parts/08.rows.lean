theorem va_P_iff {D : va_G} {cl : List vw_C} {ws : va_W} {H : Heap} : va_P D cl ws H ↔ ∀ q ∈ ws, va_at D cl q H := by
  constructor
  · intro h q hq
    obtain ⟨k, hk⟩ := List.getElem?_of_mem hq
    exact h k q hk
  · intro h k q hk
    exact h q (List.mem_of_getElem? hk)
theorem va_D_iff {A : Nat → Prop} {ws : va_W} : va_D A ws ↔ (ws.map Prod.fst).Nodup ∧ ∀ q ∈ ws, A q.1 := by
  constructor
  · intro h
    refine ⟨?_, fun q hq => ?_⟩
    · rw [List.Nodup, List.pairwise_iff_getElem]
      intro i j hi hj hij e
      have hi' : i < ws.length := by simpa using hi
      have hj' : j < ws.length := by simpa using hj
      rw [List.getElem_map, List.getElem_map] at e
      have := h.1 i j _ _ (List.getElem?_eq_getElem hi') (List.getElem?_eq_getElem hj') e
      omega
    · obtain ⟨k, hk⟩ := List.getElem?_of_mem hq
      exact h.2 k q hk
  · intro h
    refine ⟨fun i j x y hi hj hxy => ?_, fun k q hk => h.2 q (List.mem_of_getElem? hk)⟩
    obtain ⟨hi', rfl⟩ := List.getElem?_eq_some_iff.mp hi
    obtain ⟨hj', rfl⟩ := List.getElem?_eq_some_iff.mp hj
    have hn := h.1
    rw [List.Nodup, List.pairwise_iff_getElem] at hn
    rcases Nat.lt_trichotomy i j with q | q | q
    · exact absurd (by rw [List.getElem_map, List.getElem_map]; exact hxy) (hn i j (by simpa using hi') (by simpa using hj') q)
    · exact q
    · exact absurd (by rw [List.getElem_map, List.getElem_map]; exact hxy.symm) (hn j i (by simpa using hj') (by simpa using hi') q)
theorem va_P_perm {D : va_G} {cl : List vw_C} {ws ws' : va_W} {H : Heap} (hp : ws.Perm ws') (h : va_P D cl ws H) : va_P D cl ws' H := va_P_iff.mpr (fun q hq => va_P_iff.mp h q (hp.mem_iff.mpr hq))
theorem va_D_perm {A : Nat → Prop} {ws ws' : va_W} (hp : ws.Perm ws') (h : va_D A ws) : va_D A ws' := by
  have h := va_D_iff.mp h
  exact va_D_iff.mpr ⟨((hp.map Prod.fst).nodup_iff).mp h.1, fun q hq => h.2 q (hp.mem_iff.mpr hq)⟩
theorem va_D_left {A : Nat → Prop} {w1 w2 : va_W} (h : va_D A (w1 ++ w2)) : va_D A w1 := by
  have h := va_D_iff.mp h
  rw [List.map_append] at h
  exact va_D_iff.mpr ⟨(List.nodup_append.mp h.1).1, fun q hq => h.2 q (List.mem_append_left _ hq)⟩
/-- behind a call: the rest as it was, the callee's cells new -/
theorem va_after {A0 : Nat → Prop} {D : va_G} {cl : List vw_C} {wc wr w1 : va_W} {H H1 : Heap} (hP : va_P D cl (wc ++ wr) H) (hD : va_D A0 (wc ++ wr)) (ha : w1.map Prod.fst = wc.map Prod.fst)
    (hk : ∀ q : Nat, q < H.size → ¬ va_A wc H.size q → H1[q]? = H[q]?) (hP1 : va_P D cl w1 H1) : va_P D cl (w1 ++ wr) H1 ∧ va_D A0 (w1 ++ wr) := by
  have hd := va_D_iff.mp hD
  rw [List.map_append] at hd
  refine ⟨va_P_iff.mpr (fun q hq => ?_), va_D_iff.mpr ⟨by rw [List.map_append, ha]; exact hd.1, fun q hq => ?_⟩⟩
  · rcases List.mem_append.mp hq with h | h
    · exact va_P_iff.mp hP1 q h
    · have h0 := va_P_iff.mp hP q (List.mem_append_right _ h)
      refine h0.kept (hk q.1 h0.lt fun hA => ?_)
      rcases hA with ⟨j, e, h3⟩ | h3
      · have h4 := (List.nodup_append.mp hd.1).2.2 q.1 (List.mem_map.mpr ⟨_, List.mem_of_getElem? h3, rfl⟩) q.1 (List.mem_map.mpr ⟨q, h, rfl⟩)
        exact h4 rfl
      · have := h0.lt
        omega
  · rcases List.mem_append.mp hq with h | h
    · have h5 : q.1 ∈ wc.map Prod.fst := by rw [← ha]; exact List.mem_map.mpr ⟨q, h, rfl⟩
      obtain ⟨q0, h6, h7⟩ := List.mem_map.mp h5
      rw [← h7]
      exact hd.2 q0 (List.mem_append_left _ h6)
    · exact hd.2 q (List.mem_append_right _ h)
/-- segments by their places -/
def sgP (S : List va_W) (is : List Nat) : List va_W := is.filterMap (fun i => S[i]?)
theorem sgP_all : ∀ (S : List va_W), sgP S (List.range S.length) = S := by
  intro S
  apply List.ext_getElem?
  intro k
  have e : sgP S (List.range S.length) = S := by
    unfold sgP
    induction S with
    | nil => rfl
    | cons a S ih =>
      rw [List.length_cons, List.range_succ_eq_map, List.filterMap_cons]
      simp only [List.getElem?_cons_zero]
      rw [List.filterMap_map]
      congr 1
  rw [e]
theorem sgP_perm {S : List va_W} {is js : List Nat} {n : Nat} (hn : S.length = n) (hp : (is ++ js).Perm (List.range n)) : S.flatten.Perm ((sgP S is).flatten ++ (sgP S js).flatten) := by
  subst hn
  have h := hp.filterMap (fun i => S[i]?)
  rw [List.filterMap_append] at h
  have h2 : (sgP S is ++ sgP S js).Perm S := by
    have := sgP_all S
    unfold sgP at this ⊢
    rw [this] at h
    exact h
  have h3 := h2.flatten
  rw [List.flatten_append] at h3
  exact h3.symm
/-- what a method gives back: the answer v, the world w' -/
def CTq (E : GE) (v : Option Value) (w' : va_W) (A : Nat → Prop) : Array Value → State → Outcome → State → Prop := fun _ st oc t => (oc = .returned v ∧ va_P E.2.1 vwCl w' t.heap) ∧ va_F A st t
def CTp (E : GE) (w : va_W) (sz : Nat) : State → Prop := fun U => U.heap.size = sz ∧ va_P E.2.1 vwCl w U.heap ∧ EV E U ∧ va_D (fun _ => True) w
/-- the contract: from world w with the arguments av, the answer v and the world w' -/
def CT (E : GE) (μ : MD) (av : List Value) (w : va_W) (v : Option Value) (w' : va_W) : Prop :=
  ∀ sz : Nat, Met E.1 μ.1 (.code μ.1 μ.2.1 μ.2.2.1 μ.2.2.2.1 :: TT) μ.2.2.2.2 (va_Pc av (CTp E w sz)) (CTq E v w' (va_A w sz)) 0 0 (va_A w sz)
/-- at an instruction: from every heap that holds ws -/
def GG (E : GE) (μ : MD) (Γ : GC) (cells slots : Nat) (ws : va_W) (lv : List (Nat × Value)) (pc : Nat) (st : List Value) : Prop :=
  ∀ (H : Heap) (locs : List Loc) (ls : Array Slot), va_P E.2.1 vwCl ws H → va_D Γ.2.2.2.2.2.2.2.2.1 ws → va_S Γ.2.2.2.2.2.2.2.2.1 Γ.2.2.1.heap H locs → lv_has ls μ.2.2.1 lv →
    W Γ.1 E.1 Γ.2.1 μ.2.2.2.2 Γ.2.2.1 Γ.2.2.2.1 Γ.2.2.2.2.1 Γ.2.2.2.2.2.1 Γ.2.2.2.2.2.2.1 Γ.2.2.2.2.2.2.2.1 H locs cells slots Γ.2.2.2.2.2.2.2.2.2 (F0 Γ.2.2.2.1 pc ls st)
def CX (E : GE) (μ : MD) (Γ : GC) : Prop :=
  CallFix Γ.1 Γ.2.2.2.1 Γ.2.2.2.2.2.2.2.1 μ.2.1 μ.2.2.1 Γ.2.2.1 Γ.2.2.2.2.1 TT μ.1.cls ∧ EV E Γ.2.2.1 ∧ (∀ q, Γ.2.2.1.heap.size ≤ q → Γ.2.2.2.2.2.2.2.2.1 q) ∧ Γ.2.2.2.2.2.2.1.sig.returnType = μ.2.2.2.1 ∧ Γ.2.2.2.2.2.2.1.locks = false ∧ Γ.2.2.2.2.2.2.1.name = μ.1.name
def RX (E : GE) (μ : MD) (Γ : GC) (v : Option Value) (w' : va_W) : Prop :=
  Γ.2.2.2.2.2.2.2.2.2 = MQ Γ.2.2.2.2.2.1 (CTq E v w' Γ.2.2.2.2.2.2.2.2.1) Γ.2.2.2.2.1 Γ.2.2.1 0 0 Γ.2.2.2.2.2.2.2.2.1
theorem CT.intro {E : GE} {μ : MD} {av : List Value} {w : va_W} {v : Option Value} {w' : va_W} (hy : plainName μ.1.cls = true) (hlen : (lg_sl av).length ≤ μ.2.2.1)
    (body : ∀ Γ : GC, CX E μ Γ → RX E μ Γ v w' → GG E μ Γ 0 0 w (lv_args 0 av) 0 []) : CT E μ av w v w' := by
  intro sz
  refine Met.ofW (cc := μ.2.1) (maxL := μ.2.2.1) (ret := μ.2.2.2.1) hy rfl ?_
  intro p e s m args below meth c s₁ B hml hv
  obtain ⟨rfl, hsz, hP, hK, hD0⟩ := hv
  subst hsz
  have hts := atoms_spec (ws := Cond.code μ.1 μ.2.1 μ.2.2.1 μ.2.2.2.1 :: TT) B.pre
  rw [lg_entry_eq]
  exact body (p, e, s, m, av.toArray, below, meth, c, va_A w s.heap.size, MQ below (CTq E v w' (va_A w s.heap.size)) av.toArray s 0 0 (va_A w s.heap.size))
    ⟨⟨B.exec, B.bytes, hml, findClass_of_methodNamed B.named, fun w hw => hts w (List.mem_cons_of_mem _ hw)⟩, hK, fun q h => Or.inr h, B.returns, B.notSynchronized, (name_of_methodNamed B.named B.method).1⟩ rfl
    s.heap [] _ hP hD0.self va_S.rf (lv_entry av hlen)
theorem GG.eq {E : GE} {μ : MD} {Γ : GC} {cells slots : Nat} {ws ws' : va_W} {lv : List (Nat × Value)} {pc : Nat} {st st' : List Value} (hw : ws = ws') (hs : st = st') (k : GG E μ Γ cells slots ws' lv pc st') : GG E μ Γ cells slots ws lv pc st := by
  subst hw; subst hs; exact k
theorem GG.wd {E : GE} {μ : MD} {Γ : GC} {cells slots c1 s1 : Nat} {ws : va_W} {lv : List (Nat × Value)} {pc : Nat} {st : List Value} (h1 : cells ≤ c1) (h2 : slots ≤ s1) (k : GG E μ Γ c1 s1 ws lv pc st) : GG E μ Γ cells slots ws lv pc st :=
  fun H locs ls hP hD hS hl => W.widen h1 h2 (k H locs ls hP hD hS hl)
/-- fewer locals, in any order -/
theorem GG.lv {E : GE} {μ : MD} {Γ : GC} {cells slots : Nat} {ws : va_W} {lv lv' : List (Nat × Value)} {pc : Nat} {st : List Value} (ks : List Nat) (h : lv_pick lv ks = lv') (k : GG E μ Γ cells slots ws lv' pc st) : GG E μ Γ cells slots ws lv pc st :=
  fun H locs ls hP hD hS hl => k H locs ls hP hD hS (lv_sub hl ks h)
/-- an index that is in its row -/
def ix (i : Int32) (j n : Nat) : Prop := vp_in i n ∧ i.toNatClampNeg = j
theorem ix_nI {j n : Nat} (h : j < n) (hn : n < 2 ^ 31) : ix (nI j) j n := ⟨vp_in_nI h hn, nI_clamp (by omega)⟩
theorem ix_eq {i : Int32} {j n : Nat} (e : i = nI j) (h : j < n) (hn : n < 2 ^ 31) : ix i j n := by rw [e]; exact ix_nI h hn
theorem ix_self {i : Int32} {n : Nat} (h : vp_in i n) : ix i i.toNatClampNeg n := ⟨h, rfl⟩
/-- 1 or 0 -/
def b2i (b : Bool) : Int32 := if b then 1 else 0
theorem b2i_0 {b : Bool} : b2i b = 0 ↔ b = false := by cases b <;> decide
theorem b2i_1 {b : Bool} : b2i b = 1 ↔ b = true := by cases b <;> decide
section GGR
variable {p : Program} {l : Launch} {e : Env} {R : Room} {s : State} {m : MethodId} {args : Array Value} {below : List Frame} {meth : Method} {c : Code} {H : Heap} {locs : List Loc} {cells slots : Nat} {Q : State → Prop}
theorem run_go {E : GE} {v : Option Value} {w' : va_W} {A0 A1 : Nat → Prop} {H0 : Heap} {a : Array Value} {free : Addr → Prop} {rest st0 : List Value} {pc : Nat} {ls : Array Slot} {mc ms : Nat}
    (hr : va_Run p l e R s m args below meth c H locs cells slots mc ms (F0 m pc ls st0) rest (CTq E v w' A1 a) free) (hS : va_S A0 H0 H locs) (hA : ∀ q, q < H.size → A1 q → A0 q) (hf : ∀ q, free q → A0 q)
    (kk : ∀ (H1 : Heap) (locs1 : List Loc), va_P E.2.1 vwCl w' H1 → H.size ≤ H1.size → (∀ q : Nat, q < H.size → ¬ A1 q → H1[q]? = H[q]?) → va_S A0 H0 H1 locs1 → W p l e R s m args below meth c H1 locs1 (cells + mc) (slots + ms) Q (F0 m (pc + 3) ls (v.toList ++ rest))) : W p l e R s m args below meth c H locs cells slots Q (F0 m pc ls st0) := by
  intro T hT X
  obtain ⟨v1, st₀, t, T', L, h0, X', hL, e1, e2, ⟨⟨hv, hp⟩, hz, hk⟩, st⟩ := hr T hT X
  cases hv
  rw [h0] at hz hk
  obtain ⟨t2, a1, b1⟩ := kk T'.heap (locs ++ L) (by rw [e1]; exact hp) (by rw [e1]; exact hz) (fun q h1 h2 => by rw [e1]; exact hk q h1 h2)
    ⟨Nat.le_trans hS.1 (by rw [e1]; exact hz), fun q h1 h2 => by rw [e1, hk q (Nat.lt_of_lt_of_le h1 hS.1) (fun z => h2 (hA q (Nat.lt_of_lt_of_le h1 hS.1) z))]; exact hS.2.1 q h1 h2, fun q hq => by
      rcases List.mem_append.mp hq with h | h
      · exact hS.2.2 q h
      · exact hf _ (hL q h)⟩ T' rfl X'
  exact ⟨t2, st t2 a1, b1⟩
end GGR
theorem CTp.blind {E : GE} {w : va_W} {sz : Nat} {av : List Value} : FrameBlind (va_Pc av (CTp E w sz)) := fun a U g mk q => ⟨q.1, q.2.1, q.2.2.1, EV.blind g mk a q.2.2.2.1, q.2.2.2.2⟩
section GGI
variable {E : GE} {μ : MD} {Γ : GC} {cells slots : Nat} {ws ws' : va_W} {lv lv' : List (Nat × Value)} {pc : Nat} {rest : List Value}
theorem g_iconst (X : CX E μ Γ) {n : Int} {v : Int32} (d : decode μ.2.1 pc = .ok (.iconst n, 1)) (hv : Int32.ofInt n = v)
    (k : GG E μ Γ cells slots ws lv (pc + 1) (.int v :: rest)) : GG E μ Γ cells slots ws lv pc (rest) := fun H locs ls hP hD hS hl => lv_iconst X.1.1 X.1.2.1 d hv (k H locs ls hP hD hS hl)
theorem g_bipush (X : CX E μ Γ) {n : Int} {v : Int32} (d : decode μ.2.1 pc = .ok (.bipush n, 2)) (hv : (Int8.ofInt n).toInt32 = v)
    (k : GG E μ Γ cells slots ws lv (pc + 2) (.int v :: rest)) : GG E μ Γ cells slots ws lv pc (rest) := fun H locs ls hP hD hS hl => lv_bipush X.1.1 X.1.2.1 d hv (k H locs ls hP hD hS hl)
theorem g_sipush (X : CX E μ Γ) {n : Int} {v : Int32} (d : decode μ.2.1 pc = .ok (.sipush n, 3)) (hv : (Int16.ofInt n).toInt32 = v)
    (k : GG E μ Γ cells slots ws lv (pc + 3) (.int v :: rest)) : GG E μ Γ cells slots ws lv pc (rest) := fun H locs ls hP hD hS hl => lv_sipush X.1.1 X.1.2.1 d hv (k H locs ls hP hD hS hl)
theorem g_lconst (X : CX E μ Γ) {n : Fin 2} {v : Int64} (d : decode μ.2.1 pc = .ok (.lconst n, 1)) (hv : Int64.ofNat (n : Nat) = v)
    (k : GG E μ Γ cells slots ws lv (pc + 1) (.long v :: rest)) : GG E μ Γ cells slots ws lv pc (rest) := fun H locs ls hP hD hS hl => lv_lconst X.1.1 X.1.2.1 d hv (k H locs ls hP hD hS hl)
theorem g_iload_n (X : CX E μ Γ) {k0 : Fin 4} (q : Nat) {x : Int32} (d : decode μ.2.1 pc = .ok (.iload_n k0, 1)) (h : lv[q]? = some ((k0 : Nat), .int x))
    (k : GG E μ Γ cells slots ws lv (pc + 1) (.int x :: rest)) : GG E μ Γ cells slots ws lv pc (rest) := fun H locs ls hP hD hS hl => lv_iload_n X.1.1 X.1.2.1 d rfl (lv_at hl q h) (k H locs ls hP hD hS hl)
theorem g_iload (X : CX E μ Γ) {i : Nat} (q : Nat) {x : Int32} (d : decode μ.2.1 pc = .ok (.iload i, 2)) (h : lv[q]? = some (i, .int x))
    (k : GG E μ Γ cells slots ws lv (pc + 2) (.int x :: rest)) : GG E μ Γ cells slots ws lv pc (rest) := fun H locs ls hP hD hS hl => lv_iload X.1.1 X.1.2.1 d (lv_at hl q h) (k H locs ls hP hD hS hl)
theorem g_lload_n (X : CX E μ Γ) {k0 : Fin 4} (q : Nat) {x : Int64} (d : decode μ.2.1 pc = .ok (.lload_n k0, 1)) (h : lv[q]? = some ((k0 : Nat), .long x))
    (k : GG E μ Γ cells slots ws lv (pc + 1) (.long x :: rest)) : GG E μ Γ cells slots ws lv pc (rest) := fun H locs ls hP hD hS hl => lv_lload_n X.1.1 X.1.2.1 d rfl (lv_at hl q h) (k H locs ls hP hD hS hl)
theorem g_lload (X : CX E μ Γ) {i : Nat} (q : Nat) {x : Int64} (d : decode μ.2.1 pc = .ok (.lload i, 2)) (h : lv[q]? = some (i, .long x))
    (k : GG E μ Γ cells slots ws lv (pc + 2) (.long x :: rest)) : GG E μ Γ cells slots ws lv pc (rest) := fun H locs ls hP hD hS hl => lv_lload X.1.1 X.1.2.1 d (lv_at hl q h) (k H locs ls hP hD hS hl)
theorem g_aload_n (X : CX E μ Γ) {k0 : Fin 4} (q : Nat) {x : Nat} (d : decode μ.2.1 pc = .ok (.aload_n k0, 1)) (h : lv[q]? = some ((k0 : Nat), .ref x))
    (k : GG E μ Γ cells slots ws lv (pc + 1) (.ref x :: rest)) : GG E μ Γ cells slots ws lv pc (rest) := fun H locs ls hP hD hS hl => lv_aload_n X.1.1 X.1.2.1 d rfl (lv_at hl q h) (k H locs ls hP hD hS hl)
theorem g_aload (X : CX E μ Γ) {i : Nat} (q : Nat) {x : Nat} (d : decode μ.2.1 pc = .ok (.aload i, 2)) (h : lv[q]? = some (i, .ref x))
    (k : GG E μ Γ cells slots ws lv (pc + 2) (.ref x :: rest)) : GG E μ Γ cells slots ws lv pc (rest) := fun H locs ls hP hD hS hl => lv_aload X.1.1 X.1.2.1 d (lv_at hl q h) (k H locs ls hP hD hS hl)
theorem g_istore_n (X : CX E μ Γ) {k0 : Fin 4} {x : Int32} (d : decode μ.2.1 pc = .ok (.istore_n k0, 1)) (hn : (k0 : Nat) < μ.2.2.1) (h : ((k0 : Nat), Value.int x) :: lv.filter (fun q => !(q.1 == (k0 : Nat)) && !(q.1 + 1 == (k0 : Nat) && q.2.category == 2)) = lv')
    (k : GG E μ Γ cells slots ws lv' (pc + 1) rest) : GG E μ Γ cells slots ws lv pc (.int x :: rest) := fun H locs ls hP hD hS hl => lv_istore_n X.1.1 X.1.2.1 d rfl hl hn h (fun ls hl => k H locs ls hP hD hS hl)
theorem g_istore (X : CX E μ Γ) {i : Nat} {x : Int32} (d : decode μ.2.1 pc = .ok (.istore i, 2)) (hn : i < μ.2.2.1) (h : (i, Value.int x) :: lv.filter (fun q => !(q.1 == i) && !(q.1 + 1 == i && q.2.category == 2)) = lv')
    (k : GG E μ Γ cells slots ws lv' (pc + 2) rest) : GG E μ Γ cells slots ws lv pc (.int x :: rest) := fun H locs ls hP hD hS hl => lv_istore X.1.1 X.1.2.1 d hl hn h (fun ls hl => k H locs ls hP hD hS hl)
theorem g_astore_n (X : CX E μ Γ) {k0 : Fin 4} {x : Nat} (d : decode μ.2.1 pc = .ok (.astore_n k0, 1)) (hn : (k0 : Nat) < μ.2.2.1) (h : ((k0 : Nat), Value.ref x) :: lv.filter (fun q => !(q.1 == (k0 : Nat)) && !(q.1 + 1 == (k0 : Nat) && q.2.category == 2)) = lv')
    (k : GG E μ Γ cells slots ws lv' (pc + 1) rest) : GG E μ Γ cells slots ws lv pc (.ref x :: rest) := fun H locs ls hP hD hS hl => lv_astore_n X.1.1 X.1.2.1 d rfl hl hn h (fun ls hl => k H locs ls hP hD hS hl)
theorem g_astore (X : CX E μ Γ) {i : Nat} {x : Nat} (d : decode μ.2.1 pc = .ok (.astore i, 2)) (hn : i < μ.2.2.1) (h : (i, Value.ref x) :: lv.filter (fun q => !(q.1 == i) && !(q.1 + 1 == i && q.2.category == 2)) = lv')
    (k : GG E μ Γ cells slots ws lv' (pc + 2) rest) : GG E μ Γ cells slots ws lv pc (.ref x :: rest) := fun H locs ls hP hD hS hl => lv_astore X.1.1 X.1.2.1 d hl hn h (fun ls hl => k H locs ls hP hD hS hl)
theorem g_lstore_n (X : CX E μ Γ) {k0 : Fin 4} {x : Int64} (d : decode μ.2.1 pc = .ok (.lstore_n k0, 1)) (hn : (k0 : Nat) + 1 < μ.2.2.1) (h : ((k0 : Nat), Value.long x) :: lv.filter (fun q => !(q.1 == (k0 : Nat)) && (!(q.1 == (k0 : Nat) + 1) && !(q.1 + 1 == (k0 : Nat) && q.2.category == 2))) = lv')
    (k : GG E μ Γ cells slots ws lv' (pc + 1) rest) : GG E μ Γ cells slots ws lv pc (.long x :: rest) := fun H locs ls hP hD hS hl => lv_lstore_n X.1.1 X.1.2.1 d rfl hl hn h (fun ls hl => k H locs ls hP hD hS hl)
theorem g_lstore (X : CX E μ Γ) {i : Nat} {x : Int64} (d : decode μ.2.1 pc = .ok (.lstore i, 2)) (hn : i + 1 < μ.2.2.1) (h : (i, Value.long x) :: lv.filter (fun q => !(q.1 == i) && (!(q.1 == i + 1) && !(q.1 + 1 == i && q.2.category == 2))) = lv')
    (k : GG E μ Γ cells slots ws lv' (pc + 2) rest) : GG E μ Γ cells slots ws lv pc (.long x :: rest) := fun H locs ls hP hD hS hl => lv_lstore X.1.1 X.1.2.1 d hl hn h (fun ls hl => k H locs ls hP hD hS hl)
theorem g_iinc (X : CX E μ Γ) {i : Nat} (q : Nat) {n : Int} {x v : Int32} (d : decode μ.2.1 pc = .ok (.iinc i n, 3)) (hk : lv[q]? = some (i, .int x)) (hv : x + Int32.ofInt n = v) (hn : i < μ.2.2.1) (h : (i, Value.int v) :: lv.filter (fun q => !(q.1 == i) && !(q.1 + 1 == i && q.2.category == 2)) = lv')
    (k : GG E μ Γ cells slots ws lv' (pc + 3) rest) : GG E μ Γ cells slots ws lv pc rest := fun H locs ls hP hD hS hl => lv_iinc X.1.1 X.1.2.1 d hl hk hv hn h (fun ls hl => k H locs ls hP hD hS hl)
theorem g_iadd (X : CX E μ Γ) {x y : Int32} (d : decode μ.2.1 pc = .ok (.iadd, 1))
    (k : GG E μ Γ cells slots ws lv (pc + 1) (.int (x + y) :: rest)) : GG E μ Γ cells slots ws lv pc (.int y :: .int x :: rest) := fun H locs ls hP hD hS hl => lv_iadd X.1.1 X.1.2.1 d (k H locs ls hP hD hS hl)
theorem g_isub (X : CX E μ Γ) {x y : Int32} (d : decode μ.2.1 pc = .ok (.isub, 1))
    (k : GG E μ Γ cells slots ws lv (pc + 1) (.int (x - y) :: rest)) : GG E μ Γ cells slots ws lv pc (.int y :: .int x :: rest) := fun H locs ls hP hD hS hl => lv_isub X.1.1 X.1.2.1 d (k H locs ls hP hD hS hl)
theorem g_imul (X : CX E μ Γ) {x y : Int32} (d : decode μ.2.1 pc = .ok (.imul, 1))
    (k : GG E μ Γ cells slots ws lv (pc + 1) (.int (x * y) :: rest)) : GG E μ Γ cells slots ws lv pc (.int y :: .int x :: rest) := fun H locs ls hP hD hS hl => lv_imul X.1.1 X.1.2.1 d (k H locs ls hP hD hS hl)
theorem g_iand (X : CX E μ Γ) {x y : Int32} (d : decode μ.2.1 pc = .ok (.iand, 1))
    (k : GG E μ Γ cells slots ws lv (pc + 1) (.int (x &&& y) :: rest)) : GG E μ Γ cells slots ws lv pc (.int y :: .int x :: rest) := fun H locs ls hP hD hS hl => lv_iand X.1.1 X.1.2.1 d (k H locs ls hP hD hS hl)
theorem g_ior (X : CX E μ Γ) {x y : Int32} (d : decode μ.2.1 pc = .ok (.ior, 1))
    (k : GG E μ Γ cells slots ws lv (pc + 1) (.int (x ||| y) :: rest)) : GG E μ Γ cells slots ws lv pc (.int y :: .int x :: rest) := fun H locs ls hP hD hS hl => lv_ior X.1.1 X.1.2.1 d (k H locs ls hP hD hS hl)
theorem g_ishl (X : CX E μ Γ) {x y : Int32} (d : decode μ.2.1 pc = .ok (.ishl, 1))
    (k : GG E μ Γ cells slots ws lv (pc + 1) (.int (x <<< (y &&& 31)) :: rest)) : GG E μ Γ cells slots ws lv pc (.int y :: .int x :: rest) := fun H locs ls hP hD hS hl => lv_ishl X.1.1 X.1.2.1 d (k H locs ls hP hD hS hl)
theorem g_idiv (X : CX E μ Γ) {x y : Int32} (d : decode μ.2.1 pc = .ok (.idiv, 1)) (hne : ¬ y = 0)
    (k : GG E μ Γ cells slots ws lv (pc + 1) (.int (x / y) :: rest)) : GG E μ Γ cells slots ws lv pc (.int y :: .int x :: rest) := fun H locs ls hP hD hS hl => lv_idiv X.1.1 X.1.2.1 d hne (k H locs ls hP hD hS hl)
theorem g_irem (X : CX E μ Γ) {x y : Int32} (d : decode μ.2.1 pc = .ok (.irem, 1)) (hne : ¬ y = 0)
    (k : GG E μ Γ cells slots ws lv (pc + 1) (.int (x - x / y * y) :: rest)) : GG E μ Γ cells slots ws lv pc (.int y :: .int x :: rest) := fun H locs ls hP hD hS hl => lv_irem X.1.1 X.1.2.1 d hne (k H locs ls hP hD hS hl)
theorem g_ineg (X : CX E μ Γ) {x : Int32} (d : decode μ.2.1 pc = .ok (.ineg, 1))
    (k : GG E μ Γ cells slots ws lv (pc + 1) (.int (-x) :: rest)) : GG E μ Γ cells slots ws lv pc (.int x :: rest) := fun H locs ls hP hD hS hl => lv_ineg X.1.1 X.1.2.1 d (k H locs ls hP hD hS hl)
theorem g_ladd (X : CX E μ Γ) {x y : Int64} (d : decode μ.2.1 pc = .ok (.ladd, 1))
    (k : GG E μ Γ cells slots ws lv (pc + 1) (.long (x + y) :: rest)) : GG E μ Γ cells slots ws lv pc (.long y :: .long x :: rest) := fun H locs ls hP hD hS hl => lv_ladd X.1.1 X.1.2.1 d (k H locs ls hP hD hS hl)
theorem g_lmul (X : CX E μ Γ) {x y : Int64} (d : decode μ.2.1 pc = .ok (.lmul, 1))
    (k : GG E μ Γ cells slots ws lv (pc + 1) (.long (x * y) :: rest)) : GG E μ Γ cells slots ws lv pc (.long y :: .long x :: rest) := fun H locs ls hP hD hS hl => lv_lmul X.1.1 X.1.2.1 d (k H locs ls hP hD hS hl)
theorem g_lrem (X : CX E μ Γ) {x y : Int64} (d : decode μ.2.1 pc = .ok (.lrem, 1)) (hne : ¬ y = 0)
    (k : GG E μ Γ cells slots ws lv (pc + 1) (.long (x - x / y * y) :: rest)) : GG E μ Γ cells slots ws lv pc (.long y :: .long x :: rest) := fun H locs ls hP hD hS hl => lv_lrem X.1.1 X.1.2.1 d hne (k H locs ls hP hD hS hl)
theorem g_i2l (X : CX E μ Γ) {x : Int32} (d : decode μ.2.1 pc = .ok (.i2l, 1))
    (k : GG E μ Γ cells slots ws lv (pc + 1) (.long x.toInt64 :: rest)) : GG E μ Γ cells slots ws lv pc (.int x :: rest) := fun H locs ls hP hD hS hl => lv_i2l X.1.1 X.1.2.1 d rfl (k H locs ls hP hD hS hl)
theorem g_l2i (X : CX E μ Γ) {x : Int64} (d : decode μ.2.1 pc = .ok (.l2i, 1))
    (k : GG E μ Γ cells slots ws lv (pc + 1) (.int x.toInt32 :: rest)) : GG E μ Γ cells slots ws lv pc (.long x :: rest) := fun H locs ls hP hD hS hl => lv_l2i X.1.1 X.1.2.1 d rfl (k H locs ls hP hD hS hl)
theorem g_i2c (X : CX E μ Γ) {x : Int32} (d : decode μ.2.1 pc = .ok (.i2c, 1))
    (k : GG E μ Γ cells slots ws lv (pc + 1) (.int (x.toUInt32 % 65536).toInt32 :: rest)) : GG E μ Γ cells slots ws lv pc (.int x :: rest) := fun H locs ls hP hD hS hl => lv_i2c X.1.1 X.1.2.1 d rfl (k H locs ls hP hD hS hl)
theorem g_dup (X : CX E μ Γ) {v : Value} (d : decode μ.2.1 pc = .ok (.dup, 1)) (hv : v.category = 1)
    (k : GG E μ Γ cells slots ws lv (pc + 1) (v :: v :: rest)) : GG E μ Γ cells slots ws lv pc (v :: rest) := fun H locs ls hP hD hS hl => lv_dup X.1.1 X.1.2.1 d hv (k H locs ls hP hD hS hl)
theorem g_dup2 (X : CX E μ Γ) {v u : Value} (d : decode μ.2.1 pc = .ok (.dup2, 1)) (hv : v.category = 1) (hu : u.category = 1)
    (k : GG E μ Γ cells slots ws lv (pc + 1) (v :: u :: v :: u :: rest)) : GG E μ Γ cells slots ws lv pc (v :: u :: rest) := fun H locs ls hP hD hS hl => lv_dup2_11 X.1.1 X.1.2.1 d hv hu (k H locs ls hP hD hS hl)
theorem g_pop (X : CX E μ Γ) {v : Value} (d : decode μ.2.1 pc = .ok (.pop, 1)) (hv : v.category = 1)
    (k : GG E μ Γ cells slots ws lv (pc + 1) (rest)) : GG E μ Γ cells slots ws lv pc (v :: rest) := fun H locs ls hP hD hS hl => lv_pop X.1.1 X.1.2.1 d hv (k H locs ls hP hD hS hl)
theorem g_goto (X : CX E μ Γ) {off : Int} {tgt : Nat} (d : decode μ.2.1 pc = .ok (.goto off, 3)) (ht : (pc : Int) + off = (tgt : Int))
    (k : GG E μ Γ cells slots ws lv tgt (rest)) : GG E μ Γ cells slots ws lv pc (rest) := fun H locs ls hP hD hS hl => lv_goto X.1.1 X.1.2.1 d ht (k H locs ls hP hD hS hl)
theorem g_ldc (X : CX E μ Γ) {index : Nat} {v : Int32} (d : decode μ.2.1 pc = .ok (.ldc index, 2)) (hc : Cond.constant μ.1.cls index v ∈ TT)
    (k : GG E μ Γ cells slots ws lv (pc + 2) (.int v :: rest)) : GG E μ Γ cells slots ws lv pc rest := fun H locs ls hP hD hS hl => lv_ldc X.1.1 X.1.2.1 X.1.2.2.2.1 (X.1.2.2.2.2 _ hc) d (k H locs ls hP hD hS hl)
theorem g_ldc2 (X : CX E μ Γ) {index : Nat} {v : Int64} (d : decode μ.2.1 pc = .ok (.ldc2_w index, 3)) (hc : Cond.constantLong μ.1.cls index v ∈ TT)
    (k : GG E μ Γ cells slots ws lv (pc + 3) (.long v :: rest)) : GG E μ Γ cells slots ws lv pc rest := fun H locs ls hP hD hS hl => lv_ldc2 X.1.1 X.1.2.1 X.1.2.2.2.1 (X.1.2.2.2.2 _ hc) d (k H locs ls hP hD hS hl)
theorem g_if_eq (X : CX E μ Γ) {x : Int32} {off : Int} {tgt : Nat} (d : decode μ.2.1 pc = .ok (.ifCond .eq off, 3)) (ht : (pc : Int) + off = (tgt : Int))
    (kt : x = 0 → GG E μ Γ cells slots ws lv tgt rest) (kf : ¬ x = 0 → GG E μ Γ cells slots ws lv (pc + 3) rest) : GG E μ Γ cells slots ws lv pc (.int x :: rest) :=
  fun H locs ls hP hD hS hl => lv_if_eq X.1.1 X.1.2.1 d ht (fun h => kt h H locs ls hP hD hS hl) (fun h => kf h H locs ls hP hD hS hl)
theorem g_icmp_eq (X : CX E μ Γ) {x y : Int32} {off : Int} {tgt : Nat} (d : decode μ.2.1 pc = .ok (.if_icmp .eq off, 3)) (ht : (pc : Int) + off = (tgt : Int))
    (kt : x = y → GG E μ Γ cells slots ws lv tgt rest) (kf : ¬ x = y → GG E μ Γ cells slots ws lv (pc + 3) rest) : GG E μ Γ cells slots ws lv pc (.int y :: .int x :: rest) :=
  fun H locs ls hP hD hS hl => lv_icmp_eq X.1.1 X.1.2.1 d ht (fun h => kt h H locs ls hP hD hS hl) (fun h => kf h H locs ls hP hD hS hl)
theorem g_if_ne (X : CX E μ Γ) {x : Int32} {off : Int} {tgt : Nat} (d : decode μ.2.1 pc = .ok (.ifCond .ne off, 3)) (ht : (pc : Int) + off = (tgt : Int))
    (kt : ¬ x = 0 → GG E μ Γ cells slots ws lv tgt rest) (kf : x = 0 → GG E μ Γ cells slots ws lv (pc + 3) rest) : GG E μ Γ cells slots ws lv pc (.int x :: rest) :=
  fun H locs ls hP hD hS hl => lv_if_ne X.1.1 X.1.2.1 d ht (fun h => kt h H locs ls hP hD hS hl) (fun h => kf h H locs ls hP hD hS hl)
theorem g_icmp_ne (X : CX E μ Γ) {x y : Int32} {off : Int} {tgt : Nat} (d : decode μ.2.1 pc = .ok (.if_icmp .ne off, 3)) (ht : (pc : Int) + off = (tgt : Int))
    (kt : ¬ x = y → GG E μ Γ cells slots ws lv tgt rest) (kf : x = y → GG E μ Γ cells slots ws lv (pc + 3) rest) : GG E μ Γ cells slots ws lv pc (.int y :: .int x :: rest) :=
  fun H locs ls hP hD hS hl => lv_icmp_ne X.1.1 X.1.2.1 d ht (fun h => kt h H locs ls hP hD hS hl) (fun h => kf h H locs ls hP hD hS hl)
theorem g_if_lt (X : CX E μ Γ) {x : Int32} {off : Int} {tgt : Nat} (d : decode μ.2.1 pc = .ok (.ifCond .lt off, 3)) (ht : (pc : Int) + off = (tgt : Int))
    (kt : x < 0 → GG E μ Γ cells slots ws lv tgt rest) (kf : ¬ x < 0 → GG E μ Γ cells slots ws lv (pc + 3) rest) : GG E μ Γ cells slots ws lv pc (.int x :: rest) :=
  fun H locs ls hP hD hS hl => lv_if_lt X.1.1 X.1.2.1 d ht (fun h => kt h H locs ls hP hD hS hl) (fun h => kf h H locs ls hP hD hS hl)
theorem g_icmp_lt (X : CX E μ Γ) {x y : Int32} {off : Int} {tgt : Nat} (d : decode μ.2.1 pc = .ok (.if_icmp .lt off, 3)) (ht : (pc : Int) + off = (tgt : Int))
    (kt : x < y → GG E μ Γ cells slots ws lv tgt rest) (kf : ¬ x < y → GG E μ Γ cells slots ws lv (pc + 3) rest) : GG E μ Γ cells slots ws lv pc (.int y :: .int x :: rest) :=
  fun H locs ls hP hD hS hl => lv_icmp_lt X.1.1 X.1.2.1 d ht (fun h => kt h H locs ls hP hD hS hl) (fun h => kf h H locs ls hP hD hS hl)
theorem g_if_ge (X : CX E μ Γ) {x : Int32} {off : Int} {tgt : Nat} (d : decode μ.2.1 pc = .ok (.ifCond .ge off, 3)) (ht : (pc : Int) + off = (tgt : Int))
    (kt : 0 ≤ x → GG E μ Γ cells slots ws lv tgt rest) (kf : ¬ 0 ≤ x → GG E μ Γ cells slots ws lv (pc + 3) rest) : GG E μ Γ cells slots ws lv pc (.int x :: rest) :=
  fun H locs ls hP hD hS hl => lv_if_ge X.1.1 X.1.2.1 d ht (fun h => kt h H locs ls hP hD hS hl) (fun h => kf h H locs ls hP hD hS hl)
theorem g_icmp_ge (X : CX E μ Γ) {x y : Int32} {off : Int} {tgt : Nat} (d : decode μ.2.1 pc = .ok (.if_icmp .ge off, 3)) (ht : (pc : Int) + off = (tgt : Int))
    (kt : y ≤ x → GG E μ Γ cells slots ws lv tgt rest) (kf : ¬ y ≤ x → GG E μ Γ cells slots ws lv (pc + 3) rest) : GG E μ Γ cells slots ws lv pc (.int y :: .int x :: rest) :=
  fun H locs ls hP hD hS hl => lv_icmp_ge X.1.1 X.1.2.1 d ht (fun h => kt h H locs ls hP hD hS hl) (fun h => kf h H locs ls hP hD hS hl)
theorem g_if_gt (X : CX E μ Γ) {x : Int32} {off : Int} {tgt : Nat} (d : decode μ.2.1 pc = .ok (.ifCond .gt off, 3)) (ht : (pc : Int) + off = (tgt : Int))
    (kt : 0 < x → GG E μ Γ cells slots ws lv tgt rest) (kf : ¬ 0 < x → GG E μ Γ cells slots ws lv (pc + 3) rest) : GG E μ Γ cells slots ws lv pc (.int x :: rest) :=
  fun H locs ls hP hD hS hl => lv_if_gt X.1.1 X.1.2.1 d ht (fun h => kt h H locs ls hP hD hS hl) (fun h => kf h H locs ls hP hD hS hl)
theorem g_icmp_gt (X : CX E μ Γ) {x y : Int32} {off : Int} {tgt : Nat} (d : decode μ.2.1 pc = .ok (.if_icmp .gt off, 3)) (ht : (pc : Int) + off = (tgt : Int))
    (kt : y < x → GG E μ Γ cells slots ws lv tgt rest) (kf : ¬ y < x → GG E μ Γ cells slots ws lv (pc + 3) rest) : GG E μ Γ cells slots ws lv pc (.int y :: .int x :: rest) :=
  fun H locs ls hP hD hS hl => lv_icmp_gt X.1.1 X.1.2.1 d ht (fun h => kt h H locs ls hP hD hS hl) (fun h => kf h H locs ls hP hD hS hl)
theorem g_if_le (X : CX E μ Γ) {x : Int32} {off : Int} {tgt : Nat} (d : decode μ.2.1 pc = .ok (.ifCond .le off, 3)) (ht : (pc : Int) + off = (tgt : Int))
    (kt : x ≤ 0 → GG E μ Γ cells slots ws lv tgt rest) (kf : ¬ x ≤ 0 → GG E μ Γ cells slots ws lv (pc + 3) rest) : GG E μ Γ cells slots ws lv pc (.int x :: rest) :=
  fun H locs ls hP hD hS hl => lv_if_le X.1.1 X.1.2.1 d ht (fun h => kt h H locs ls hP hD hS hl) (fun h => kf h H locs ls hP hD hS hl)
theorem g_icmp_le (X : CX E μ Γ) {x y : Int32} {off : Int} {tgt : Nat} (d : decode μ.2.1 pc = .ok (.if_icmp .le off, 3)) (ht : (pc : Int) + off = (tgt : Int))
    (kt : x ≤ y → GG E μ Γ cells slots ws lv tgt rest) (kf : ¬ x ≤ y → GG E μ Γ cells slots ws lv (pc + 3) rest) : GG E μ Γ cells slots ws lv pc (.int y :: .int x :: rest) :=
  fun H locs ls hP hD hS hl => lv_icmp_le X.1.1 X.1.2.1 d ht (fun h => kt h H locs ls hP hD hS hl) (fun h => kf h H locs ls hP hD hS hl)
theorem g_bif_eq (X : CX E μ Γ) {b : Bool} {off : Int} {tgt : Nat} (d : decode μ.2.1 pc = .ok (.ifCond .eq off, 3)) (ht : (pc : Int) + off = (tgt : Int))
    (kt : b = false → GG E μ Γ cells slots ws lv tgt rest) (kf : b = true → GG E μ Γ cells slots ws lv (pc + 3) rest) : GG E μ Γ cells slots ws lv pc (.int (b2i b) :: rest) :=
  g_if_eq X d ht (fun h => kt (b2i_0.mp h)) (fun h => kf (by cases b; exact absurd rfl h; rfl))
theorem g_bif_ne (X : CX E μ Γ) {b : Bool} {off : Int} {tgt : Nat} (d : decode μ.2.1 pc = .ok (.ifCond .ne off, 3)) (ht : (pc : Int) + off = (tgt : Int))
    (kt : b = true → GG E μ Γ cells slots ws lv tgt rest) (kf : b = false → GG E μ Γ cells slots ws lv (pc + 3) rest) : GG E μ Γ cells slots ws lv pc (.int (b2i b) :: rest) :=
  g_if_ne X d ht (fun h => kt (by cases b; exact absurd rfl h; rfl)) (fun h => kf (b2i_0.mp h))
theorem g_getf (X : CX E μ Γ) {idx ci j : Nat} (hs : FSite μ.1.cls idx ci j) (q0 : Nat) {a : Nat} {fs : List Value} (he : ws[q0]? = some (a, .inr (ci, fs))) {v : Value} (hv : fs[j]? = some v) (d : decode μ.2.1 pc = .ok (.getfield idx, 3))
    (k : GG E μ Γ cells slots ws lv (pc + 3) (v :: rest)) : GG E μ Γ cells slots ws lv pc (.ref a :: rest) := by
  obtain ⟨C, T, N, h1, h2, h3, h4⟩ := hs
  exact fun H locs ls hP hD hS hl => va_get X.1.1 X.1.2.1 X.1.2.2.2.2 h2 X.1.2.2.2.1 X.2.1.1 hP q0 he h1 j h3 (X.1.2.2.2.2 _ h4) (fun _ h9 => h9) hv d (k H locs ls hP hD hS hl)
theorem g_putf (X : CX E μ Γ) {idx ci j : Nat} {ty : FieldType} (hs : PSite μ.1.cls idx ci j false ty) (q0 : Nat) {a : Nat} {fs : List Value} {v : Value} (he : ws[q0]? = some (a, .inr (ci, fs))) (hn : narrow ty v = v) (hf : fits ty v = true) (hl0 : j < fs.length) (hw : ws.set q0 (a, .inr (ci, fs.set j v)) = ws') (d : decode μ.2.1 pc = .ok (.putfield idx, 3))
    (k : GG E μ Γ cells slots ws' lv (pc + 3) rest) : GG E μ Γ cells slots ws lv pc (v :: .ref a :: rest) := by
  obtain ⟨C, T, N, ty0, h1, h2, h3, h4, h5, h6, h7, h8, -⟩ := hs
  subst hw
  exact fun H locs ls hP hD hS hl => va_put X.1.1 X.1.2.1 X.1.2.2.2.2 h2 ty0 h5 h6 X.1.2.2.2.1 X.2.1.1 hP hD hS q0 he h1 j h3 (X.1.2.2.2.2 _ h4) (fun _ h9 => h9) h7 (by rw [h5 j h3, h8]) hn hf hl0 d (fun H locs hP hD hS => k H locs ls hP hD hS hl)
theorem g_putF (X : CX E μ Γ) {idx ci j : Nat} {ty : FieldType} (hs : PSite μ.1.cls idx ci j true ty) (hin : μ.1.name = "<init>") (q0 : Nat) {a : Nat} {fs : List Value} {v : Value} (he : ws[q0]? = some (a, .inr (ci, fs))) (hn : narrow ty v = v) (hf : fits ty v = true) (hl0 : j < fs.length) (hw : ws.set q0 (a, .inr (ci, fs.set j v)) = ws') (d : decode μ.2.1 pc = .ok (.putfield idx, 3))
    (k : GG E μ Γ cells slots ws' lv (pc + 3) rest) : GG E μ Γ cells slots ws lv pc (v :: .ref a :: rest) := by
  obtain ⟨C, T, N, ty0, h1, h2, h3, h4, h5, h6, h7, h8, h9⟩ := hs
  subst hw
  exact fun H locs ls hP hD hS hl => va_putF X.1.1 X.1.2.1 X.1.2.2.2.2 h2 ty0 h5 h6 X.1.2.2.2.1 X.2.1.1 hP hD hS q0 he h1 j h3 (X.1.2.2.2.2 _ h4) (fun _ h9 => h9) h7 (X.2.2.2.2.2.trans hin) h9 (by rw [h5 j h3, h8]) hn hf hl0 d (fun H locs hP hD hS => k H locs ls hP hD hS hl)
theorem g_iald (X : CX E μ Γ) (q0 : Nat) {a n : Nat} {f : Nat → Int32} (ha : ws[q0]? = some (a, .inl (E.2.2 0, n, .inl f))) {i : Int32} (j : Nat) (hin : ix i j n) (d : decode μ.2.1 pc = .ok (.iaload, 1))
    (k : GG E μ Γ cells slots ws lv (pc + 1) (.int (f j) :: rest)) : GG E μ Γ cells slots ws lv pc (.int i :: .ref a :: rest) := by
  obtain ⟨h1, rfl⟩ := hin
  exact fun H locs ls hP hD hS hl => va_iald X.1.1 X.1.2.1 X.2.1.1 hP q0 0 ha rfl h1 d (k H locs ls hP hD hS hl)
theorem g_cald (X : CX E μ Γ) (q0 : Nat) {a n : Nat} {f : Nat → Int32} (ha : ws[q0]? = some (a, .inl (E.2.2 1, n, .inl f))) {i : Int32} (j : Nat) (hin : ix i j n) (d : decode μ.2.1 pc = .ok (.caload, 1))
    (k : GG E μ Γ cells slots ws lv (pc + 1) (.int (f j) :: rest)) : GG E μ Γ cells slots ws lv pc (.int i :: .ref a :: rest) := by
  obtain ⟨h1, rfl⟩ := hin
  exact fun H locs ls hP hD hS hl => va_cald X.1.1 X.1.2.1 X.2.1.1 hP q0 1 ha rfl h1 d (k H locs ls hP hD hS hl)
theorem g_iast (X : CX E μ Γ) (q0 : Nat) {a n : Nat} {f : Nat → Int32} (ha : ws[q0]? = some (a, .inl (E.2.2 0, n, .inl f))) {i x : Int32} (j : Nat) (hin : ix i j n) (hw : ws.set q0 (a, .inl (E.2.2 0, n, .inl (upd f j x))) = ws') (d : decode μ.2.1 pc = .ok (.iastore, 1))
    (k : GG E μ Γ cells slots ws' lv (pc + 1) rest) : GG E μ Γ cells slots ws lv pc (.int x :: .int i :: .ref a :: rest) := by
  obtain ⟨h1, rfl⟩ := hin
  subst hw
  exact fun H locs ls hP hD hS hl => va_iast X.1.1 X.1.2.1 X.2.1.1 hP hD hS q0 0 ha rfl h1 d (fun H locs hP hD hS => k H locs ls hP hD hS hl)
theorem g_cast (X : CX E μ Γ) (q0 : Nat) {a n : Nat} {f : Nat → Int32} (ha : ws[q0]? = some (a, .inl (E.2.2 1, n, .inl f))) {i x : Int32} (j : Nat) (hin : ix i j n) (hw : ws.set q0 (a, .inl (E.2.2 1, n, .inl (upd f j (vp_nar .char x)))) = ws') (d : decode μ.2.1 pc = .ok (.castore, 1))
    (k : GG E μ Γ cells slots ws' lv (pc + 1) rest) : GG E μ Γ cells slots ws lv pc (.int x :: .int i :: .ref a :: rest) := by
  obtain ⟨h1, rfl⟩ := hin
  subst hw
  exact fun H locs ls hP hD hS hl => va_cast X.1.1 X.1.2.1 X.2.1.1 hP hD hS q0 1 ha rfl h1 d (fun H locs hP hD hS => k H locs ls hP hD hS hl)
theorem g_alen (X : CX E μ Γ) (q0 t0 : Nat) {a : Nat} {x : vp_A} {cA : ClassId} {ty : FieldType} (ha : ws[q0]? = some (a, .inl (cA, x))) (ht : (tysA E.2.2)[t0]? = some (cA, ty)) {v : Int32} (hv : nI x.1 = v) (d : decode μ.2.1 pc = .ok (.arraylength, 1))
    (k : GG E μ Γ cells slots ws lv (pc + 1) (.int v :: rest)) : GG E μ Γ cells slots ws lv pc (.ref a :: rest) :=
  fun H locs ls hP hD hS hl => va_alen X.1.1 X.1.2.1 X.2.1.1 hP q0 t0 ha ht hv d (k H locs ls hP hD hS hl)
/-- a reference out of an array of Towns, or of rows -/
theorem g_aald (X : CX E μ Γ) (q0 : Nat) {a n : Nat} {f : Nat → Option Nat} (ha : ws[q0]? = some (a, .inl (E.2.2 3, n, .inr (.inr (.inr (.inr f)))))) {i : Int32} (j : Nat) {y : Nat} (hin : ix i j n) (hy : f j = some y) (d : decode μ.2.1 pc = .ok (.aaload, 1))
    (k : GG E μ Γ cells slots ws lv (pc + 1) (.ref y :: rest)) : GG E μ Γ cells slots ws lv pc (.int i :: .ref a :: rest) := by
  obtain ⟨h1, rfl⟩ := hin
  refine fun H locs ls hP hD hS hl => va_aldq X.1.1 X.1.2.1 X.2.1.1 hP q0 3 ha rfl h1 d ?_
  rw [hy]
  exact k H locs ls hP hD hS hl
theorem g_raald (X : CX E μ Γ) (q0 : Nat) {a n : Nat} {f : Nat → Option Nat} (ha : ws[q0]? = some (a, .inl (E.2.2 2, n, .inr (.inr (.inr (.inr f)))))) {i : Int32} (j : Nat) {y : Nat} (hin : ix i j n) (hy : f j = some y) (d : decode μ.2.1 pc = .ok (.aaload, 1))
    (k : GG E μ Γ cells slots ws lv (pc + 1) (.ref y :: rest)) : GG E μ Γ cells slots ws lv pc (.int i :: .ref a :: rest) := by
  obtain ⟨h1, rfl⟩ := hin
  intro H locs ls hP hD hS hl
  have hlt : i.toNatClampNeg < n := Nat.not_le.mp fun q => h1 (Or.inr q)
  refine W.aald (v := va_rf (f i.toNatClampNeg)) (ty := .array .int) X.1.1 X.1.2.1 (hP q0 _ ha) ((X.2.1.1.2 2 _ rfl).1 n (fun j => va_rf (f j))) rfl (fun q => by cases q) (by show ¬ (i < 0 ∨ (arrV _ _ _).slots.size ≤ _); rw [arrV_size]; exact h1) (by show (arrV _ _ _).slots[_]? = _; rw [arrV_read _ _ hlt]) rfl rfl d ?_
  rw [hy]
  exact k H locs ls hP hD hS hl
theorem g_aast (X : CX E μ Γ) (q0 qk ci : Nat) {a n y : Nat} {vs : List Value} {f : Nat → Option Nat} {r : vw_C} (ha : ws[q0]? = some (a, .inl (E.2.2 3, n, .inr (.inr (.inr (.inr f)))))) (hv : ws[qk]? = some (y, .inr (ci, vs))) (hc : vwCl[ci]? = some r) (hr : r.1 = "TwoSurveys$Towns") {i : Int32} (j : Nat) (hin : ix i j n) (hw : ws.set q0 (a, .inl (E.2.2 3, n, .inr (.inr (.inr (.inr (va_up f j (some y))))))) = ws') (d : decode μ.2.1 pc = .ok (.aastore, 1))
    (k : GG E μ Γ cells slots ws' lv (pc + 1) rest) : GG E μ Γ cells slots ws lv pc (.ref y :: .int i :: .ref a :: rest) := by
  obtain ⟨h1, rfl⟩ := hin
  subst hw
  exact fun H locs ls hP hD hS hl => va_astq X.1.1 X.1.2.1 X.2.1.1 hP hD hS q0 3 qk ci ha (by rw [hr]; rfl) hv hc h1 d (fun H locs hP hD hS => k H locs ls hP hD hS hl)
theorem g_max (X : CX E μ Γ) {idx : Nat} (hs : MSite μ.1.cls idx Lib.Math.max.name Lib.Math.max.code 2) {x y : Int32} (hR : 1 ≤ μ.2.2.2.2.frames ∧ (rest.map fun v => v.category).sum + 13 ≤ μ.2.2.2.2.locals ∧ cells ≤ μ.2.2.2.2.cells ∧ slots ≤ μ.2.2.2.2.slots) (d : decode μ.2.1 pc = .ok (.invokestatic idx, 3))
    (k : GG E μ Γ cells slots ws lv (pc + 3) (.int (if x < y then y else x) :: rest)) : GG E μ Γ cells slots ws lv pc (.int y :: .int x :: rest) :=
  fun H locs ls hP hD hS hl => va_mmax X.1.1 X.1.2.1 (X.1.2.2.1.trans hl.1.symm) X.1.2.2.2.1 (X.1.2.2.2.2 _ hs.1) (X.1.2.2.2.2 _ hs.2.1) (X.1.2.2.2.2 _ hs.2.2.1) (X.1.2.2.2.2 _ hs.2.2.2) hR.1 hR.2.1 hR.2.2.1 hR.2.2.2 d (k H locs ls hP hD hS hl)
theorem g_min (X : CX E μ Γ) {idx : Nat} (hs : MSite μ.1.cls idx Lib.Math.min.name Lib.Math.min.code 2) {x y : Int32} (hR : 1 ≤ μ.2.2.2.2.frames ∧ (rest.map fun v => v.category).sum + 13 ≤ μ.2.2.2.2.locals ∧ cells ≤ μ.2.2.2.2.cells ∧ slots ≤ μ.2.2.2.2.slots) (d : decode μ.2.1 pc = .ok (.invokestatic idx, 3))
    (k : GG E μ Γ cells slots ws lv (pc + 3) (.int (if y < x then y else x) :: rest)) : GG E μ Γ cells slots ws lv pc (.int y :: .int x :: rest) :=
  fun H locs ls hP hD hS hl => va_mmin X.1.1 X.1.2.1 (X.1.2.2.1.trans hl.1.symm) X.1.2.2.2.1 (X.1.2.2.2.2 _ hs.1) (X.1.2.2.2.2 _ hs.2.1) (X.1.2.2.2.2 _ hs.2.2.1) (X.1.2.2.2.2 _ hs.2.2.2) hR.1 hR.2.1 hR.2.2.1 hR.2.2.2 d (k H locs ls hP hD hS hl)
theorem g_abs (X : CX E μ Γ) {idx : Nat} (hs : MSite μ.1.cls idx Lib.Math.abs.name Lib.Math.abs.code 1) {x : Int32} (hR : 1 ≤ μ.2.2.2.2.frames ∧ (rest.map fun v => v.category).sum + 13 ≤ μ.2.2.2.2.locals ∧ cells ≤ μ.2.2.2.2.cells ∧ slots ≤ μ.2.2.2.2.slots) (d : decode μ.2.1 pc = .ok (.invokestatic idx, 3))
    (k : GG E μ Γ cells slots ws lv (pc + 3) (.int (if 0 ≤ x then x else 0 - x) :: rest)) : GG E μ Γ cells slots ws lv pc (.int x :: rest) :=
  fun H locs ls hP hD hS hl => va_mabs X.1.1 X.1.2.1 (X.1.2.2.1.trans hl.1.symm) X.1.2.2.2.1 (X.1.2.2.2.2 _ hs.1) (X.1.2.2.2.2 _ hs.2.1) (X.1.2.2.2.2 _ hs.2.2.1) (X.1.2.2.2.2 _ hs.2.2.2) hR.1 hR.2.1 hR.2.2.1 hR.2.2.2 d (k H locs ls hP hD hS hl)
/-- a row of ints copied whole, from place 0 to place 0 -/
theorem g_copy (X : CX E μ Γ) {idx : Nat} (hs : ASite μ.1.cls idx) (q0 q1 : Nat) {a0 a n : Nat} {f g : Nat → Int32} (ha0 : ws[q0]? = some (a0, .inl (E.2.2 0, n, .inl f))) (ha1 : ws[q1]? = some (a, .inl (E.2.2 0, n, .inl g))) {x : Int32} (hx : ix x n (n + 1)) (hw : ws.set q1 (a, .inl (E.2.2 0, n, .inl (va_cpy f g 0 0 n))) = ws')
    (hR : 1 ≤ μ.2.2.2.2.frames ∧ (rest.map fun v => v.category).sum + (nativeFrameWords "java/lang/System" "arraycopy" 5 + 11) ≤ μ.2.2.2.2.locals) (d : decode μ.2.1 pc = .ok (.invokestatic idx, 3))
    (k : GG E μ Γ cells slots ws' lv (pc + 3) rest) : GG E μ Γ cells slots ws lv pc (.int x :: .int 0 :: .ref a :: .int 0 :: .ref a0 :: rest) := by
  subst hw
  obtain ⟨hx1, hx2⟩ := hx
  refine fun H locs ls hP hD hS hl => va_copyi (sp := 0) (dp := 0) (n := x) X.1.1 X.1.2.1 (X.1.2.2.1.trans hl.1.symm) X.1.2.2.2.1 (X.1.2.2.2.2 _ hs.1) (X.1.2.2.2.2 _ hs.2.1) (X.1.2.2.2.2 _ hs.2.2.1) (X.1.2.2.2.2 _ hs.2.2.2) X.2.1.1 hP hD hS q0 q1 0 0 ha0 ha1 rfl rfl rfl (by decide) (by decide) (fun q => hx1 (Or.inl q)) (by rw [hx2]; exact Nat.le_of_eq (Nat.zero_add n)) (by rw [hx2]; exact Nat.le_of_eq (Nat.zero_add n)) (fun _ _ => rfl) hR.1 hR.2 d (fun H locs hP hD hS => ?_)
  rw [hx2] at hP hD
  exact k H locs ls hP hD hS hl
theorem rmOK_sp {ν μ : MD} (h : rmOK ν μ = true) : ν.2.2.2.2.cells = 0 ∧ ν.2.2.2.2.slots = 0 ∧ ν.2.2.2.2.frames + 1 ≤ μ.2.2.2.2.frames ∧ 8 + (ν.2.2.1 + 11) + ν.2.2.2.2.locals ≤ μ.2.2.2.2.locals := by
  simpa [rmOK, Bool.and_eq_true, and_assoc] using h
theorem g_callVP (X : CX E μ Γ) {ν : MD} {b : Nat} {As : List Value} {wc wc' wr : va_W} {v : Option Value} {idx n ci q0 : Nat} {fs : List Value} {st : List Value} (hM : CT E ν (.ref b :: As) wc v wc') (hs : VSite μ.1.cls idx ν n) (hR : rmOK ν μ = true) (hp : ws.Perm (wc ++ wr)) (ha : wc'.map Prod.fst = wc.map Prod.fst) (hp' : ws'.Perm (wc' ++ wr))
    (hrecv : wc[q0]? = some (b, .inr (ci, fs))) (hcl : (vwCl[ci]?).map Prod.fst = some ν.1.cls) (hst : st = As.reverse ++ .ref b :: rest) (hn : As.length = n) (hcat : (rest.map fun v => v.category).sum ≤ 8) (d : decode μ.2.1 pc = .ok (.invokevirtual idx, 3))
    {st2 : List Value} (hs2 : v.toList ++ rest = st2) (k : GG E μ Γ cells slots ws' lv (pc + 3) st2) (hcs : cells ≤ μ.2.2.2.2.cells ∧ slots ≤ μ.2.2.2.2.slots := by exact ⟨Nat.zero_le _, Nat.zero_le _⟩) : GG E μ Γ cells slots ws lv pc st := by
  subst hs2
  obtain ⟨hR1, hR2, hR3, hR4⟩ := rmOK_sp hR
  intro H locs ls hP hD hS hl
  have hPa := va_P_perm hp hP
  have hDa := va_D_perm hp hD
  have hPc : va_P E.2.1 vwCl wc H := va_P_iff.mpr (fun q hq => va_P_iff.mp hPa q (List.mem_append_left _ hq))
  have hDc := va_D_left hDa
  have hFc : ∀ q, va_A wc H.size q → Γ.2.2.2.2.2.2.2.2.1 q := fun q hq => by
    rcases hq with ⟨j, e, h3⟩ | h3
    · exact hDc.2 j _ h3
    · exact X.2.2.1 q (Nat.le_trans hS.1 h3)
  obtain ⟨q, hq1, hq2⟩ := Option.map_eq_some_iff.mp hcl
  refine run_go (va_runV ⟨X.1.1, X.1.2.1, X.1.2.2.1, X.1.2.2.2.1, X.1.2.2.2.2⟩ (hM H.size) (cwV n X.1.2.2.2.2 hs.1 rfl hR1 hR2 hs.2 ⟨hR3, hR4⟩) ⟨CTp.blind, by rw [← hq2]; exact va_recv X.2.1.1 hPc hq1 hrecv, fun U hU hW => ⟨rfl, by rw [hU], by rw [hU]; exact hPc, EV.warm hW X.2.1, hDc.weaken (fun _ _ _ _ => trivial)⟩⟩ rfl hn hl.1 hst (lv_room hcat) d (by exact hcs)) hS (fun q _ h => hFc q h) hFc (fun H1 locs1 hP1 hz hk hS1 => ?_)
  obtain ⟨hP', hD'⟩ := va_after hPa hDa ha hk hP1
  exact k H1 locs1 ls (va_P_perm hp'.symm hP') (va_D_perm hp'.symm hD') hS1 hl
theorem g_callSP (X : CX E μ Γ) {ν : MD} {As : List Value} {wc wc' wr : va_W} {v : Option Value} {idx n : Nat} {st : List Value} (hM : CT E ν As wc v wc') (hs : SSite μ.1.cls idx ν n) (hR : rmOK ν μ = true) (hp : ws.Perm (wc ++ wr)) (ha : wc'.map Prod.fst = wc.map Prod.fst) (hp' : ws'.Perm (wc' ++ wr))
    (hst : st = As.reverse ++ rest) (hn : As.length = n) (hcat : (rest.map fun v => v.category).sum ≤ 8) (d : decode μ.2.1 pc = .ok (.invokestatic idx, 3))
    {st2 : List Value} (hs2 : v.toList ++ rest = st2) (k : GG E μ Γ cells slots ws' lv (pc + 3) st2) (hcs : cells ≤ μ.2.2.2.2.cells ∧ slots ≤ μ.2.2.2.2.slots := by exact ⟨Nat.zero_le _, Nat.zero_le _⟩) : GG E μ Γ cells slots ws lv pc st := by
  subst hs2
  obtain ⟨hR1, hR2, hR3, hR4⟩ := rmOK_sp hR
  intro H locs ls hP hD hS hl
  have hPa := va_P_perm hp hP
  have hDa := va_D_perm hp hD
  have hPc : va_P E.2.1 vwCl wc H := va_P_iff.mpr (fun q hq => va_P_iff.mp hPa q (List.mem_append_left _ hq))
  have hDc := va_D_left hDa
  have hFc : ∀ q, va_A wc H.size q → Γ.2.2.2.2.2.2.2.2.1 q := fun q hq => by
    rcases hq with ⟨j, e, h3⟩ | h3
    · exact hDc.2 j _ h3
    · exact X.2.2.1 q (Nat.le_trans hS.1 h3)
  refine run_go (va_runS ⟨X.1.1, X.1.2.1, X.1.2.2.1, X.1.2.2.2.1, X.1.2.2.2.2⟩ (hM H.size) (va_cwS n X.1.2.2.2.2 hs.1 rfl hR1 hR2 hs.2 ⟨hR3, hR4⟩) ⟨CTp.blind, fun U hU hW => ⟨rfl, by rw [hU], by rw [hU]; exact hPc, EV.warm hW X.2.1, hDc.weaken (fun _ _ _ _ => trivial)⟩⟩ rfl hn hl.1 hst (lv_room hcat) d (by exact hcs)) hS (fun q _ h => hFc q h) hFc (fun H1 locs1 hP1 hz hk hS1 => ?_)
  obtain ⟨hP', hD'⟩ := va_after hPa hDa ha hk hP1
  exact k H1 locs1 ls (va_P_perm hp'.symm hP') (va_D_perm hp'.symm hD') hS1 hl
theorem sg_fst : ∀ (C C' : List va_W), C'.map (List.map Prod.fst) = C.map (List.map Prod.fst) → C'.flatten.map Prod.fst = C.flatten.map Prod.fst := by
  intro C C' h
  rw [List.map_flatten, List.map_flatten, h]
theorem g_callV (X : CX E μ Γ) {S S' C C' : List va_W} {ν : MD} {b : Nat} {As : List Value} {v : Option Value} {idx n ci q0 : Nat} {fs : List Value} {st : List Value} (hM : CT E ν (.ref b :: As) C.flatten v C'.flatten) (hs : VSite μ.1.cls idx ν n) (hR : rmOK ν μ = true) (is js : List Nat) (N : Nat) (hN : S.length = N) (hN' : S'.length = N) (hp : (is ++ js).Perm (List.range N)) (R : List va_W) (hC : sgP S is = C) (hC' : sgP S' is = C') (hR0 : sgP S js = R) (hR' : sgP S' js = R) (ha : C'.map (List.map Prod.fst) = C.map (List.map Prod.fst))
    (hrecv : C.flatten[q0]? = some (b, .inr (ci, fs))) (hcl : (vwCl[ci]?).map Prod.fst = some ν.1.cls) (hst : st = As.reverse ++ .ref b :: rest) (hn : As.length = n) (hcat : (rest.map fun v => v.category).sum ≤ 8) (d : decode μ.2.1 pc = .ok (.invokevirtual idx, 3))
    {st2 : List Value} (hs2 : v.toList ++ rest = st2) (k : GG E μ Γ cells slots S'.flatten lv (pc + 3) st2) (hcs : cells ≤ μ.2.2.2.2.cells ∧ slots ≤ μ.2.2.2.2.slots := by exact ⟨Nat.zero_le _, Nat.zero_le _⟩) : GG E μ Γ cells slots S.flatten lv pc st := by
  subst hC hC' hR0
  exact g_callVP X hM hs hR (sgP_perm hN hp) (sg_fst _ _ ha) (by have := sgP_perm hN' hp; rw [hR'] at this; exact this) hrecv hcl hst hn hcat d hs2 k hcs
theorem g_callS (X : CX E μ Γ) {S S' C C' : List va_W} {ν : MD} {As : List Value} {v : Option Value} {idx n : Nat} {st : List Value} (hM : CT E ν As C.flatten v C'.flatten) (hs : SSite μ.1.cls idx ν n) (hR : rmOK ν μ = true) (is js : List Nat) (N : Nat) (hN : S.length = N) (hN' : S'.length = N) (hp : (is ++ js).Perm (List.range N)) (R : List va_W) (hC : sgP S is = C) (hC' : sgP S' is = C') (hR0 : sgP S js = R) (hR' : sgP S' js = R) (ha : C'.map (List.map Prod.fst) = C.map (List.map Prod.fst))
    (hst : st = As.reverse ++ rest) (hn : As.length = n) (hcat : (rest.map fun v => v.category).sum ≤ 8) (d : decode μ.2.1 pc = .ok (.invokestatic idx, 3))
    {st2 : List Value} (hs2 : v.toList ++ rest = st2) (k : GG E μ Γ cells slots S'.flatten lv (pc + 3) st2) (hcs : cells ≤ μ.2.2.2.2.cells ∧ slots ≤ μ.2.2.2.2.slots := by exact ⟨Nat.zero_le _, Nat.zero_le _⟩) : GG E μ Γ cells slots S.flatten lv pc st := by
  subst hC hC' hR0
  exact g_callSP X hM hs hR (sgP_perm hN hp) (sg_fst _ _ ha) (by have := sgP_perm hN' hp; rw [hR'] at this; exact this) hst hn hcat d hs2 k hcs
theorem g_callVr (X : CX E μ Γ) {S C : List va_W} {ν : MD} {b : Nat} {As : List Value} {v : Option Value} {idx n ci q0 : Nat} {fs : List Value} {st : List Value} (hM : CT E ν (.ref b :: As) C.flatten v C.flatten) (hs : VSite μ.1.cls idx ν n) (hR : rmOK ν μ = true) (is js : List Nat) (N : Nat) (hN : S.length = N) (hp : (is ++ js).Perm (List.range N)) (hC : sgP S is = C)
    (hrecv : C.flatten[q0]? = some (b, .inr (ci, fs))) (hcl : (vwCl[ci]?).map Prod.fst = some ν.1.cls) (hst : st = As.reverse ++ .ref b :: rest) (hn : As.length = n) (hcat : (rest.map fun v => v.category).sum ≤ 8) (d : decode μ.2.1 pc = .ok (.invokevirtual idx, 3))
    {st2 : List Value} (hs2 : v.toList ++ rest = st2) (k : GG E μ Γ cells slots S.flatten lv (pc + 3) st2) (hcs : cells ≤ μ.2.2.2.2.cells ∧ slots ≤ μ.2.2.2.2.slots := by exact ⟨Nat.zero_le _, Nat.zero_le _⟩) : GG E μ Γ cells slots S.flatten lv pc st :=
  g_callV X hM hs hR is js N hN hN hp _ hC hC rfl rfl rfl hrecv hcl hst hn hcat d hs2 k hcs
theorem g_callSr (X : CX E μ Γ) {S C : List va_W} {ν : MD} {As : List Value} {v : Option Value} {idx n : Nat} {st : List Value} (hM : CT E ν As C.flatten v C.flatten) (hs : SSite μ.1.cls idx ν n) (hR : rmOK ν μ = true) (is js : List Nat) (N : Nat) (hN : S.length = N) (hp : (is ++ js).Perm (List.range N)) (hC : sgP S is = C)
    (hst : st = As.reverse ++ rest) (hn : As.length = n) (hcat : (rest.map fun v => v.category).sum ≤ 8) (d : decode μ.2.1 pc = .ok (.invokestatic idx, 3))
    {st2 : List Value} (hs2 : v.toList ++ rest = st2) (k : GG E μ Γ cells slots S.flatten lv (pc + 3) st2) (hcs : cells ≤ μ.2.2.2.2.cells ∧ slots ≤ μ.2.2.2.2.slots := by exact ⟨Nat.zero_le _, Nat.zero_le _⟩) : GG E μ Γ cells slots S.flatten lv pc st :=
  g_callS X hM hs hR is js N hN hN hp _ hC hC rfl rfl rfl hst hn hcat d hs2 k hcs
/-- a static method of a nest mate, of no cell -/
theorem g_callN (X : CX E μ Γ) {ν : MD} {As : List Value} {v : Option Value} {idx n : Nat} {host : String} {st : List Value} (hM : CT E ν As [] v []) (hs : NSite μ.1.cls idx ν host n) (hR : rmOK ν μ = true)
    (hst : st = As.reverse ++ rest) (hn : As.length = n) (hcat : (rest.map fun v => v.category).sum ≤ 8) (d : decode μ.2.1 pc = .ok (.invokestatic idx, 3))
    {st2 : List Value} (hs2 : v.toList ++ rest = st2) (k : GG E μ Γ cells slots ws lv (pc + 3) st2) (hcs : cells ≤ μ.2.2.2.2.cells ∧ slots ≤ μ.2.2.2.2.slots := by exact ⟨Nat.zero_le _, Nat.zero_le _⟩) : GG E μ Γ cells slots ws lv pc st := by
  subst hs2
  obtain ⟨hR1, hR2, hR3, hR4⟩ := rmOK_sp hR
  intro H locs ls hP hD hS hl
  have hPc : va_P E.2.1 vwCl [] H := fun k q hk => by simp at hk
  have hFc : ∀ q, va_A [] H.size q → Γ.2.2.2.2.2.2.2.2.1 q := va_free hD hS X.2.2.1 [] rfl
  obtain ⟨s1, s2, s3, s4, s5⟩ := hs
  refine run_go (va_runSN ⟨X.1.1, X.1.2.1, X.1.2.2.1, X.1.2.2.2.1, X.1.2.2.2.2⟩ (hM H.size) ⟨va_cnB n X.1.2.2.2.2 s1 rfl hR1 hR2 (X.2.1.2 _ s2) (X.1.2.2.2.2 _ s4) s5 ⟨hR3, hR4⟩, X.1.2.2.2.2 _ s3, trivial⟩ ⟨CTp.blind, fun U hU hW => ⟨rfl, by rw [hU], by rw [hU]; exact hPc, EV.warm hW X.2.1, va_D.sub hD [] rfl rfl |>.weaken (fun _ _ _ _ => trivial)⟩⟩ rfl hn hl.1 hst (lv_room hcat) d (by exact hcs)) hS (fun q _ h => hFc q h) hFc (fun H1 locs1 hP1 hz hk hS1 => ?_)
  obtain ⟨hP', hD'⟩ := va_after (wc := []) (w1 := []) hP hD rfl hk hP1
  exact k H1 locs1 ls hP' hD' hS1 hl
theorem g_iretv (X : CX E μ Γ) {r0 r : Int32} {w' : va_W} (hx : RX E μ Γ (some (.int r0)) w') (hr : μ.2.2.2.1 = some .int) (hv : r0 = r) (hw : w' = ws) (d : decode μ.2.1 pc = .ok (.ireturn, 1)) : GG E μ Γ 0 0 ws lv pc [.int r] := by
  subst hv
  intro H locs ls hP hD hS hl
  rw [hx]
  exact W.iret X.1.1 X.1.2.1 (X.2.2.2.1.trans hr) (fun t ht hW => ⟨⟨rfl, by rw [ht, hw]; exact hP⟩, hS.F ht⟩) hS.2.2 d X.2.2.2.2.1
theorem g_zretv (X : CX E μ Γ) {b : Bool} {r : Int32} {w' : va_W} (hx : RX E μ Γ (some (.int (b2i b))) w') (hr : μ.2.2.2.1 = some .boolean) (hv : b2i b = r) (hw : w' = ws) (d : decode μ.2.1 pc = .ok (.ireturn, 1)) : GG E μ Γ 0 0 ws lv pc [.int r] := by
  subst hv
  intro H locs ls hP hD hS hl
  rw [hx]
  exact W.zret X.1.1 X.1.2.1 (X.2.2.2.1.trans hr) (by cases b <;> rfl) (fun t ht hW => ⟨⟨rfl, by rw [ht, hw]; exact hP⟩, hS.F ht⟩) hS.2.2 d X.2.2.2.2.1
theorem g_iret (X : CX E μ Γ) {v : Option Value} {w' : va_W} (hx : RX E μ Γ v w') {r : Int32} (hr : μ.2.2.2.1 = some .int) (hv : v = some (.int r)) (hw : w' = ws) (d : decode μ.2.1 pc = .ok (.ireturn, 1)) : GG E μ Γ 0 0 ws lv pc [.int r] := by
  intro H locs ls hP hD hS hl
  rw [hx]
  exact W.iret X.1.1 X.1.2.1 (X.2.2.2.1.trans hr) (fun t ht hW => ⟨⟨by rw [hv], by rw [ht, hw]; exact hP⟩, hS.F ht⟩) hS.2.2 d X.2.2.2.2.1
theorem g_zret (X : CX E μ Γ) {v : Option Value} {w' : va_W} (hx : RX E μ Γ v w') {r : Int32} (b : Bool) (hb : r = b2i b) (hr : μ.2.2.2.1 = some .boolean) (hv : v = some (.int (b2i b))) (hw : w' = ws) (d : decode μ.2.1 pc = .ok (.ireturn, 1)) : GG E μ Γ 0 0 ws lv pc [.int r] := by
  subst hb
  intro H locs ls hP hD hS hl
  rw [hx]
  exact W.zret X.1.1 X.1.2.1 (X.2.2.2.1.trans hr) (by cases b <;> rfl) (fun t ht hW => ⟨⟨by rw [hv], by rw [ht, hw]; exact hP⟩, hS.F ht⟩) hS.2.2 d X.2.2.2.2.1
theorem g_vret (X : CX E μ Γ) {v : Option Value} {w' : va_W} (hx : RX E μ Γ v w') (hr : μ.2.2.2.1 = none) (hv : v = none) (hw : w' = ws) (d : decode μ.2.1 pc = .ok (.return_, 1)) : GG E μ Γ 0 0 ws lv pc [] := by
  intro H locs ls hP hD hS hl
  rw [hx]
  exact W.vret X.1.1 X.1.2.1 (X.2.2.2.1.trans hr) (fun t ht hW => ⟨⟨by rw [hv], by rw [ht, hw]; exact hP⟩, hS.F ht⟩) hS.2.2 d X.2.2.2.2.1
theorem g_aret (X : CX E μ Γ) {v : Option Value} {w' : va_W} (hx : RX E μ Γ v w') {y : Nat} {C : String} (hr : μ.2.2.2.1 = some (.object C)) (hv : v = some (.ref y)) (hw : w' = ws) (d : decode μ.2.1 pc = .ok (.areturn, 1)) : GG E μ Γ 0 0 ws lv pc [.ref y] := by
  intro H locs ls hP hD hS hl
  rw [hx]
  exact W.aret X.1.1 X.1.2.1 (X.2.2.2.1.trans hr) (Or.inl ⟨_, rfl⟩) (Or.inr ⟨_, rfl⟩) (fun t ht hW => ⟨⟨by rw [hv], by rw [ht, hw]; exact hP⟩, hS.F ht⟩) hS.2.2 d X.2.2.2.2.1
/-- numbers that are known -/
theorem g_iaddN (X : CX E μ Γ) {x y : Nat} (d : decode μ.2.1 pc = .ok (.iadd, 1)) (k : GG E μ Γ cells slots ws lv (pc + 1) (.int (nI (x + y)) :: rest)) : GG E μ Γ cells slots ws lv pc (.int (nI y) :: .int (nI x) :: rest) := g_iadd X d (by rw [nI_add]; exact k)
theorem g_imulN (X : CX E μ Γ) {x y : Nat} (d : decode μ.2.1 pc = .ok (.imul, 1)) (k : GG E μ Γ cells slots ws lv (pc + 1) (.int (nI (x * y)) :: rest)) : GG E μ Γ cells slots ws lv pc (.int (nI y) :: .int (nI x) :: rest) := g_imul X d (by rw [pk_mul]; exact k)
theorem g_isubN (X : CX E μ Γ) {x y : Nat} (h : y ≤ x) (d : decode μ.2.1 pc = .ok (.isub, 1)) (k : GG E μ Γ cells slots ws lv (pc + 1) (.int (nI (x - y)) :: rest)) : GG E μ Γ cells slots ws lv pc (.int (nI y) :: .int (nI x) :: rest) := g_isub X d (by rw [pk_sub h]; exact k)
theorem nI_nz {y : Nat} (h0 : 0 < y) (hy : y < 2 ^ 31) : ¬ nI y = 0 := nI_ne0 h0 hy
theorem g_idivN (X : CX E μ Γ) {x y : Nat} (hx : x < 2 ^ 31) (h0 : 0 < y) (hy : y < 2 ^ 31) (d : decode μ.2.1 pc = .ok (.idiv, 1)) (k : GG E μ Γ cells slots ws lv (pc + 1) (.int (nI (x / y)) :: rest)) : GG E μ Γ cells slots ws lv pc (.int (nI y) :: .int (nI x) :: rest) := g_idiv X d (nI_nz h0 hy) (by rw [pk_div hx h0 hy]; exact k)
theorem g_iremN (X : CX E μ Γ) {x y : Nat} (hx : x < 2 ^ 31) (h0 : 0 < y) (hy : y < 2 ^ 31) (d : decode μ.2.1 pc = .ok (.irem, 1)) (k : GG E μ Γ cells slots ws lv (pc + 1) (.int (nI (x % y)) :: rest)) : GG E μ Γ cells slots ws lv pc (.int (nI y) :: .int (nI x) :: rest) := g_irem X d (nI_nz h0 hy) (by rw [pk_rem hx h0 hy]; exact k)
theorem g_iincN (X : CX E μ Γ) {i : Nat} (q : Nat) {x : Nat} (d : decode μ.2.1 pc = .ok (.iinc i 1, 3)) (hk : lv[q]? = some (i, .int (nI x))) (hn : i < μ.2.2.1) (h : (i, Value.int (nI (x + 1))) :: lv.filter (fun q => !(q.1 == i) && !(q.1 + 1 == i && q.2.category == 2)) = lv')
    (k : GG E μ Γ cells slots ws lv' (pc + 3) rest) : GG E μ Γ cells slots ws lv pc rest := g_iinc X q d hk (nI_1 x) hn h k
end GGI
