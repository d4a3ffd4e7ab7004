/-! ===== the layer: a contract from world to world (no cell comes), one row an instruction, over a bundled context ===== -/
abbrev GE : Type := Launch × va_G × (Nat → ClassId)
abbrev MD : Type := MethodName × ByteArray × Nat × Option FieldType × Room
abbrev GC : Type := Program × Env × State × MethodId × Array Value × List Frame × Method × Code × (Nat → Prop) × (State → Prop)
def tysA (z : Nat → ClassId) : List (ClassId × FieldType) := [(z 0, .int), (z 1, .char), (z 2, .array .int), (z 3, .object "TwoSurveys$Towns")]
def nwL : List (String × Nat × MethodName × String) := [("TwoSurveys", 9, ⟨"TwoSurveys$Text", "<init>", "()V"⟩, "TwoSurveys"), ("TwoSurveys", 18, ⟨"TwoSurveys$Reader", "<init>", "()V"⟩, "TwoSurveys"), ("TwoSurveys", 25, ⟨"TwoSurveys$Towns", "<init>", "()V"⟩, "TwoSurveys"), ("TwoSurveys$Towns", 11, ⟨"TwoSurveys$Survey", "<init>", "()V"⟩, "TwoSurveys"), ("TwoSurveys$Pile", 21, ⟨"TwoSurveys$Towns", "<init>", "()V"⟩, "TwoSurveys"), ("TwoSurveys", 51, ⟨"TwoSurveys$Matching", "<init>", "()V"⟩, "TwoSurveys"), ("TwoSurveys", 58, ⟨"TwoSurveys$Way", "<init>", "()V"⟩, "TwoSurveys"), ("TwoSurveys", 65, ⟨"TwoSurveys$Transfer", "<init>", "()V"⟩, "TwoSurveys"), ("TwoSurveys$Reader", 49, ⟨"TwoSurveys", "isWithin", "(III)Z"⟩, "TwoSurveys"), ("TwoSurveys$Towns", 35, ⟨"TwoSurveys", "isRadius", "(I)Z"⟩, "TwoSurveys"), ("TwoSurveys$Towns", 39, ⟨"TwoSurveys", "isRounds", "(I)Z"⟩, "TwoSurveys"), ("TwoSurveys$Survey", 61, ⟨"TwoSurveys", "isWithin", "(III)Z"⟩, "TwoSurveys"), ("TwoSurveys$Matching", 62, ⟨"TwoSurveys", "isWithin", "(III)Z"⟩, "TwoSurveys"), ("TwoSurveys$Way", 23, ⟨"TwoSurveys", "isWithin", "(III)Z"⟩, "TwoSurveys"), ("TwoSurveys$Shelves", 18, ⟨"TwoSurveys", "isWithin", "(III)Z"⟩, "TwoSurveys")]
def EV (E : GE) (U : State) : Prop := va_K E.2.1 vwCl (tysA E.2.2) U ∧ ∀ q ∈ nwL, va_Nw (.methodLinkNest q.1 q.2.1 q.2.2.1 q.2.2.2) U
theorem EV.warm {E : GE} {s U : State} (hW : s.WarmedH U.vm) (h : EV E s) : EV E U := ⟨va_K.moved hW.alike h.1, fun q hq => va_Nw.warmM hW (h.2 q hq)⟩
theorem EV.blind {E : GE} {U : State} (g : JFrame) (mk : MethodId) (a : Array Value) (h : EV E U) : EV E (U.calling g mk a) :=
  ⟨va_K.moved (u := U) (U := U.calling g mk a) (Vm.Alike.refl U.vm) h.1, fun q hq => va_Nw.same rfl (rfl : U.vm = (U.calling g mk a).vm) (h.2 q hq)⟩
def TT : List Cond := lw_tbl.filter goodWord
theorem tt_of {w : Cond} (i : Nat) (h : lw_tbl[i]? = some w) (hg : goodWord w = true) : w ∈ TT := List.mem_filter.mpr ⟨List.mem_of_getElem? h, hg⟩
theorem tt_good : ∀ w ∈ TT, (w.onTables && w.keeps) = true ∨ ∃ ty, w = .arrayClass ty := fun w h => good_of_word (List.mem_filter.mp h).2
theorem tt_lw {w : Cond} (h : w ∈ TT) : w ∈ lw_tbl := (List.mem_filter.mp h).1
/-- a field that is read: the class, its words, the link -/
def FSite (own : String) (idx ci k : Nat) : Prop := ∃ (C : String) (T : u_T) (N : Nat), vwCl[ci]? = some (C, T, N) ∧ (∀ w ∈ u_ws C T N, w ∈ TT) ∧ k < N ∧ Cond.fieldLink own idx (T k).1 (T k).2.1 (T k).2.2.1 ∈ TT
/-- a field that is written -/
def PSite (own : String) (idx ci k : Nat) (fin : Bool) (ty : FieldType) : Prop := ∃ (C : String) (T : u_T) (N : Nat) (ty0 : Nat → FieldType), vwCl[ci]? = some (C, T, N) ∧ (∀ w ∈ u_ws C T N, w ∈ TT) ∧ k < N ∧ Cond.fieldLink own idx (T k).1 (T k).2.1 (T k).2.2.1 ∈ TT ∧
  (∀ k, k < N → parseFieldDescriptor (T k).2.2.1 = some (ty0 k)) ∧ (∀ a, a < N → ∀ b, b < N → a ≠ b → (T a).2.1 ≠ (T b).2.1) ∧ (T k).2.2.2 = fin ∧ ty0 k = ty ∧ (T k).1 = own
/-- a call: its words, its form -/
def VSite (own : String) (idx : Nat) (ν : MD) (n : Nat) : Prop := GoodIn TT (wsV own idx ν.1.cls ν.1 (.code ν.1 ν.2.1 ν.2.2.1 ν.2.2.2.1 :: TT)) ∧ (ν.1.cls = ν.1.cls ∧ ν.1.cls ≠ "java/lang/invoke/MethodHandle" ∧ ν.1.cls ≠ "java/lang/invoke/VarHandle" ∧ (parseMethodDescriptor ν.1.desc).map (fun d => d.parameters.length) = some n)
def SSite (own : String) (idx : Nat) (ν : MD) (n : Nat) : Prop := GoodIn TT (va_wsS own idx ν.1 (.code ν.1 ν.2.1 ν.2.2.1 ν.2.2.2.1 :: TT)) ∧ (ν.1.cls ≠ "java/lang/invoke/MethodHandle" ∧ ν.1.cls ≠ "java/lang/invoke/VarHandle" ∧ (parseMethodDescriptor ν.1.desc).map (fun d => d.parameters.length) = some n)
/-- a static method of a nest mate -/
def NSite (own : String) (idx : Nat) (ν : MD) (host : String) (n : Nat) : Prop := GoodIn TT (.code ν.1 ν.2.1 ν.2.2.1 ν.2.2.2.1 :: TT) ∧ (own, idx, ν.1, host) ∈ nwL ∧ Cond.static ν.1 ∈ TT ∧ Cond.initialized ν.1.cls ∈ TT ∧ (ν.1.cls ≠ "java/lang/invoke/MethodHandle" ∧ ν.1.cls ≠ "java/lang/invoke/VarHandle" ∧ (parseMethodDescriptor ν.1.desc).map (fun d => d.parameters.length) = some n)
theorem tt_cons {c : Cond} (h : c ∈ TT) : GoodIn TT (c :: TT) := fun w hw => by
  rcases List.mem_cons.mp hw with e | e
  · subst e; exact ⟨h, tt_good _ h⟩
  · exact ⟨e, tt_good _ e⟩
theorem tt_app {ws ws' : List Cond} (h : ∀ w ∈ ws, w ∈ TT) (h' : GoodIn TT ws') : GoodIn TT (ws ++ ws') := fun w hw => by
  rcases List.mem_append.mp hw with e | e
  · exact ⟨h w e, tt_good _ (h w e)⟩
  · exact h' w e
theorem vsite {own : String} {idx n : Nat} {ν : MD} (h1 : Cond.methodLink own idx ν.1 ∈ TT) (h2 : Cond.instanceMethod ν.1 ∈ TT) (h3 : Cond.selects ν.1.cls ν.1 ν.1 ∈ TT) (h4 : Cond.initialized ν.1.cls ∈ TT) (h5 : Cond.code ν.1 ν.2.1 ν.2.2.1 ν.2.2.2.1 ∈ TT)
    (hd : ν.1.cls ≠ "java/lang/invoke/MethodHandle" ∧ ν.1.cls ≠ "java/lang/invoke/VarHandle" ∧ (parseMethodDescriptor ν.1.desc).map (fun d => d.parameters.length) = some n) : VSite own idx ν n :=
  ⟨tt_app (List.forall_mem_cons.mpr ⟨h1, List.forall_mem_cons.mpr ⟨h2, List.forall_mem_cons.mpr ⟨h3, List.forall_mem_cons.mpr ⟨h4, fun _ h => absurd h List.not_mem_nil⟩⟩⟩⟩) (tt_cons h5), rfl, hd⟩
theorem ssite {own : String} {idx n : Nat} {ν : MD} (h1 : Cond.methodLink own idx ν.1 ∈ TT) (h2 : Cond.static ν.1 ∈ TT) (h4 : Cond.initialized ν.1.cls ∈ TT) (h5 : Cond.code ν.1 ν.2.1 ν.2.2.1 ν.2.2.2.1 ∈ TT)
    (hd : ν.1.cls ≠ "java/lang/invoke/MethodHandle" ∧ ν.1.cls ≠ "java/lang/invoke/VarHandle" ∧ (parseMethodDescriptor ν.1.desc).map (fun d => d.parameters.length) = some n) : SSite own idx ν n :=
  ⟨tt_app (List.forall_mem_cons.mpr ⟨h1, List.forall_mem_cons.mpr ⟨h2, List.forall_mem_cons.mpr ⟨h4, fun _ h => absurd h List.not_mem_nil⟩⟩⟩) (tt_cons h5), hd⟩
/-- the room of a callee, in its caller's -/
def rmOK (ν μ : MD) : Bool := decide (ν.2.2.2.2.cells = 0) && (decide (ν.2.2.2.2.slots = 0) && (decide (ν.2.2.2.2.frames + 1 ≤ μ.2.2.2.2.frames) && decide (8 + (ν.2.2.1 + 11) + ν.2.2.2.2.locals ≤ μ.2.2.2.2.locals)))
def MSite (own : String) (idx : Nat) (y : MethodName) (b : ByteArray) (n : Nat) : Prop := Cond.methodLink own idx y ∈ TT ∧ Cond.static y ∈ TT ∧ Cond.initialized "java/lang/Math" ∈ TT ∧ Cond.code y b n (some .int) ∈ TT
def ASite (own : String) (idx : Nat) : Prop := Cond.methodLink own idx arraycopyName ∈ TT ∧ Cond.native arraycopyName ∈ TT ∧ Cond.static arraycopyName ∈ TT ∧ Cond.initialized "java/lang/System" ∈ TT
