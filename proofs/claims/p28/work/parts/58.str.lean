/-! ===== texts: the methods of the class String that the start calls ===== -/
theorem g_gets {E : GE} {μ : MD} {Γ : GC} {cells slots : Nat} {lv : List (Nat × Value)} {pc : Nat} {rest : List Value} {ws : va_W} (X : CX E μ Γ) {C n d : String} {v : Value} {idx : Nat} (hZ : va_Z C n d v Γ.2.2.2.2.2.2.2.2.1 Γ.2.2.1 Γ.2.2.1.heap) (hl : Cond.fieldLink μ.1.cls idx C n d ∈ TT) (dd : decode μ.2.1 pc = .ok (.getstatic idx, 3))
    (k : GG E μ Γ cells slots ws lv (pc + 3) (v :: rest)) : GG E μ Γ cells slots ws lv pc rest := fun H locs ls hP hD hS h =>
  va_gets X.1.1 X.1.2.1 hZ hS X.1.2.2.2.1 (X.1.2.2.2.2 _ hl) (fun _ h9 => h9) dd (k H locs ls hP hD hS h)
theorem g_strF {E : GE} {μ : MD} {Γ : GC} {cells slots : Nat} {lv : List (Nat × Value)} {pc : Nat} {rest : List Value} {ws : va_W} (X : CX E μ Γ) {o n d : String} {v : Value} {q idx : Nat} (hE : va_OF o n d v q Γ.2.2.2.2.2.2.2.2.1 Γ.2.2.1 Γ.2.2.1.heap) (hl : Cond.fieldLink μ.1.cls idx o n d ∈ TT) (dd : decode μ.2.1 pc = .ok (.getfield idx, 3))
    (k : GG E μ Γ cells slots ws lv (pc + 3) (v :: rest)) : GG E μ Γ cells slots ws lv pc (.ref q :: rest) := fun H locs ls hP hD hS h =>
  vk_getf X.1.1 X.1.2.1 hE hS X.1.2.2.2.1 (X.1.2.2.2.2 _ hl) (fun _ h9 => h9) dd (k H locs ls hP hD hS h)
theorem g_tlen {E : GE} {μ : MD} {Γ : GC} {cells slots : Nat} {lv : List (Nat × Value)} {pc : Nat} {rest : List Value} {ws : va_W} (X : CX E μ Γ) {t N : Nat} {f : Nat → Value} (hT : va_T .byte t N f Γ.2.2.2.2.2.2.2.2.1 Γ.2.2.1 Γ.2.2.1.heap) (dd : decode μ.2.1 pc = .ok (.arraylength, 1))
    (k : GG E μ Γ cells slots ws lv (pc + 1) (.int (nI N) :: rest)) : GG E μ Γ cells slots ws lv pc (.ref t :: rest) := fun H locs ls hP hD hS h =>
  va_tlen X.1.1 X.1.2.1 hT hS rfl dd (k H locs ls hP hD hS h)
theorem g_tb {E : GE} {μ : MD} {Γ : GC} {cells slots : Nat} {lv : List (Nat × Value)} {pc : Nat} {rest : List Value} {ws : va_W} (X : CX E μ Γ) {t N j : Nat} {f : Nat → Value} (hT : va_T .byte t N f Γ.2.2.2.2.2.2.2.2.1 Γ.2.2.1 Γ.2.2.1.heap) (hj : j < N) (hN : N < 2 ^ 31) (dd : decode μ.2.1 pc = .ok (.baload, 1))
    (k : GG E μ Γ cells slots ws lv (pc + 1) (f j :: rest)) : GG E μ Γ cells slots ws lv pc (.int (nI j) :: .ref t :: rest) := fun H locs ls hP hD hS h =>
  va_tb X.1.1 X.1.2.1 hT hS (vp_in_nI hj hN) (by rw [nI_clamp (by omega)]) dd (k H locs ls hP hD hS h)
theorem g_ishr {E : GE} {μ : MD} {Γ : GC} {cells slots : Nat} {lv : List (Nat × Value)} {pc : Nat} {rest : List Value} {ws : va_W} (X : CX E μ Γ) {x y : Int32} (dd : decode μ.2.1 pc = .ok (.ishr, 1))
    (k : GG E μ Γ cells slots ws lv (pc + 1) (.int (x >>> (y &&& 31)) :: rest)) : GG E μ Γ cells slots ws lv pc (.int y :: .int x :: rest) := fun H locs ls hP hD hS h => lv_ishr X.1.1 X.1.2.1 dd (k H locs ls hP hD hS h)
/-- a method of no cell: what it answers -/
def CV (E : GE) (q : Nat × Nat) (μ : MD) (av : List Value) (v : Option Value) : Prop := CN E q μ av [] (fun v' w' => v' = v ∧ w' = [])
theorem g_nret {E : GE} {μ : MD} {Γ : GC} {lv : List (Nat × Value)} {pc : Nat} (X : CX E μ Γ) {r : Int32} {ty : FieldType} (hx : RN E μ Γ (fun v' w' => v' = some (.int r) ∧ w' = [])) (hr : μ.2.2.2.1 = some ty) (hn : narrow ty (.int r) = .int r) (hcs : 0 ≤ μ.2.2.2.2.cells ∧ 0 ≤ μ.2.2.2.2.slots) (d : decode μ.2.1 pc = .ok (.ireturn, 1)) : GG E μ Γ 0 0 [] lv pc [.int r] := by
  intro H locs ls hP hD hS hl
  rw [hx]
  refine W.widen hcs.1 hcs.2 ?_
  exact W.zret X.1.1 X.1.2.1 (X.2.2.2.1.trans hr) hn (fun t ht hW => ⟨⟨_, [], rfl, ⟨rfl, rfl⟩, by rw [ht]; exact hP, hD.sub [] rfl rfl⟩, hS.F ht⟩) hS.2.2 d X.2.2.2.2.1
theorem va_nil {A0 : Nat → Prop} {D : va_G} {cl : List vw_C} {ws : va_W} {H H1 : Heap} {sz : Nat} (hP : va_P D cl ws H) (hk : ∀ q : Nat, q < H.size → ¬ va_A [] sz q → H1[q]? = H[q]?) (hz : sz = H.size) : va_P D cl ws H1 :=
  va_P_iff.mpr (fun q hq => by
    have h0 := va_P_iff.mp hP q hq
    refine h0.kept (hk q.1 h0.lt (fun hA => ?_))
    rcases hA with ⟨j, e, h3⟩ | h3
    · simp at h3
    · have := h0.lt
      omega)
/-- the call of such a method -/
theorem g_callNV {E : GE} {μ : MD} {Γ : GC} {cells slots : Nat} {lv : List (Nat × Value)} {pc : Nat} {rest : List Value} {ws : va_W} (X : CX E μ Γ) {qs : Nat × Nat} (Z : EX qs Γ.2.2.2.2.2.2.2.2.1 Γ.2.2.1) {ν : MD} {As : List Value} {v : Option Value} {idx n : Nat} {st : List Value} (hM : CV E qs ν (.ref qs.1 :: As) v) (hs : VSite μ.1.cls idx ν n) (hcl : ν.1.cls = "java/lang/String") (hR : rmOK ν μ = true)
    (hst : st = As.reverse ++ .ref qs.1 :: rest) (hn : As.length = n) (hcat : (rest.map fun v => v.category).sum ≤ 8) (d : decode μ.2.1 pc = .ok (.invokevirtual idx, 3)) (hcs : cells ≤ μ.2.2.2.2.cells ∧ slots ≤ μ.2.2.2.2.slots)
    (k : GG E μ Γ cells slots ws lv (pc + 3) (v.toList ++ rest)) : GG E μ Γ cells slots ws lv pc st := by
  obtain ⟨hR1, hR2, hR3, hR4⟩ := rmOK_sp hR
  intro H locs ls hP hD hS hl
  have hPc : va_P E.2.1 vwCl [] H := fun k q hk => by simp at hk
  have hFc : ∀ q, va_A [] H.size q → Γ.2.2.2.2.2.2.2.2.1 q := va_free hD hS X.2.2.1 [] rfl
  have hrc := vk_recv Z.2.2.1 (i := 0) (by decide) hS
  have hM2 := hM H.size
  rw [hR1, hR2] at hM2
  refine run_goN (va_runV ⟨X.1.1, X.1.2.1, X.1.2.2.1, X.1.2.2.2.1, X.1.2.2.2.2⟩ hM2 (cwV n X.1.2.2.2.2 hs.1 rfl hR1 hR2 hs.2 ⟨hR3, hR4⟩) ⟨CNp.blind, by rw [hcl]; exact hrc, fun U hU hW => ⟨rfl, ⟨by rw [hU], by rw [hU]; exact hPc, EV.warm hW X.2.1, va_D.sub hD [] rfl rfl |>.weaken (fun _ _ _ _ => trivial)⟩, EX.go hW (fun a h1 h2 => by rw [hU]; exact hS.2.1 a h1 h2) hFc Z⟩⟩ rfl hn hl.1 hst (lv_room hcat) d (by exact hcs)) hS (fun q _ h => hFc q h) hFc (fun H1 locs1 v' w' hRn hP1 hD1 hz hk hS1 => ?_)
  obtain ⟨rfl, rfl⟩ := hRn
  exact k H1 locs1 ls (va_nil (A0 := fun _ => True) hP hk rfl) hD hS1 hl
theorem g_callNS {E : GE} {μ : MD} {Γ : GC} {cells slots : Nat} {lv : List (Nat × Value)} {pc : Nat} {rest : List Value} {ws : va_W} (X : CX E μ Γ) {qs : Nat × Nat} (Z : EX qs Γ.2.2.2.2.2.2.2.2.1 Γ.2.2.1) {ν : MD} {As : List Value} {v : Option Value} {idx n : Nat} {st : List Value} (hM : CV E qs ν As v) (hs : SSite μ.1.cls idx ν n) (hR : rmOK ν μ = true)
    (hst : st = As.reverse ++ rest) (hn : As.length = n) (hcat : (rest.map fun v => v.category).sum ≤ 8) (d : decode μ.2.1 pc = .ok (.invokestatic idx, 3)) (hcs : cells ≤ μ.2.2.2.2.cells ∧ slots ≤ μ.2.2.2.2.slots)
    (k : GG E μ Γ cells slots ws lv (pc + 3) (v.toList ++ rest)) : GG E μ Γ cells slots ws lv pc st := by
  obtain ⟨hR1, hR2, hR3, hR4⟩ := rmOK_sp hR
  intro H locs ls hP hD hS hl
  have hPc : va_P E.2.1 vwCl [] H := fun k q hk => by simp at hk
  have hFc : ∀ q, va_A [] H.size q → Γ.2.2.2.2.2.2.2.2.1 q := va_free hD hS X.2.2.1 [] rfl
  have hM2 := hM H.size
  rw [hR1, hR2] at hM2
  refine run_goN (va_runS ⟨X.1.1, X.1.2.1, X.1.2.2.1, X.1.2.2.2.1, X.1.2.2.2.2⟩ hM2 (va_cwS n X.1.2.2.2.2 hs.1 rfl hR1 hR2 hs.2 ⟨hR3, hR4⟩) ⟨CNp.blind, fun U hU hW => ⟨rfl, ⟨by rw [hU], by rw [hU]; exact hPc, EV.warm hW X.2.1, va_D.sub hD [] rfl rfl |>.weaken (fun _ _ _ _ => trivial)⟩, EX.go hW (fun a h1 h2 => by rw [hU]; exact hS.2.1 a h1 h2) hFc Z⟩⟩ rfl hn hl.1 hst (lv_room hcat) d (by exact hcs)) hS (fun q _ h => hFc q h) hFc (fun H1 locs1 v' w' hRn hP1 hD1 hz hk hS1 => ?_)
  obtain ⟨rfl, rfl⟩ := hRn
  exact k H1 locs1 ls (va_nil (A0 := fun _ => True) hP hk rfl) hD hS1 hl
def mS_pck : MD := (yJ3_checkIndex_8e157, cJ3_checkIndex_8e157, 3, some .int, { frames := 0, cells := 0, slots := 0, locals := 0 })
def mS_ck : MD := (yJ0_checkIndex_df160, cJ0_checkIndex_df160, 2, none, { frames := 1, cells := 0, slots := 0, locals := 22 })
def mS_lc : MD := (yJ1_charAt_3b067, cJ1_charAt_3b067, 2, some .char, { frames := 2, cells := 0, slots := 0, locals := 43 })
def mS_isl : MD := (yJ0_isLatin1_aae02, cJ0_isLatin1_aae02, 1, some .boolean, { frames := 0, cells := 0, slots := 0, locals := 0 })
def mS_ch : MD := (yJ0_charAt_5068e, cJ0_charAt_5068e, 2, some .char, { frames := 3, cells := 0, slots := 0, locals := 64 })
def mS_co : MD := (yJ0_coder_7d493, cJ0_coder_7d493, 1, some .byte, { frames := 0, cells := 0, slots := 0, locals := 0 })
def mS_ln : MD := (yJ0_length_8abf5, cJ0_length_8abf5, 1, some .int, { frames := 1, cells := 0, slots := 0, locals := 20 })
theorem zs_co : VSite "java/lang/String" 335 mS_co 0 := vsite (tt_of 234 (by decide +kernel) (by decide +kernel)) (tt_of 235 (by decide +kernel) (by decide +kernel)) (tt_of 236 (by decide +kernel) (by decide +kernel)) (tt_of 34 (by decide +kernel) (by decide +kernel)) (tt_of 237 (by decide +kernel) (by decide +kernel)) ⟨by decide, by decide, by decide +kernel⟩
theorem zs_isl : VSite "java/lang/String" 492 mS_isl 0 := vsite (tt_of 244 (by decide +kernel) (by decide +kernel)) (tt_of 245 (by decide +kernel) (by decide +kernel)) (tt_of 246 (by decide +kernel) (by decide +kernel)) (tt_of 34 (by decide +kernel) (by decide +kernel)) (tt_of 247 (by decide +kernel) (by decide +kernel)) ⟨by decide, by decide, by decide +kernel⟩
theorem zs_ln : VSite "TwoSurveys" 266 mS_ln 0 := vsite (tt_of 230 (by decide +kernel) (by decide +kernel)) (tt_of 231 (by decide +kernel) (by decide +kernel)) (tt_of 232 (by decide +kernel) (by decide +kernel)) (tt_of 34 (by decide +kernel) (by decide +kernel)) (tt_of 233 (by decide +kernel) (by decide +kernel)) ⟨by decide, by decide, by decide +kernel⟩
theorem zs_ch : VSite "TwoSurveys" 269 mS_ch 1 := vsite (tt_of 240 (by decide +kernel) (by decide +kernel)) (tt_of 241 (by decide +kernel) (by decide +kernel)) (tt_of 242 (by decide +kernel) (by decide +kernel)) (tt_of 34 (by decide +kernel) (by decide +kernel)) (tt_of 243 (by decide +kernel) (by decide +kernel)) ⟨by decide, by decide, by decide +kernel⟩
theorem zs_lc : SSite "java/lang/String" 495 mS_lc 2 := ssite (tt_of 248 (by decide +kernel) (by decide +kernel)) (tt_of 249 (by decide +kernel) (by decide +kernel)) (tt_of 35 (by decide +kernel) (by decide +kernel)) (tt_of 250 (by decide +kernel) (by decide +kernel)) ⟨by decide, by decide, by decide +kernel⟩
theorem zs_ck : SSite "java/lang/StringLatin1" 9 mS_ck 2 := ssite (tt_of 251 (by decide +kernel) (by decide +kernel)) (tt_of 252 (by decide +kernel) (by decide +kernel)) (tt_of 34 (by decide +kernel) (by decide +kernel)) (tt_of 253 (by decide +kernel) (by decide +kernel)) ⟨by decide, by decide, by decide +kernel⟩
theorem zs_pck : SSite "java/lang/String" 1059 mS_pck 3 := ssite (tt_of 256 (by decide +kernel) (by decide +kernel)) (tt_of 257 (by decide +kernel) (by decide +kernel)) (tt_of 36 (by decide +kernel) (by decide +kernel)) (tt_of 258 (by decide +kernel) (by decide +kernel)) ⟨by decide, by decide, by decide +kernel⟩
theorem zf_cs : Cond.fieldLink "java/lang/String" 38 "java/lang/String" "COMPACT_STRINGS" "Z" ∈ TT := (tt_of 238 (by decide +kernel) (by decide +kernel))
theorem zf_v : Cond.fieldLink "java/lang/String" 9 "java/lang/String" "value" "[B" ∈ TT := (tt_of 872 (by decide +kernel) (by decide +kernel))
theorem zf_c : Cond.fieldLink "java/lang/String" 15 "java/lang/String" "coder" "B" ∈ TT := (tt_of 873 (by decide +kernel) (by decide +kernel))
theorem zf_sf : Cond.fieldLink "java/lang/String" 1053 "jdk/internal/util/Preconditions" "SIOOBE_FORMATTER" "Ljava/util/function/BiFunction;" ∈ TT := (tt_of 254 (by decide +kernel) (by decide +kernel))
def stC (k : Nat) : Int32 := ((stB.getD k 0 &&& 255).toUInt32 % 65536).toInt32
section STR
variable (E : GE) (q : Nat × Nat)
theorem c_coder : CV E q mS_co [.ref q.1] (some (.int 0)) := by
  refine CN.intro (by decide +kernel) (Nat.le_of_ble_eq_true rfl) (fun Γ X Z hx => ?_)
  refine GG.lv [0] (lv' := [(0, .ref q.1)]) rfl ?_
  refine g_gets X Z.2.2.2.2.1 zf_cs dJ0_coder_7d493_0 ?_
  refine g_if_eq (tgt := 13) X dJ0_coder_7d493_3 (by decide) (fun h => absurd h (by decide)) (fun _ => ?_)
  refine g_aload_n X 0 dJ0_coder_7d493_6 rfl ?_
  refine g_strF X (Z.2.2.1.1 0 (by decide)).2.1 zf_c dJ0_coder_7d493_7 ?_
  refine g_goto (tgt := 14) X dJ0_coder_7d493_10 (by decide) ?_
  exact g_nret X hx rfl rfl ⟨Nat.zero_le _, Nat.zero_le _⟩ dJ0_coder_7d493_14
theorem c_isLatin1 : CV E q mS_isl [.ref q.1] (some (.int 1)) := by
  refine CN.intro (by decide +kernel) (Nat.le_of_ble_eq_true rfl) (fun Γ X Z hx => ?_)
  refine GG.lv [0] (lv' := [(0, .ref q.1)]) rfl ?_
  refine g_gets X Z.2.2.2.2.1 zf_cs dJ0_isLatin1_aae02_0 ?_
  refine g_if_eq (tgt := 17) X dJ0_isLatin1_aae02_3 (by decide) (fun h => absurd h (by decide)) (fun _ => ?_)
  refine g_aload_n X 0 dJ0_isLatin1_aae02_6 rfl ?_
  refine g_strF X (Z.2.2.1.1 0 (by decide)).2.1 zf_c dJ0_isLatin1_aae02_7 ?_
  refine g_if_ne (tgt := 17) X dJ0_isLatin1_aae02_10 (by decide) (fun h => absurd rfl h) (fun _ => ?_)
  refine g_iconst (v := 1) X dJ0_isLatin1_aae02_13 rfl ?_
  refine g_goto (tgt := 18) X dJ0_isLatin1_aae02_14 (by decide) ?_
  exact g_nret X hx rfl rfl ⟨Nat.zero_le _, Nat.zero_le _⟩ dJ0_isLatin1_aae02_18
theorem c_length : CV E q mS_ln [.ref q.1] (some (.int (nI 190))) := by
  refine CN.intro (by decide +kernel) (Nat.le_of_ble_eq_true rfl) (fun Γ X Z hx => ?_)
  refine GG.lv [0] (lv' := [(0, .ref q.1)]) rfl ?_
  refine g_aload_n X 0 dJ0_length_8abf5_0 rfl ?_
  refine g_strF X (Z.2.2.1.1 0 (by decide)).2.2.1 zf_v dJ0_length_8abf5_1 ?_
  refine g_tlen X (Z.2.2.1.1 0 (by decide)).2.2.2 dJ0_length_8abf5_4 ?_
  refine g_aload_n X 0 dJ0_length_8abf5_5 rfl ?_
  refine g_callNV X Z (c_coder E q) zs_co rfl rfl rfl rfl (Nat.le_of_ble_eq_true rfl) dJ0_length_8abf5_6 ⟨Nat.zero_le _, Nat.zero_le _⟩ ?_
  refine g_ishr X dJ0_length_8abf5_9 ?_
  refine GG.eq (st' := [.int (nI 190)]) rfl (by decide) ?_
  exact g_nret X hx rfl rfl ⟨Nat.zero_le _, Nat.zero_le _⟩ dJ0_length_8abf5_10
theorem c_pck (k : Nat) (hk : k < 190) (v : Value) (hv : v = .null ∨ ∃ t, v = .ref t) : CV E q mS_pck [.int (nI k), .int (nI 190), v] (some (.int (nI k))) := by
  refine CN.intro (by decide +kernel) (by rcases hv with rfl | ⟨t, rfl⟩ <;> exact Nat.le_of_ble_eq_true rfl) (fun Γ X Z hx => ?_)
  refine GG.lv [0, 1] (lv' := [(0, .int (nI k)), (1, .int (nI 190))]) rfl ?_
  refine g_iload_n X 0 dJ3_checkIndex_8e157_0 rfl ?_
  refine g_if_lt (tgt := 9) X dJ3_checkIndex_8e157_1 (by decide) (fun h => absurd h (nI_pos (by omega))) (fun _ => ?_)
  refine g_iload_n X 0 dJ3_checkIndex_8e157_4 rfl ?_
  refine g_iload_n X 1 dJ3_checkIndex_8e157_5 rfl ?_
  refine g_icmp_lt (tgt := 16) X dJ3_checkIndex_8e157_6 (by decide) (fun _ => ?_) (fun h => absurd (nI_lt hk (by decide)) h)
  refine g_iload_n X 0 dJ3_checkIndex_8e157_16 rfl ?_
  exact g_nret X hx rfl rfl ⟨Nat.zero_le _, Nat.zero_le _⟩ dJ3_checkIndex_8e157_17
theorem c_ck (k : Nat) (hk : k < 190) : CV E q mS_ck [.int (nI k), .int (nI 190)] none := by
  refine CN.intro (by decide +kernel) (Nat.le_of_ble_eq_true rfl) (fun Γ X Z hx => ?_)
  refine GG.lv [0, 1] (lv' := [(0, .int (nI k)), (1, .int (nI 190))]) rfl ?_
  refine g_iload_n X 0 dJ0_checkIndex_df160_0 rfl ?_
  refine g_iload_n X 1 dJ0_checkIndex_df160_1 rfl ?_
  have go : ∀ v : Value, (v = .null ∨ ∃ t, v = .ref t) → va_Z "jdk/internal/util/Preconditions" "SIOOBE_FORMATTER" "Ljava/util/function/BiFunction;" v Γ.2.2.2.2.2.2.2.2.1 Γ.2.2.1 Γ.2.2.1.heap → GG E mS_ck Γ 0 0 [] [(0, .int (nI k)), (1, .int (nI 190))] 2 [.int (nI 190), .int (nI k)] := by
    intro v hv hz
    refine g_gets X hz zf_sf dJ0_checkIndex_df160_2 ?_
    refine g_callNS X Z (As := [.int (nI k), .int (nI 190), v]) (rest := []) (c_pck E q k hk v hv) zs_pck rfl rfl rfl (Nat.le_of_ble_eq_true rfl) dJ0_checkIndex_df160_5 ⟨Nat.zero_le _, Nat.zero_le _⟩ ?_
    refine g_pop X dJ0_checkIndex_df160_8 rfl ?_
    exact g_vretN X hx rfl (List.Perm.refl _) ⟨rfl, rfl⟩ ⟨Nat.zero_le _, Nat.zero_le _⟩ dJ0_checkIndex_df160_9
  rcases Z.2.2.2.2.2 with h | ⟨t, h⟩
  · exact go _ (Or.inl rfl) h
  · exact go _ (Or.inr ⟨t, rfl⟩) h
theorem c_lc (k : Nat) (hk : k < 190) : CV E q mS_lc [.ref q.2, .int (nI k)] (some (.int (stC k))) := by
  refine CN.intro (by decide +kernel) (Nat.le_of_ble_eq_true rfl) (fun Γ X Z hx => ?_)
  refine GG.lv [0, 1] (lv' := [(0, .ref q.2), (1, .int (nI k))]) rfl ?_
  refine g_iload_n X 1 dJ1_charAt_3b067_0 rfl ?_
  refine g_aload_n X 0 dJ1_charAt_3b067_1 rfl ?_
  refine g_tlen X (Z.2.2.1.1 0 (by decide)).2.2.2 dJ1_charAt_3b067_2 ?_
  refine g_callNS X Z (As := [.int (nI k), .int (nI 190)]) (rest := []) (c_ck E q k hk) zs_ck rfl rfl rfl (Nat.le_of_ble_eq_true rfl) dJ1_charAt_3b067_3 ⟨Nat.zero_le _, Nat.zero_le _⟩ ?_
  refine g_aload_n X 0 dJ1_charAt_3b067_6 rfl ?_
  refine g_iload_n X 1 dJ1_charAt_3b067_7 rfl ?_
  refine g_tb X (Z.2.2.1.1 0 (by decide)).2.2.2 hk (by decide) dJ1_charAt_3b067_8 ?_
  refine g_sipush (v := 255) X dJ1_charAt_3b067_9 rfl ?_
  refine g_iand X dJ1_charAt_3b067_12 ?_
  refine g_i2c X dJ1_charAt_3b067_13 ?_
  exact g_nret X hx rfl (pk_nc _) ⟨Nat.zero_le _, Nat.zero_le _⟩ dJ1_charAt_3b067_14
theorem c_charAt (k : Nat) (hk : k < 190) : CV E q mS_ch [.ref q.1, .int (nI k)] (some (.int (stC k))) := by
  refine CN.intro (by decide +kernel) (Nat.le_of_ble_eq_true rfl) (fun Γ X Z hx => ?_)
  refine GG.lv [0, 1] (lv' := [(0, .ref q.1), (1, .int (nI k))]) rfl ?_
  refine g_aload_n X 0 dJ0_charAt_5068e_0 rfl ?_
  refine g_callNV X Z (rest := []) (As := []) (c_isLatin1 E q) zs_isl rfl rfl rfl rfl (Nat.le_of_ble_eq_true rfl) dJ0_charAt_5068e_1 ⟨Nat.zero_le _, Nat.zero_le _⟩ ?_
  refine g_if_eq (tgt := 16) X dJ0_charAt_5068e_4 (by decide) (fun h => absurd h (by decide)) (fun _ => ?_)
  refine g_aload_n X 0 dJ0_charAt_5068e_7 rfl ?_
  refine g_strF X (Z.2.2.1.1 0 (by decide)).2.2.1 zf_v dJ0_charAt_5068e_8 ?_
  refine g_iload_n X 1 dJ0_charAt_5068e_11 rfl ?_
  refine g_callNS X Z (As := [.ref q.2, .int (nI k)]) (rest := []) (c_lc E q k hk) zs_lc rfl rfl rfl (Nat.le_of_ble_eq_true rfl) dJ0_charAt_5068e_12 ⟨Nat.zero_le _, Nat.zero_le _⟩ ?_
  exact g_nret X hx rfl (pk_nc _) ⟨Nat.zero_le _, Nat.zero_le _⟩ dJ0_charAt_5068e_15
end STR
