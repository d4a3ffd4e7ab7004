/-! ===== constructors: rooms, words ===== -/
def n_X5_init : MD := (yX5_init, cX5_init, 1, none, { frames := 1, cells := 1, slots := 200, locals := 24 })
def n_X2_init : MD := (yX2_init, cX2_init, 1, none, { frames := 1, cells := 1, slots := 3, locals := 24 })
def n_X3_init : MD := (yX3_init, cX3_init, 1, none, { frames := 1, cells := 1, slots := 12, locals := 24 })
def n_X8_init : MD := (yX8_init, cX8_init, 1, none, { frames := 1, cells := 1, slots := 4, locals := 24 })
def n_X7_init : MD := (yX7_init, cX7_init, 1, none, { frames := 1, cells := 0, slots := 0, locals := 24 })
def n_X4_init : MD := (yX4_init, cX4_init, 1, none, { frames := 1, cells := 6, slots := 48, locals := 24 })
def n_X6_init : MD := (yX6_init, cX6_init, 1, none, { frames := 2, cells := 14, slots := 112, locals := 44 })
def n_X0_init : MD := (yX0_init, cX0_init, 1, none, { frames := 1, cells := 22, slots := 176, locals := 24 })
def n_X1_init : MD := (yX1_init, cX1_init, 3, none, { frames := 3, cells := 121, slots := 936, locals := 64 })
def n_X9_startTowns : MD := (yX9_startTowns, cX9_startTowns, 2, (some (.object "TwoSurveys$Towns")), { frames := 5, cells := 19, slots := 323, locals := 140 })
def n_X9_init : MD := (yX9_init, cX9_init, 1, none, { frames := 6, cells := 310, slots := 2730, locals := 161 })
def n_X10_init : MD := (yX10_init, cX10_init, 1, none, { frames := 1, cells := 19, slots := 1700, locals := 25 })
theorem ac_int : Cond.arrayClass .int ∈ TT := (tt_of 122 (by decide +kernel) (by decide +kernel))
theorem ac_char : Cond.arrayClass .char ∈ TT := (tt_of 108 (by decide +kernel) (by decide +kernel))
theorem oi_im : Cond.instanceMethod Lib.objectInit ∈ TT := (tt_of 93 (by decide +kernel) (by decide +kernel))
theorem oi_co : Cond.code Lib.objectInit ⟨#[0xb1]⟩ 1 none ∈ TT := (tt_of 94 (by decide +kernel) (by decide +kernel))
theorem is_X5_3 : Cond.methodLink RX5 3 Lib.objectInit ∈ TT := (tt_of 100 (by decide +kernel) (by decide +kernel))
theorem is_X2_3 : Cond.methodLink RX2 3 Lib.objectInit ∈ TT := (tt_of 114 (by decide +kernel) (by decide +kernel))
theorem is_X3_3 : Cond.methodLink RX3 3 Lib.objectInit ∈ TT := (tt_of 197 (by decide +kernel) (by decide +kernel))
theorem is_X8_3 : Cond.methodLink RX8 3 Lib.objectInit ∈ TT := (tt_of 241 (by decide +kernel) (by decide +kernel))
theorem is_X7_3 : Cond.methodLink RX7 3 Lib.objectInit ∈ TT := (tt_of 254 (by decide +kernel) (by decide +kernel))
theorem is_X4_3 : Cond.methodLink RX4 3 Lib.objectInit ∈ TT := (tt_of 134 (by decide +kernel) (by decide +kernel))
theorem is_X6_3 : Cond.methodLink RX6 3 Lib.objectInit ∈ TT := (tt_of 128 (by decide +kernel) (by decide +kernel))
theorem nw_X6_9 : NewS RX6 9 4 [.null, .null, .null, .null, .null, .null, .int 0, .int 0] 8 := ⟨RX4, TX4, tyX4, rfl, inT_X4, tyX4_ok, (tt_of 129 (by decide +kernel) (by decide +kernel)), (tt_of 130 (by decide +kernel) (by decide +kernel)), (tt_of 74 (by decide +kernel) (by decide +kernel)), by decide⟩
theorem is_X6_11 : ISite RX6 11 n_X4_init 0 := ⟨tt_cons (tt_of 133 (by decide +kernel) (by decide +kernel)), rfl, (tt_of 74 (by decide +kernel) (by decide +kernel)), Or.inr ⟨"TwoSurveys", by decide +kernel⟩, (tt_of 132 (by decide +kernel) (by decide +kernel)), rfl, ⟨by decide, by decide, by decide +kernel⟩⟩
theorem is_X0_3 : Cond.methodLink RX0 3 Lib.objectInit ∈ TT := (tt_of 211 (by decide +kernel) (by decide +kernel))
theorem cl_X0_9 : Cond.classLink RX0 9 ("[" ++ (FieldType.array .int).toString) ∈ TT := (tt_of 212 (by decide +kernel) (by decide +kernel))
theorem is_X1_1 : Cond.methodLink RX1 1 Lib.objectInit ∈ TT := (tt_of 178 (by decide +kernel) (by decide +kernel))
theorem cl_X1_13 : Cond.classLink RX1 13 "TwoSurveys$Towns" ∈ TT := (tt_of 182 (by decide +kernel) (by decide +kernel))
theorem nw_X1_13 : NewS RX1 13 6 [.null, .null, .int 0, .int 0] 4 := ⟨RX6, TX6, tyX6, rfl, inT_X6, tyX6_ok, (tt_of 182 (by decide +kernel) (by decide +kernel)), (tt_of 124 (by decide +kernel) (by decide +kernel)), (tt_of 73 (by decide +kernel) (by decide +kernel)), by decide⟩
theorem is_X1_21 : ISite RX1 21 n_X6_init 0 := ⟨tt_cons (tt_of 127 (by decide +kernel) (by decide +kernel)), rfl, (tt_of 73 (by decide +kernel) (by decide +kernel)), Or.inr ⟨"TwoSurveys", by decide +kernel⟩, (tt_of 126 (by decide +kernel) (by decide +kernel)), rfl, ⟨by decide, by decide, by decide +kernel⟩⟩
theorem nw_X9_7 : NewS RX9 7 5 [.null, .int 0] 2 := ⟨RX5, TX5, tyX5, rfl, inT_X5, tyX5_ok, (tt_of 95 (by decide +kernel) (by decide +kernel)), (tt_of 96 (by decide +kernel) (by decide +kernel)), (tt_of 71 (by decide +kernel) (by decide +kernel)), by decide⟩
theorem is_X9_9 : ISite RX9 9 n_X5_init 0 := ⟨tt_cons (tt_of 99 (by decide +kernel) (by decide +kernel)), rfl, (tt_of 71 (by decide +kernel) (by decide +kernel)), Or.inr ⟨"TwoSurveys", by decide +kernel⟩, (tt_of 98 (by decide +kernel) (by decide +kernel)), rfl, ⟨by decide, by decide, by decide +kernel⟩⟩
theorem nw_X9_23 : NewS RX9 23 6 [.null, .null, .int 0, .int 0] 4 := ⟨RX6, TX6, tyX6, rfl, inT_X6, tyX6_ok, (tt_of 123 (by decide +kernel) (by decide +kernel)), (tt_of 124 (by decide +kernel) (by decide +kernel)), (tt_of 73 (by decide +kernel) (by decide +kernel)), by decide⟩
theorem is_X9_25 : ISite RX9 25 n_X6_init 0 := ⟨tt_cons (tt_of 127 (by decide +kernel) (by decide +kernel)), rfl, (tt_of 73 (by decide +kernel) (by decide +kernel)), Or.inr ⟨"TwoSurveys", by decide +kernel⟩, (tt_of 126 (by decide +kernel) (by decide +kernel)), rfl, ⟨by decide, by decide, by decide +kernel⟩⟩
theorem nw_X9_16 : NewS RX9 16 2 [.null, .int 0] 2 := ⟨RX2, TX2, tyX2, rfl, inT_X2, tyX2_ok, (tt_of 109 (by decide +kernel) (by decide +kernel)), (tt_of 110 (by decide +kernel) (by decide +kernel)), (tt_of 72 (by decide +kernel) (by decide +kernel)), by decide⟩
theorem is_X9_18 : ISite RX9 18 n_X2_init 0 := ⟨tt_cons (tt_of 113 (by decide +kernel) (by decide +kernel)), rfl, (tt_of 72 (by decide +kernel) (by decide +kernel)), Or.inr ⟨"TwoSurveys", by decide +kernel⟩, (tt_of 112 (by decide +kernel) (by decide +kernel)), rfl, ⟨by decide, by decide, by decide +kernel⟩⟩
theorem is_X9_1 : Cond.methodLink RX9 1 Lib.objectInit ∈ TT := (tt_of 92 (by decide +kernel) (by decide +kernel))
theorem nw_X9_30 : NewS RX9 30 1 [.null, .int 0] 2 := ⟨RX1, TX1, tyX1, rfl, inT_X1, tyX1_ok, (tt_of 173 (by decide +kernel) (by decide +kernel)), (tt_of 174 (by decide +kernel) (by decide +kernel)), (tt_of 75 (by decide +kernel) (by decide +kernel)), by decide⟩
theorem is_X9_32 : ISite RX9 32 n_X1_init 1 := ⟨tt_cons (tt_of 177 (by decide +kernel) (by decide +kernel)), rfl, (tt_of 75 (by decide +kernel) (by decide +kernel)), Or.inl (tt_of 175 (by decide +kernel) (by decide +kernel)), (tt_of 176 (by decide +kernel) (by decide +kernel)), rfl, ⟨by decide, by decide, by decide +kernel⟩⟩
theorem nw_X9_42 : NewS RX9 42 3 [.null] 1 := ⟨RX3, TX3, tyX3, rfl, inT_X3, tyX3_ok, (tt_of 192 (by decide +kernel) (by decide +kernel)), (tt_of 193 (by decide +kernel) (by decide +kernel)), (tt_of 77 (by decide +kernel) (by decide +kernel)), by decide⟩
theorem is_X9_44 : ISite RX9 44 n_X3_init 0 := ⟨tt_cons (tt_of 196 (by decide +kernel) (by decide +kernel)), rfl, (tt_of 77 (by decide +kernel) (by decide +kernel)), Or.inl (tt_of 194 (by decide +kernel) (by decide +kernel)), (tt_of 195 (by decide +kernel) (by decide +kernel)), rfl, ⟨by decide, by decide, by decide +kernel⟩⟩
theorem nw_X9_49 : NewS RX9 49 0 [.null, .null, .null, .null, .null, .null, .int 0] 7 := ⟨RX0, TX0, tyX0, rfl, inT_X0, tyX0_ok, (tt_of 206 (by decide +kernel) (by decide +kernel)), (tt_of 207 (by decide +kernel) (by decide +kernel)), (tt_of 78 (by decide +kernel) (by decide +kernel)), by decide⟩
theorem is_X9_51 : ISite RX9 51 n_X0_init 0 := ⟨tt_cons (tt_of 210 (by decide +kernel) (by decide +kernel)), rfl, (tt_of 78 (by decide +kernel) (by decide +kernel)), Or.inr ⟨"TwoSurveys", by decide +kernel⟩, (tt_of 209 (by decide +kernel) (by decide +kernel)), rfl, ⟨by decide, by decide, by decide +kernel⟩⟩
theorem nw_X9_56 : NewS RX9 56 8 [.null, .int 0] 2 := ⟨RX8, TX8, tyX8, rfl, inT_X8, tyX8_ok, (tt_of 236 (by decide +kernel) (by decide +kernel)), (tt_of 237 (by decide +kernel) (by decide +kernel)), (tt_of 79 (by decide +kernel) (by decide +kernel)), by decide⟩
theorem is_X9_58 : ISite RX9 58 n_X8_init 0 := ⟨tt_cons (tt_of 240 (by decide +kernel) (by decide +kernel)), rfl, (tt_of 79 (by decide +kernel) (by decide +kernel)), Or.inr ⟨"TwoSurveys", by decide +kernel⟩, (tt_of 239 (by decide +kernel) (by decide +kernel)), rfl, ⟨by decide, by decide, by decide +kernel⟩⟩
theorem nw_X9_63 : NewS RX9 63 7 [.int 0, .int 0, .int 0, .int 0, .int 0, .int 0] 6 := ⟨RX7, TX7, tyX7, rfl, inT_X7, tyX7_ok, (tt_of 249 (by decide +kernel) (by decide +kernel)), (tt_of 250 (by decide +kernel) (by decide +kernel)), (tt_of 80 (by decide +kernel) (by decide +kernel)), by decide⟩
theorem is_X9_65 : ISite RX9 65 n_X7_init 0 := ⟨tt_cons (tt_of 253 (by decide +kernel) (by decide +kernel)), rfl, (tt_of 80 (by decide +kernel) (by decide +kernel)), Or.inr ⟨"TwoSurveys", by decide +kernel⟩, (tt_of 252 (by decide +kernel) (by decide +kernel)), rfl, ⟨by decide, by decide, by decide +kernel⟩⟩
theorem is_X10_1 : Cond.methodLink RX10 1 Lib.objectInit ∈ TT := (tt_of 899 (by decide +kernel) (by decide +kernel))
def rz : Nat → Nat → Int32 := fun _ _ => 0
def zf : Nat → Int32 := fun _ => 0
def sv0 : SV := (zf, zf, zf, zf, zf, zf, 0, 0)
def tv0 : TV := (sv0, sv0, 0, 0)
def ad2 (x y : Nat) : Nat → Nat := fun i => if i = 0 then x else y
def adL (l : List Nat) : Nat → Nat := fun i => l.getD i 0
theorem pm_app {R : List va_W} {w w' ws : va_W} (hw : w.Perm w') (e : R.flatten ++ w' = ws) {S : List va_W} (hS : S = R ++ [w] := by rfl) : S.flatten.Perm ws := by
  subst hS
  subst e
  rw [sg_push]
  exact hw.append_left _
