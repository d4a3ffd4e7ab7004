/-! ===== constructors: rooms, words ===== -/
def n_X5_init : MD := (yX5_init, cX5_init, 1, none, { frames := 1, cells := 1, slots := 200, locals := 24 })
def n_X2_init : MD := (yX2_init, cX2_init, 1, none, { frames := 1, cells := 1, slots := 3, locals := 24 })
def n_X3_init : MD := (yX3_init, cX3_init, 1, none, { frames := 1, cells := 1, slots := 12, locals := 24 })
def n_X8_init : MD := (yX8_init, cX8_init, 1, none, { frames := 1, cells := 1, slots := 4, locals := 24 })
def n_X7_init : MD := (yX7_init, cX7_init, 1, none, { frames := 1, cells := 0, slots := 0, locals := 24 })
def n_X4_init : MD := (yX4_init, cX4_init, 1, none, { frames := 1, cells := 6, slots := 48, locals := 24 })
def n_X6_init : MD := (yX6_init, cX6_init, 1, none, { frames := 2, cells := 14, slots := 112, locals := 44 })
def n_X0_init : MD := (yX0_init, cX0_init, 1, none, { frames := 1, cells := 22, slots := 176, locals := 24 })
def n_X1_init : MD := (yX1_init, cX1_init, 3, none, { frames := 3, cells := 121, slots := 936, locals := 64 })
def n_X9_startTowns : MD := (yX9_startTowns, cX9_startTowns, 2, (some (.object "TwoSurveys$Towns")), { frames := 5, cells := 19, slots := 323, locals := 140 })
def n_X9_init : MD := (yX9_init, cX9_init, 1, none, { frames := 6, cells := 310, slots := 2730, locals := 161 })
theorem ac_int : Cond.arrayClass .int ∈ TT := (tt_of 74 (by decide +kernel) (by decide +kernel))
theorem ac_char : Cond.arrayClass .char ∈ TT := (tt_of 60 (by decide +kernel) (by decide +kernel))
theorem oi_im : Cond.instanceMethod Lib.objectInit ∈ TT := (tt_of 45 (by decide +kernel) (by decide +kernel))
theorem oi_co : Cond.code Lib.objectInit ⟨#[0xb1]⟩ 1 none ∈ TT := (tt_of 46 (by decide +kernel) (by decide +kernel))
theorem is_X5_3 : Cond.methodLink RX5 3 Lib.objectInit ∈ TT := (tt_of 52 (by decide +kernel) (by decide +kernel))
theorem is_X2_3 : Cond.methodLink RX2 3 Lib.objectInit ∈ TT := (tt_of 66 (by decide +kernel) (by decide +kernel))
theorem is_X3_3 : Cond.methodLink RX3 3 Lib.objectInit ∈ TT := (tt_of 149 (by decide +kernel) (by decide +kernel))
theorem is_X8_3 : Cond.methodLink RX8 3 Lib.objectInit ∈ TT := (tt_of 193 (by decide +kernel) (by decide +kernel))
theorem is_X7_3 : Cond.methodLink RX7 3 Lib.objectInit ∈ TT := (tt_of 206 (by decide +kernel) (by decide +kernel))
theorem is_X4_3 : Cond.methodLink RX4 3 Lib.objectInit ∈ TT := (tt_of 86 (by decide +kernel) (by decide +kernel))
theorem is_X6_3 : Cond.methodLink RX6 3 Lib.objectInit ∈ TT := (tt_of 80 (by decide +kernel) (by decide +kernel))
theorem nw_X6_9 : NewS RX6 9 4 [.null, .null, .null, .null, .null, .null, .int 0, .int 0] 8 := ⟨RX4, TX4, tyX4, rfl, inT_X4, tyX4_ok, (tt_of 81 (by decide +kernel) (by decide +kernel)), (tt_of 82 (by decide +kernel) (by decide +kernel)), (tt_of 27 (by decide +kernel) (by decide +kernel)), by decide⟩
theorem is_X6_11 : ISite RX6 11 n_X4_init 0 := ⟨tt_cons (tt_of 85 (by decide +kernel) (by decide +kernel)), rfl, (tt_of 27 (by decide +kernel) (by decide +kernel)), Or.inr ⟨"TwoSurveys", by decide +kernel⟩, (tt_of 84 (by decide +kernel) (by decide +kernel)), rfl, ⟨by decide, by decide, by decide +kernel⟩⟩
theorem is_X0_3 : Cond.methodLink RX0 3 Lib.objectInit ∈ TT := (tt_of 163 (by decide +kernel) (by decide +kernel))
theorem cl_X0_9 : Cond.classLink RX0 9 ("[" ++ (FieldType.array .int).toString) ∈ TT := (tt_of 164 (by decide +kernel) (by decide +kernel))
theorem is_X1_1 : Cond.methodLink RX1 1 Lib.objectInit ∈ TT := (tt_of 130 (by decide +kernel) (by decide +kernel))
theorem cl_X1_13 : Cond.classLink RX1 13 "TwoSurveys$Towns" ∈ TT := (tt_of 134 (by decide +kernel) (by decide +kernel))
theorem nw_X1_13 : NewS RX1 13 6 [.null, .null, .int 0, .int 0] 4 := ⟨RX6, TX6, tyX6, rfl, inT_X6, tyX6_ok, (tt_of 134 (by decide +kernel) (by decide +kernel)), (tt_of 76 (by decide +kernel) (by decide +kernel)), (tt_of 26 (by decide +kernel) (by decide +kernel)), by decide⟩
theorem is_X1_21 : ISite RX1 21 n_X6_init 0 := ⟨tt_cons (tt_of 79 (by decide +kernel) (by decide +kernel)), rfl, (tt_of 26 (by decide +kernel) (by decide +kernel)), Or.inr ⟨"TwoSurveys", by decide +kernel⟩, (tt_of 78 (by decide +kernel) (by decide +kernel)), rfl, ⟨by decide, by decide, by decide +kernel⟩⟩
theorem nw_X9_7 : NewS RX9 7 5 [.null, .int 0] 2 := ⟨RX5, TX5, tyX5, rfl, inT_X5, tyX5_ok, (tt_of 47 (by decide +kernel) (by decide +kernel)), (tt_of 48 (by decide +kernel) (by decide +kernel)), (tt_of 24 (by decide +kernel) (by decide +kernel)), by decide⟩
theorem is_X9_9 : ISite RX9 9 n_X5_init 0 := ⟨tt_cons (tt_of 51 (by decide +kernel) (by decide +kernel)), rfl, (tt_of 24 (by decide +kernel) (by decide +kernel)), Or.inr ⟨"TwoSurveys", by decide +kernel⟩, (tt_of 50 (by decide +kernel) (by decide +kernel)), rfl, ⟨by decide, by decide, by decide +kernel⟩⟩
theorem nw_X9_23 : NewS RX9 23 6 [.null, .null, .int 0, .int 0] 4 := ⟨RX6, TX6, tyX6, rfl, inT_X6, tyX6_ok, (tt_of 75 (by decide +kernel) (by decide +kernel)), (tt_of 76 (by decide +kernel) (by decide +kernel)), (tt_of 26 (by decide +kernel) (by decide +kernel)), by decide⟩
theorem is_X9_25 : ISite RX9 25 n_X6_init 0 := ⟨tt_cons (tt_of 79 (by decide +kernel) (by decide +kernel)), rfl, (tt_of 26 (by decide +kernel) (by decide +kernel)), Or.inr ⟨"TwoSurveys", by decide +kernel⟩, (tt_of 78 (by decide +kernel) (by decide +kernel)), rfl, ⟨by decide, by decide, by decide +kernel⟩⟩
theorem nw_X9_16 : NewS RX9 16 2 [.null, .int 0] 2 := ⟨RX2, TX2, tyX2, rfl, inT_X2, tyX2_ok, (tt_of 61 (by decide +kernel) (by decide +kernel)), (tt_of 62 (by decide +kernel) (by decide +kernel)), (tt_of 25 (by decide +kernel) (by decide +kernel)), by decide⟩
theorem is_X9_18 : ISite RX9 18 n_X2_init 0 := ⟨tt_cons (tt_of 65 (by decide +kernel) (by decide +kernel)), rfl, (tt_of 25 (by decide +kernel) (by decide +kernel)), Or.inr ⟨"TwoSurveys", by decide +kernel⟩, (tt_of 64 (by decide +kernel) (by decide +kernel)), rfl, ⟨by decide, by decide, by decide +kernel⟩⟩
theorem is_X9_1 : Cond.methodLink RX9 1 Lib.objectInit ∈ TT := (tt_of 44 (by decide +kernel) (by decide +kernel))
theorem nw_X9_30 : NewS RX9 30 1 [.null, .int 0] 2 := ⟨RX1, TX1, tyX1, rfl, inT_X1, tyX1_ok, (tt_of 125 (by decide +kernel) (by decide +kernel)), (tt_of 126 (by decide +kernel) (by decide +kernel)), (tt_of 28 (by decide +kernel) (by decide +kernel)), by decide⟩
theorem is_X9_32 : ISite RX9 32 n_X1_init 1 := ⟨tt_cons (tt_of 129 (by decide +kernel) (by decide +kernel)), rfl, (tt_of 28 (by decide +kernel) (by decide +kernel)), Or.inl (tt_of 127 (by decide +kernel) (by decide +kernel)), (tt_of 128 (by decide +kernel) (by decide +kernel)), rfl, ⟨by decide, by decide, by decide +kernel⟩⟩
theorem nw_X9_42 : NewS RX9 42 3 [.null] 1 := ⟨RX3, TX3, tyX3, rfl, inT_X3, tyX3_ok, (tt_of 144 (by decide +kernel) (by decide +kernel)), (tt_of 145 (by decide +kernel) (by decide +kernel)), (tt_of 30 (by decide +kernel) (by decide +kernel)), by decide⟩
theorem is_X9_44 : ISite RX9 44 n_X3_init 0 := ⟨tt_cons (tt_of 148 (by decide +kernel) (by decide +kernel)), rfl, (tt_of 30 (by decide +kernel) (by decide +kernel)), Or.inl (tt_of 146 (by decide +kernel) (by decide +kernel)), (tt_of 147 (by decide +kernel) (by decide +kernel)), rfl, ⟨by decide, by decide, by decide +kernel⟩⟩
theorem nw_X9_49 : NewS RX9 49 0 [.null, .null, .null, .null, .null, .null, .int 0] 7 := ⟨RX0, TX0, tyX0, rfl, inT_X0, tyX0_ok, (tt_of 158 (by decide +kernel) (by decide +kernel)), (tt_of 159 (by decide +kernel) (by decide +kernel)), (tt_of 31 (by decide +kernel) (by decide +kernel)), by decide⟩
theorem is_X9_51 : ISite RX9 51 n_X0_init 0 := ⟨tt_cons (tt_of 162 (by decide +kernel) (by decide +kernel)), rfl, (tt_of 31 (by decide +kernel) (by decide +kernel)), Or.inr ⟨"TwoSurveys", by decide +kernel⟩, (tt_of 161 (by decide +kernel) (by decide +kernel)), rfl, ⟨by decide, by decide, by decide +kernel⟩⟩
theorem nw_X9_56 : NewS RX9 56 8 [.null, .int 0] 2 := ⟨RX8, TX8, tyX8, rfl, inT_X8, tyX8_ok, (tt_of 188 (by decide +kernel) (by decide +kernel)), (tt_of 189 (by decide +kernel) (by decide +kernel)), (tt_of 32 (by decide +kernel) (by decide +kernel)), by decide⟩
theorem is_X9_58 : ISite RX9 58 n_X8_init 0 := ⟨tt_cons (tt_of 192 (by decide +kernel) (by decide +kernel)), rfl, (tt_of 32 (by decide +kernel) (by decide +kernel)), Or.inr ⟨"TwoSurveys", by decide +kernel⟩, (tt_of 191 (by decide +kernel) (by decide +kernel)), rfl, ⟨by decide, by decide, by decide +kernel⟩⟩
theorem nw_X9_63 : NewS RX9 63 7 [.int 0, .int 0, .int 0, .int 0, .int 0, .int 0] 6 := ⟨RX7, TX7, tyX7, rfl, inT_X7, tyX7_ok, (tt_of 201 (by decide +kernel) (by decide +kernel)), (tt_of 202 (by decide +kernel) (by decide +kernel)), (tt_of 33 (by decide +kernel) (by decide +kernel)), by decide⟩
theorem is_X9_65 : ISite RX9 65 n_X7_init 0 := ⟨tt_cons (tt_of 205 (by decide +kernel) (by decide +kernel)), rfl, (tt_of 33 (by decide +kernel) (by decide +kernel)), Or.inr ⟨"TwoSurveys", by decide +kernel⟩, (tt_of 204 (by decide +kernel) (by decide +kernel)), rfl, ⟨by decide, by decide, by decide +kernel⟩⟩
def rz : Nat → Nat → Int32 := fun _ _ => 0
def zf : Nat → Int32 := fun _ => 0
def sv0 : SV := (zf, zf, zf, zf, zf, zf, 0, 0)
def tv0 : TV := (sv0, sv0, 0, 0)
def ad2 (x y : Nat) : Nat → Nat := fun i => if i = 0 then x else y
def adL (l : List Nat) : Nat → Nat := fun i => l.getD i 0
theorem pm_app {R : List va_W} {w w' ws : va_W} (hw : w.Perm w') (e : R.flatten ++ w' = ws) {S : List va_W} (hS : S = R ++ [w] := by rfl) : S.flatten.Perm ws := by
  subst hS
  subst e
  rw [sg_push]
  exact hw.append_left _
