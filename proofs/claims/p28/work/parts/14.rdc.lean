set_option maxHeartbeats 4000000 in
set_option maxRecDepth 100000 in
theorem c_X2_take (E : GE) (c : Nat → Nat) (u : (Nat → Int32) × Nat) (t : Nat) (a : Nat → Nat) (b : Nat → Nat) (v : TV) (l : Int32) (hv : okT v) : CT E m_X2_take [.ref (c 0), .int l, .ref t] ([wRd E c u, wTw E t a b (tR v) (tN v), wSv E a (tA v), wSv E b (tB v)].flatten) (some (.int (b2i ((rdTake l u.1 v).1)))) ([wRd E c u, wTw E t a b (tR ((rdTake l u.1 v).2)) (tN ((rdTake l u.1 v).2)), wSv E a (tA ((rdTake l u.1 v).2)), wSv E b (tB ((rdTake l u.1 v).2))].flatten) := by
  refine CT.intro (by decide +kernel) (Nat.le_of_ble_eq_true rfl) (fun Γ X hx => ?_)
  refine GG.lv [0, 1, 2] (lv' := [(0, .ref (c 0)), (1, .int l), (2, .ref t)]) rfl ?_
  have hA : okS (tA v) := hv.1
  have hB : okS (tB v) := hv.2.1
  have hv1 : sM (tA v) ≤ 8 := hA.1
  have hv2 : sS (tA v) ≤ 8 := hA.2
  have hv3 : sM (tB v) ≤ 8 := hB.1
  have hv4 : sS (tB v) ≤ 8 := hB.2
  have hv5 : tN v ≤ 3 := hv.2.2
  refine g_iload_n X 1 dX2_take_0 rfl ?_
  by_cases w_1_97 : l = nI 97
  · subst w_1_97
    refine g_tsIn (tgt := 118) X 97 dX2_take_1 rfl (by decide) (by decide) rfl (by decide) ?_
    refine g_aload_n X 2 dX2_take_118 rfl ?_
    refine g_iconst (v := (nI 0)) X dX2_take_119 rfl ?_
    refine g_callVr (st2 := [.ref (a 0)]) (q0 := 0) X (c_X6_surveyOf_0 E t a b v) cs_X2_66 rfl [1, 2, 3] [0] 4 rfl (by decide) rfl rfl rfl rfl rfl (Nat.le_of_ble_eq_true rfl) dX2_take_120 rfl ?_
    refine g_aload_n X 0 dX2_take_123 rfl ?_
    refine g_getf (v := .ref (c 1)) X fs_X2_9 0 rfl rfl dX2_take_124 ?_
    refine g_iconst (v := (nI 0)) X dX2_take_127 rfl ?_
    refine g_iald X 1 rfl 0 (ix_nI (by omega) (by decide)) dX2_take_128 ?_
    refine g_aload_n X 0 dX2_take_129 rfl ?_
    refine g_getf (v := .ref (c 1)) X fs_X2_9 0 rfl rfl dX2_take_130 ?_
    refine g_iconst (v := (nI 1)) X dX2_take_133 rfl ?_
    refine g_iald X 1 rfl 1 (ix_nI (by omega) (by decide)) dX2_take_134 ?_
    refine g_aload_n X 0 dX2_take_135 rfl ?_
    refine g_getf (v := .ref (c 1)) X fs_X2_9 0 rfl rfl dX2_take_136 ?_
    refine g_iconst (v := (nI 2)) X dX2_take_139 rfl ?_
    refine g_iald X 1 rfl 2 (ix_nI (by omega) (by decide)) dX2_take_140 ?_
    refine g_callV (st2 := [.int (b2i (addMok (tA v) (u.1 0) (u.1 1) (u.1 2)))]) (S' := [wRd E c u, wTw E t a b (tR v) (tN v), wSv E a (svAddM (tA v) (u.1 0) (u.1 1) (u.1 2)), wSv E b (tB v)]) (q0 := 0) X (c_X4_addMeeting E a (tA v) (u.1 0) (u.1 1) (u.1 2) (by first | assumption | omega)) cs_X2_70 rfl [2] [0, 1, 3] 4 rfl rfl (by decide) [wRd E c u, wTw E t a b (tR v) (tN v), wSv E b (tB v)] rfl rfl rfl rfl (by simp only [List.map_cons, List.map_nil, fsRd, fsSv, fsTw]) rfl rfl rfl rfl (Nat.le_of_ble_eq_true rfl) dX2_take_141 rfl ?_
    exact g_zretv (r := (b2i (addMok (tA v) (u.1 0) (u.1 1) (u.1 2)))) X hx rfl (by simp [rdTake, nI_eq]; try rfl) (by simp [rdTake, nI_eq]) dX2_take_144
  by_cases w_1_98 : l = nI 98
  · subst w_1_98
    refine g_tsIn (tgt := 145) X 98 dX2_take_1 rfl (by decide) (by decide) rfl (by decide) ?_
    refine g_aload_n X 2 dX2_take_145 rfl ?_
    refine g_iconst (v := (nI 1)) X dX2_take_146 rfl ?_
    refine g_callVr (st2 := [.ref (b 0)]) (q0 := 0) X (c_X6_surveyOf_1 E t a b v) cs_X2_66 rfl [1, 2, 3] [0] 4 rfl (by decide) rfl rfl rfl rfl rfl (Nat.le_of_ble_eq_true rfl) dX2_take_147 rfl ?_
    refine g_aload_n X 0 dX2_take_150 rfl ?_
    refine g_getf (v := .ref (c 1)) X fs_X2_9 0 rfl rfl dX2_take_151 ?_
    refine g_iconst (v := (nI 0)) X dX2_take_154 rfl ?_
    refine g_iald X 1 rfl 0 (ix_nI (by omega) (by decide)) dX2_take_155 ?_
    refine g_aload_n X 0 dX2_take_156 rfl ?_
    refine g_getf (v := .ref (c 1)) X fs_X2_9 0 rfl rfl dX2_take_157 ?_
    refine g_iconst (v := (nI 1)) X dX2_take_160 rfl ?_
    refine g_iald X 1 rfl 1 (ix_nI (by omega) (by decide)) dX2_take_161 ?_
    refine g_aload_n X 0 dX2_take_162 rfl ?_
    refine g_getf (v := .ref (c 1)) X fs_X2_9 0 rfl rfl dX2_take_163 ?_
    refine g_iconst (v := (nI 2)) X dX2_take_166 rfl ?_
    refine g_iald X 1 rfl 2 (ix_nI (by omega) (by decide)) dX2_take_167 ?_
    refine g_callV (st2 := [.int (b2i (addMok (tB v) (u.1 0) (u.1 1) (u.1 2)))]) (S' := [wRd E c u, wTw E t a b (tR v) (tN v), wSv E a (tA v), wSv E b (svAddM (tB v) (u.1 0) (u.1 1) (u.1 2))]) (q0 := 0) X (c_X4_addMeeting E b (tB v) (u.1 0) (u.1 1) (u.1 2) (by first | assumption | omega)) cs_X2_70 rfl [3] [0, 1, 2] 4 rfl rfl (by decide) [wRd E c u, wTw E t a b (tR v) (tN v), wSv E a (tA v)] rfl rfl rfl rfl (by simp only [List.map_cons, List.map_nil, fsRd, fsSv, fsTw]) rfl rfl rfl rfl (Nat.le_of_ble_eq_true rfl) dX2_take_168 rfl ?_
    exact g_zretv (r := (b2i (addMok (tB v) (u.1 0) (u.1 1) (u.1 2)))) X hx rfl (by simp [rdTake, nI_eq]; try rfl) (by simp [rdTake, nI_eq]) dX2_take_171
  by_cases w_1_110 : l = nI 110
  · subst w_1_110
    refine g_tsIn (tgt := 107) X 110 dX2_take_1 rfl (by decide) (by decide) rfl (by decide) ?_
    refine g_aload_n X 2 dX2_take_107 rfl ?_
    refine g_aload_n X 0 dX2_take_108 rfl ?_
    refine g_getf (v := .ref (c 1)) X fs_X2_9 0 rfl rfl dX2_take_109 ?_
    refine g_iconst (v := (nI 0)) X dX2_take_112 rfl ?_
    refine g_iald X 1 rfl 0 (ix_nI (by omega) (by decide)) dX2_take_113 ?_
    refine g_callV (st2 := [.int (b2i (inR (u.1 0) (nI 0) (nI 3)))]) (S' := [wRd E c u, wTw E t a b (tR (tSetN v (u.1 0))) (tN (tSetN v (u.1 0))), wSv E a (tA (tSetN v (u.1 0))), wSv E b (tB (tSetN v (u.1 0)))]) (q0 := 0) X (c_X6_setRounds E t a b v (u.1 0)) cs_X2_63 rfl [1, 2, 3] [0] 4 rfl rfl (by decide) [wRd E c u] rfl rfl rfl rfl (by simp only [List.map_cons, List.map_nil, fsRd, fsSv, fsTw]) rfl rfl rfl rfl (Nat.le_of_ble_eq_true rfl) dX2_take_114 rfl ?_
    exact g_zretv (r := (b2i (inR (u.1 0) (nI 0) (nI 3)))) X hx rfl (by simp [rdTake, nI_eq]; try rfl) (by simp [rdTake, nI_eq]) dX2_take_117
  by_cases w_1_114 : l = nI 114
  · subst w_1_114
    refine g_tsIn (tgt := 96) X 114 dX2_take_1 rfl (by decide) (by decide) rfl (by decide) ?_
    refine g_aload_n X 2 dX2_take_96 rfl ?_
    refine g_aload_n X 0 dX2_take_97 rfl ?_
    refine g_getf (v := .ref (c 1)) X fs_X2_9 0 rfl rfl dX2_take_98 ?_
    refine g_iconst (v := (nI 0)) X dX2_take_101 rfl ?_
    refine g_iald X 1 rfl 0 (ix_nI (by omega) (by decide)) dX2_take_102 ?_
    refine g_callV (st2 := [.int (b2i (inR (u.1 0) (nI 1) (nI 20)))]) (S' := [wRd E c u, wTw E t a b (tR (tSetR v (u.1 0))) (tN (tSetR v (u.1 0))), wSv E a (tA (tSetR v (u.1 0))), wSv E b (tB (tSetR v (u.1 0)))]) (q0 := 0) X (c_X6_setRadius E t a b v (u.1 0)) cs_X2_59 rfl [1, 2, 3] [0] 4 rfl rfl (by decide) [wRd E c u] rfl rfl rfl rfl (by simp only [List.map_cons, List.map_nil, fsRd, fsSv, fsTw]) rfl rfl rfl rfl (Nat.le_of_ble_eq_true rfl) dX2_take_103 rfl ?_
    exact g_zretv (r := (b2i (inR (u.1 0) (nI 1) (nI 20)))) X hx rfl (by simp [rdTake, nI_eq]; try rfl) (by simp [rdTake, nI_eq]) dX2_take_106
  by_cases w_1_115 : l = nI 115
  · subst w_1_115
    refine g_tsIn (tgt := 172) X 115 dX2_take_1 rfl (by decide) (by decide) rfl (by decide) ?_
    refine g_aload_n X 2 dX2_take_172 rfl ?_
    refine g_iconst (v := (nI 0)) X dX2_take_173 rfl ?_
    refine g_callVr (st2 := [.ref (a 0)]) (q0 := 0) X (c_X6_surveyOf_0 E t a b v) cs_X2_66 rfl [1, 2, 3] [0] 4 rfl (by decide) rfl rfl rfl rfl rfl (Nat.le_of_ble_eq_true rfl) dX2_take_174 rfl ?_
    refine g_aload_n X 0 dX2_take_177 rfl ?_
    refine g_getf (v := .ref (c 1)) X fs_X2_9 0 rfl rfl dX2_take_178 ?_
    refine g_iconst (v := (nI 0)) X dX2_take_181 rfl ?_
    refine g_iald X 1 rfl 0 (ix_nI (by omega) (by decide)) dX2_take_182 ?_
    refine g_aload_n X 0 dX2_take_183 rfl ?_
    refine g_getf (v := .ref (c 1)) X fs_X2_9 0 rfl rfl dX2_take_184 ?_
    refine g_iconst (v := (nI 1)) X dX2_take_187 rfl ?_
    refine g_iald X 1 rfl 1 (ix_nI (by omega) (by decide)) dX2_take_188 ?_
    refine g_aload_n X 0 dX2_take_189 rfl ?_
    refine g_getf (v := .ref (c 1)) X fs_X2_9 0 rfl rfl dX2_take_190 ?_
    refine g_iconst (v := (nI 2)) X dX2_take_193 rfl ?_
    refine g_iald X 1 rfl 2 (ix_nI (by omega) (by decide)) dX2_take_194 ?_
    refine g_callV (st2 := [.int (b2i (addSok (tA v) (u.1 0) (u.1 1) (u.1 2)))]) (S' := [wRd E c u, wTw E t a b (tR v) (tN v), wSv E a (svAddS (tA v) (u.1 0) (u.1 1) (u.1 2)), wSv E b (tB v)]) (q0 := 0) X (c_X4_addStreet E a (tA v) (u.1 0) (u.1 1) (u.1 2) (by first | assumption | omega)) cs_X2_75 rfl [2] [0, 1, 3] 4 rfl rfl (by decide) [wRd E c u, wTw E t a b (tR v) (tN v), wSv E b (tB v)] rfl rfl rfl rfl (by simp only [List.map_cons, List.map_nil, fsRd, fsSv, fsTw]) rfl rfl rfl rfl (Nat.le_of_ble_eq_true rfl) dX2_take_195 rfl ?_
    exact g_zretv (r := (b2i (addSok (tA v) (u.1 0) (u.1 1) (u.1 2)))) X hx rfl (by simp [rdTake, nI_eq]; try rfl) (by simp [rdTake, nI_eq]) dX2_take_198
  by_cases w_1_116 : l = nI 116
  · subst w_1_116
    refine g_tsIn (tgt := 199) X 116 dX2_take_1 rfl (by decide) (by decide) rfl (by decide) ?_
    refine g_aload_n X 2 dX2_take_199 rfl ?_
    refine g_iconst (v := (nI 1)) X dX2_take_200 rfl ?_
    refine g_callVr (st2 := [.ref (b 0)]) (q0 := 0) X (c_X6_surveyOf_1 E t a b v) cs_X2_66 rfl [1, 2, 3] [0] 4 rfl (by decide) rfl rfl rfl rfl rfl (Nat.le_of_ble_eq_true rfl) dX2_take_201 rfl ?_
    refine g_aload_n X 0 dX2_take_204 rfl ?_
    refine g_getf (v := .ref (c 1)) X fs_X2_9 0 rfl rfl dX2_take_205 ?_
    refine g_iconst (v := (nI 0)) X dX2_take_208 rfl ?_
    refine g_iald X 1 rfl 0 (ix_nI (by omega) (by decide)) dX2_take_209 ?_
    refine g_aload_n X 0 dX2_take_210 rfl ?_
    refine g_getf (v := .ref (c 1)) X fs_X2_9 0 rfl rfl dX2_take_211 ?_
    refine g_iconst (v := (nI 1)) X dX2_take_214 rfl ?_
    refine g_iald X 1 rfl 1 (ix_nI (by omega) (by decide)) dX2_take_215 ?_
    refine g_aload_n X 0 dX2_take_216 rfl ?_
    refine g_getf (v := .ref (c 1)) X fs_X2_9 0 rfl rfl dX2_take_217 ?_
    refine g_iconst (v := (nI 2)) X dX2_take_220 rfl ?_
    refine g_iald X 1 rfl 2 (ix_nI (by omega) (by decide)) dX2_take_221 ?_
    refine g_callV (st2 := [.int (b2i (addSok (tB v) (u.1 0) (u.1 1) (u.1 2)))]) (S' := [wRd E c u, wTw E t a b (tR v) (tN v), wSv E a (tA v), wSv E b (svAddS (tB v) (u.1 0) (u.1 1) (u.1 2))]) (q0 := 0) X (c_X4_addStreet E b (tB v) (u.1 0) (u.1 1) (u.1 2) (by first | assumption | omega)) cs_X2_75 rfl [3] [0, 1, 2] 4 rfl rfl (by decide) [wRd E c u, wTw E t a b (tR v) (tN v), wSv E a (tA v)] rfl rfl rfl rfl (by simp only [List.map_cons, List.map_nil, fsRd, fsSv, fsTw]) rfl rfl rfl rfl (Nat.le_of_ble_eq_true rfl) dX2_take_222 rfl ?_
    exact g_zretv (r := (b2i (addSok (tB v) (u.1 0) (u.1 1) (u.1 2)))) X hx rfl (by simp [rdTake, nI_eq]; try rfl) (by simp [rdTake, nI_eq]) dX2_take_225
  refine g_tsDef (tgt := 226) X dX2_take_1 (by decide) (fun i hi => ?_) (by decide) ?_
  · have hi2 : i < 20 := hi
    match i, hi2 with
    | 0, _ => exact Or.inr (lv_neT w_1_97 rfl)
    | 1, _ => exact Or.inr (lv_neT w_1_98 rfl)
    | 2, _ => exact Or.inl rfl
    | 3, _ => exact Or.inl rfl
    | 4, _ => exact Or.inl rfl
    | 5, _ => exact Or.inl rfl
    | 6, _ => exact Or.inl rfl
    | 7, _ => exact Or.inl rfl
    | 8, _ => exact Or.inl rfl
    | 9, _ => exact Or.inl rfl
    | 10, _ => exact Or.inl rfl
    | 11, _ => exact Or.inl rfl
    | 12, _ => exact Or.inl rfl
    | 13, _ => exact Or.inr (lv_neT w_1_110 rfl)
    | 14, _ => exact Or.inl rfl
    | 15, _ => exact Or.inl rfl
    | 16, _ => exact Or.inl rfl
    | 17, _ => exact Or.inr (lv_neT w_1_114 rfl)
    | 18, _ => exact Or.inr (lv_neT w_1_115 rfl)
    | 19, _ => exact Or.inr (lv_neT w_1_116 rfl)
    | i + 20, h => exact absurd h (by omega)
  refine g_iconst (v := (nI 0)) X dX2_take_226 rfl ?_
  exact g_zretv (r := (nI 0)) X hx rfl (by simp [rdTake, nI_eq, w_1_97, w_1_98, w_1_110, w_1_114, w_1_115, w_1_116]; try rfl) (by simp [rdTake, nI_eq, w_1_97, w_1_98, w_1_110, w_1_114, w_1_115, w_1_116]) dX2_take_227
