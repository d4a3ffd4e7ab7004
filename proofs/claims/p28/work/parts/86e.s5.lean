section LAW
variable {E : GE} {nm0 : String} {p : Program} {ev : Env} {s0 : State} {m : MethodId} {b : Nat} {below : List Frame} {meth : Method} {c : Code} {O : Nat → Nat → Nat} {Q : Nat → Nat → Nat → Nat} {ad ae cells slots L : Nat} {xs : Nat → Int32} {v : TV} {w : TXT} {f : Nat → Int32} {oa : PO} {ok : PO} {ta : Nat → TV} {tk : Nat → TV} {d : Nat → Int32} {e : Nat → Int32}
set_option maxHeartbeats 4000000 in
set_option maxRecDepth 100000 in
theorem lw_s5 (X : CX E (m_L nm0) (GL p ev s0 m b below meth c)) (hX : SC (GL p ev s0 m b below meth c) b L xs) (hL : L < 2 ^ 31) (hcs : cells ≤ 600000 ∧ slots ≤ 7302250) {z : ScrT} (rd R0 : Nat) (hrd : rd < 6) (hd : DE v d e) (hR : tR v = nI R0) (hR1 : 1 ≤ R0) (hR2 : R0 ≤ 20) (ho : ordO 8 oa) {v2 : TV} {oa2 : PO} {ta2 : Nat → TV} {ok1 : PO} {tk1 : Nat → TV} {x0 : TV} (hV2 : RV v2) (hS2 : sS (tA v2) = sS (tA v)) (ho2 : ordO 8 oa2) (hk1 : ordO 2 ok1) (hk11 : ok1.2 = 1) (htk : tk1 (ok1.1 0) = tCopy v x0) (kk : ∀ (v5 : TV) (oa5 : PO) (ta3 : Nat → TV) (ok5 : PO) (z : ScrT), DE v5 d e → ordO 8 oa5 → oa5.2 = 0 → ordO 2 ok5 → ok5.2 = 0 → GG E (m_L nm0) (GL p ev s0 m b below meth c) cells slots (wL E O Q ad ae v5 w f oa5 ok5 ta3 tk1 d e z) [(0, .ref b), (1, .ref (O 0 0)), (2, .ref ad), (3, .ref ae), (4, .int (nI rd)), (5, .int (celV L xs (25 + rd))), (6, .int (nI (sM (tA v)))), (7, .int (nI (sM (tB v)))), (8, .int (nI (sS (tA v)))), (9, .int (nI oa.2)), (10, .int (nI R0)), (11, .int (nI 1)), (12, .int (nI (mtC (cM v) (sM (tA v)))))] 1279 []) : GG E (m_L nm0) (GL p ev s0 m b below meth c) cells slots (wL E O Q ad ae v2 w f oa2 ok1 ta2 tk1 d e z) [(0, .ref b), (1, .ref (O 0 0)), (2, .ref ad), (3, .ref ae), (4, .int (nI rd)), (5, .int (celV L xs (25 + rd))), (6, .int (nI (sM (tA v)))), (7, .int (nI (sM (tB v)))), (8, .int (nI (sS (tA v)))), (9, .int (nI oa.2)), (10, .int (nI R0)), (11, .int (nI 1)), (12, .int (nI (mtC (cM v) (sM (tA v)))))] 1153 [] := by
  have hv : okT v := hd.ok
  have h8a := hv.1.1
  have h8b := hv.2.1.1
  have h8s := hv.1.2
  have h8t := hv.2.1.2
  have h1a := hd.1.2.1
  have h1b := hd.1.2.2
  have ho8 := ho.1
  refine g_iconst (v := (nI 0)) X dL_law_1153 rfl ?_
  refine g_istore (lv' := [(17, .int (nI 0)), (0, .ref b), (1, .ref (O 0 0)), (2, .ref ad), (3, .ref ae), (4, .int (nI rd)), (5, .int (celV L xs (25 + rd))), (6, .int (nI (sM (tA v)))), (7, .int (nI (sM (tB v)))), (8, .int (nI (sS (tA v)))), (9, .int (nI oa.2)), (10, .int (nI R0)), (11, .int (nI 1)), (12, .int (nI (mtC (cM v) (sM (tA v)))))]) X dL_law_1154 (show 17 < 23 by decide) rfl ?_
  have L_1156 : ∀ (n_1156 : Nat) (k : Nat) (v3 : TV) (oa3 : PO) (ta3 : Nat → TV) (z : ScrT) (hkk : k ≤ sS (tA v)) (hV3 : RV v3) (hs3 : sS (tA v3) = sS (tA v) - k) (ho3 : ordO 8 oa3) (hm_1156 : sS (tA v) - k < n_1156) (x_17 : Int32) (ex_17 : x_17 = (nI k)), GG E (m_L nm0) (GL p ev s0 m b below meth c) cells slots (wL E O Q ad ae v3 w f oa3 ok1 ta3 tk1 d e z) [(0, .ref b), (1, .ref (O 0 0)), (2, .ref ad), (3, .ref ae), (4, .int (nI rd)), (5, .int (celV L xs (25 + rd))), (6, .int (nI (sM (tA v)))), (7, .int (nI (sM (tB v)))), (8, .int (nI (sS (tA v)))), (9, .int (nI oa.2)), (10, .int (nI R0)), (11, .int (nI 1)), (12, .int (nI (mtC (cM v) (sM (tA v))))), (17, .int x_17)] 1156 [] := by
    intro n_1156
    induction n_1156 with
    | zero => intro k v3 oa3 ta3 z hkk hV3 hs3 ho3 hm_1156; exact absurd hm_1156 (Nat.not_lt_zero _)
    | succ n_1156 ih_1156 =>
      intro k v3 oa3 ta3 z hkk hV3 hs3 ho3 hm_1156 x_17 ex_17
      subst ex_17
      refine g_iload X 13 dL_law_1156 rfl ?_
      refine g_iload X 8 dL_law_1158 rfl ?_
      refine g_icmp_ge (tgt := 1203) X dL_law_1160 (by decide) (fun c_1160 => ?_) (fun c_1160 => ?_)
      · have f_c_1160 : sS (tA v) ≤ k := n_le (by omega) (by omega) c_1160
        have fn_c_1160 := Nat.not_lt.mpr f_c_1160
        have hs0 : sS (tA v3) = 0 := by omega
        refine g_iload X 11 dL_law_1203 rfl ?_
        refine g_if_eq (tgt := 1276) X dL_law_1205 (by decide) (fun c_1205 => absurd c_1205 (by decide)) (fun c_1205 => ?_)
        refine g_aload_n X 1 dL_law_1208 rfl ?_
        refine g_iconst (v := (nI 2)) X dL_law_1209 rfl ?_
        refine k_count X cs_L_47 rfl (Nat.le_of_ble_eq_true rfl) dL_law_1210 ?_ hcs
        rw [cq_2]
        refine g_if_ne (tgt := 1276) X dL_law_1213 (by decide) (fun c_1213 => by exfalso; have f_ : ¬ sS (tA v3) = 0 := n_ne (by omega) (by omega) c_1213; omega) (fun c_1213 => ?_)
        refine g_aload_n X 1 dL_law_1216 rfl ?_
        refine g_iconst (v := (nI 0)) X dL_law_1217 rfl ?_
        refine k_whole X hV3 cs_L_109 rfl (Nat.le_of_ble_eq_true rfl) dL_law_1218 (fun z => ?_) hcs
        have hm3 : mtC (cM v3) (sM (tA v3)) ≤ sM (tA v3) := cntB_le _ _
        have hv38 := hV3.ok.1.1
        rw [wh_0 hV3]
        refine g_if_lt (tgt := 1276) X dL_law_1221 (by decide) (fun c_1221 => absurd c_1221 (nI_pos (by omega))) (fun c_1221 => ?_)
        refine g_aload_n X 1 dL_law_1224 rfl ?_
        refine g_iconst (v := (nI 5)) X dL_law_1225 rfl ?_
        refine k_whole X hV3 cs_L_109 rfl (Nat.le_of_ble_eq_true rfl) dL_law_1226 (fun z => ?_) hcs
        rw [wh_5c, hs0, show toC v3 0 = 0 from rfl]
        refine g_if_ne (tgt := 1276) X dL_law_1229 (by decide) (fun c_1229 => absurd (by decide) c_1229) (fun c_1229 => ?_)
        refine g_aload_n X 1 dL_law_1232 rfl ?_
        refine k_back X hk1 cs_L_120 rfl (Nat.le_of_ble_eq_true rfl) dL_law_1233 ?_ hcs
        simp only [if_pos (show 0 < ok1.2 by omega)]
        rw [show ok1.2 - 1 = 0 by omega, htk]
        obtain ⟨v5, e_v5⟩ : ∃ v5, tCopy (tCopy v x0) v3 = v5 := ⟨_, rfl⟩
        rw [e_v5]
        have hd5 : DE v5 d e := by rw [← e_v5]; exact de_copy (de_copy hd x0) v3
        obtain ⟨oa5, e_oa5⟩ : ∃ oa5 : PO, (oa3.1, 0) = oa5 := ⟨_, rfl⟩
        rw [e_oa5]
        have ho5 : ordO 8 oa5 := by rw [← e_oa5]; exact ordO_pop ho3 0 (Nat.zero_le _)
        have hoa5 : oa5.2 = 0 := by rw [← e_oa5]
        obtain ⟨ok5, e_ok5⟩ : ∃ ok5 : PO, (ok1.1, 0) = ok5 := ⟨_, rfl⟩
        rw [e_ok5]
        have hk5 : ordO 2 ok5 := by rw [← e_ok5]; exact ordO_pop hk1 0 (Nat.zero_le _)
        have hok5 : ok5.2 = 0 := by rw [← e_ok5]
        refine g_if_ne (tgt := 1276) X dL_law_1236 (by decide) (fun c_1236 => absurd (by decide) c_1236) (fun c_1236 => ?_)
        refine g_aload_n X 1 dL_law_1239 rfl ?_
        refine g_bipush (v := (nI 6)) X dL_law_1240 rfl ?_
        refine k_count X cs_L_47 rfl (Nat.le_of_ble_eq_true rfl) dL_law_1242 ?_ hcs
        rw [cq_6]
        refine g_if_ne (tgt := 1276) X dL_law_1245 (by decide) (fun c_1245 => by exfalso; have f_ : ¬ oa5.2 = 0 := n_ne (by omega) (by omega) c_1245; omega) (fun c_1245 => ?_)
        refine g_aload_n X 1 dL_law_1248 rfl ?_
        refine g_aload_n X 2 dL_law_1249 rfl ?_
        refine g_aload_n X 3 dL_law_1250 rfl ?_
        refine k_alike X hd5 cs_L_95 rfl (Nat.le_of_ble_eq_true rfl) dL_law_1251 ?_ hcs
        rw [show b2i true = nI 1 from rfl]
        refine g_if_eq (tgt := 1276) X dL_law_1254 (by decide) (fun c_1254 => absurd c_1254 (by decide)) (fun c_1254 => ?_)
        refine g_aload_n X 1 dL_law_1257 rfl ?_
        refine g_iconst (v := (nI 0)) X dL_law_1258 rfl ?_
        refine k_whole X hd5.rv cs_L_109 rfl (Nat.le_of_ble_eq_true rfl) dL_law_1259 (fun z => ?_) hcs
        rw [wh_0 hd5.rv, ← mt_uni hd hd5]
        refine g_iload X 12 dL_law_1262 rfl ?_
        refine g_icmp_ne (tgt := 1276) X dL_law_1264 (by decide) (fun c_1264 => absurd rfl c_1264) (fun c_1264 => ?_)
        refine g_iload X 9 dL_law_1267 rfl ?_
        refine g_if_lt (tgt := 1276) X dL_law_1269 (by decide) (fun c_1269 => absurd c_1269 (nI_pos (by omega))) (fun c_1269 => ?_)
        refine g_iconst (v := (nI 1)) X dL_law_1272 rfl ?_
        refine g_goto (tgt := 1277) X dL_law_1273 (by decide) ?_
        refine g_istore (lv' := [(11, .int (nI 1)), (0, .ref b), (1, .ref (O 0 0)), (2, .ref ad), (3, .ref ae), (4, .int (nI rd)), (5, .int (celV L xs (25 + rd))), (6, .int (nI (sM (tA v)))), (7, .int (nI (sM (tB v)))), (8, .int (nI (sS (tA v)))), (9, .int (nI oa.2)), (10, .int (nI R0)), (12, .int (nI (mtC (cM v) (sM (tA v))))), (17, .int (nI k))]) X dL_law_1277 (show 11 < 23 by decide) rfl ?_
        refine GG.lv [1, 2, 3, 4, 5, 6, 7, 8, 9, 10, 11, 0, 12] rfl ?_
        exact kk v5 oa5 ta3 ok5 z (hd5) (ho5) (hoa5) (hk5) (hok5)
      · have f_c_1160 : k < sS (tA v) := n_nle (by omega) (by omega) c_1160
        have fn_c_1160 := Nat.not_le.mpr f_c_1160
        refine g_iload X 11 dL_law_1163 rfl ?_
        refine g_if_eq (tgt := 1194) X dL_law_1165 (by decide) (fun c_1165 => absurd c_1165 (by decide)) (fun c_1165 => ?_)
        refine g_aload_n X 1 dL_law_1168 rfl ?_
        refine g_iconst (v := (nI 0)) X dL_law_1169 rfl ?_
        refine g_iload X 8 dL_law_1170 rfl ?_
        refine g_iconst (v := (nI 1)) X dL_law_1172 rfl ?_
        refine g_isubN X (by omega) dL_law_1173 ?_
        refine g_iload X 13 dL_law_1174 rfl ?_
        refine g_isubN X (by omega) dL_law_1176 ?_
        refine k_cut X hV3.ok ho3 cs_L_69 rfl (Nat.le_of_ble_eq_true rfl) dL_law_1177 ?_ hcs
        obtain ⟨c1, c2⟩ := ct_0 (v := v3) hV3.ok (i := sS (tA v) - 1 - k) (by omega)
        simp only [c1, c2, if_true]
        rw [nI_clamp (show sS (tA v) - 1 - k < 2 ^ 31 by omega), svOf_0]
        obtain ⟨v4, e_v4⟩ : ∃ v4, tPut v3 (nI 0) (svDrop (tA v3) (sS (tA v) - 1 - k)) = v4 := ⟨_, rfl⟩
        rw [e_v4]
        have hV4 : RV v4 := by rw [← e_v4]; exact rv_cut hV3 (by omega)
        have hs4 : sS (tA v4) = sS (tA v3) - 1 := by rw [← e_v4, tPut_0]; first | done | rfl
        obtain ⟨oa4, e_oa4⟩ : ∃ oa4, pushO 8 oa3 = oa4 := ⟨_, rfl⟩
        rw [e_oa4]
        obtain ⟨ta4, e_ta4⟩ : ∃ ta4, pushT 8 oa3 ta3 v3 = ta4 := ⟨_, rfl⟩
        rw [e_ta4]
        have ho4 : ordO 8 oa4 := by rw [← e_oa4]; exact ordO_push ho3 (by decide)
        refine g_iload X 8 dL_law_1180 rfl ?_
        refine g_iconst (v := (nI 1)) X dL_law_1182 rfl ?_
        refine g_isubN X (by omega) dL_law_1183 ?_
        refine g_iload X 13 dL_law_1184 rfl ?_
        refine g_isubN X (by omega) dL_law_1186 ?_
        refine g_icmp_ne (tgt := 1194) X dL_law_1187 (by decide) (fun c_1187 => by exfalso; have f_ : ¬ sS (tA v3) - 1 = ((sS (tA v)) - 1) - k := n_ne (by omega) (by omega) c_1187; omega) (fun c_1187 => ?_)
        refine g_iconst (v := (nI 1)) X dL_law_1190 rfl ?_
        refine g_goto (tgt := 1195) X dL_law_1191 (by decide) ?_
        refine g_istore (lv' := [(11, .int (nI 1)), (0, .ref b), (1, .ref (O 0 0)), (2, .ref ad), (3, .ref ae), (4, .int (nI rd)), (5, .int (celV L xs (25 + rd))), (6, .int (nI (sM (tA v)))), (7, .int (nI (sM (tB v)))), (8, .int (nI (sS (tA v)))), (9, .int (nI oa.2)), (10, .int (nI R0)), (12, .int (nI (mtC (cM v) (sM (tA v))))), (17, .int (nI k))]) X dL_law_1195 (show 11 < 23 by decide) rfl ?_
        refine g_iincN (lv' := [(17, .int (nI (k + 1))), (11, .int (nI 1)), (0, .ref b), (1, .ref (O 0 0)), (2, .ref ad), (3, .ref ae), (4, .int (nI rd)), (5, .int (celV L xs (25 + rd))), (6, .int (nI (sM (tA v)))), (7, .int (nI (sM (tB v)))), (8, .int (nI (sS (tA v)))), (9, .int (nI oa.2)), (10, .int (nI R0)), (12, .int (nI (mtC (cM v) (sM (tA v)))))]) X 13 dL_law_1197 rfl (show 17 < 23 by decide) rfl ?_
        refine g_goto (tgt := 1156) X dL_law_1200 (by decide) ?_
        refine GG.lv [2, 3, 4, 5, 6, 7, 8, 9, 10, 11, 12, 1, 13, 0] rfl ?_
        exact ih_1156 (k + 1) v4 oa4 ta4 z (by omega) (hV4) (by omega) (ho4) (by omega) (nI (k + 1)) (by rfl)
  refine GG.lv [1, 2, 3, 4, 5, 6, 7, 8, 9, 10, 11, 12, 13, 0] rfl ?_
  exact L_1156 (sS (tA v) + 1) 0 v2 oa2 ta2 z (by omega) (hV2) (by omega) (ho2) (by omega) (nI 0) (by rfl)
end LAW
