theorem sm_uni {v v' : TV} {d e : Nat → Int32} (h : DE v d e) (h' : DE v' d e) : sM (tA v) = sM (tA v') ∧ sS (tA v) = sS (tA v') := by
  have a1 : sM (tA v) ≤ 8 := h.ok.1.1
  have a2 : sM (tA v') ≤ 8 := h'.ok.1.1
  have b1 : sS (tA v) ≤ 8 := h.ok.1.2
  have b2 : sS (tA v') ≤ 8 := h'.ok.1.2
  exact ⟨n_eq (by omega) (by omega) ((h.2.1 0 (by decide)).1.symm.trans (h'.2.1 0 (by decide)).1), n_eq (by omega) (by omega) ((h.2.1 0 (by decide)).2.symm.trans (h'.2.1 0 (by decide)).2)⟩
section LAW
variable {E : GE} {nm0 : String} {p : Program} {ev : Env} {s0 : State} {m : MethodId} {b : Nat} {below : List Frame} {meth : Method} {c : Code} {O : Nat → Nat → Nat} {Q : Nat → Nat → Nat → Nat} {ad ae cells slots L : Nat} {xs : Nat → Int32} {v : TV} {w : TXT} {f : Nat → Int32} {oa : PO} {ok : PO} {ta : Nat → TV} {tk : Nat → TV} {d : Nat → Int32} {e : Nat → Int32}
set_option maxHeartbeats 4000000 in
set_option maxRecDepth 100000 in
theorem lw_s6 (X : CX E (m_L nm0) (GL p ev s0 m b below meth c)) (hX : SC (GL p ev s0 m b below meth c) b L xs) (hL : L < 2 ^ 31) (hcs : cells ≤ 600000 ∧ slots ≤ 7302250) {z : ScrT} (rd R0 N6 N7 N8 U9 Mt : Nat) (hrd : rd < 6) (hd : DE v d e) (h6 : sM (tA v) = N6) (h8 : sS (tA v) = N8) (hM : ∀ v, DE v d e → mtC (cM v) (sM (tA v)) = Mt) (ho : ordO 8 oa) (ho0 : oa.2 = 0) (kk : ∀ (i : Nat) (v9 : TV) (oa9 : PO) (ta7 : Nat → TV) (z : ScrT), i < N6 → DE v9 d e → ordO 8 oa9 → GG E (m_L nm0) (GL p ev s0 m b below meth c) cells slots (wL E O Q ad ae v9 w f oa9 ok ta7 tk d e z) [(0, .ref b), (1, .ref (O 0 0)), (2, .ref ad), (3, .ref ae), (4, .int (nI rd)), (5, .int (celV L xs (25 + rd))), (6, .int (nI N6)), (7, .int (nI N7)), (8, .int (nI N8)), (9, .int (nI U9)), (10, .int (nI R0)), (11, .int (nI 1)), (12, .int (nI Mt)), (17, .int (nI i))] 1429 []) : GG E (m_L nm0) (GL p ev s0 m b below meth c) cells slots (wL E O Q ad ae v w f oa ok ta tk d e z) [(0, .ref b), (1, .ref (O 0 0)), (2, .ref ad), (3, .ref ae), (4, .int (nI rd)), (5, .int (celV L xs (25 + rd))), (6, .int (nI N6)), (7, .int (nI N7)), (8, .int (nI N8)), (9, .int (nI U9)), (10, .int (nI R0)), (11, .int (nI 1)), (12, .int (nI Mt))] 1279 [] := by
  have hv : okT v := hd.ok
  have h8a := hv.1.1
  have h8b := hv.2.1.1
  have h8s := hv.1.2
  have h8t := hv.2.1.2
  have h1a := hd.1.2.1
  have h1b := hd.1.2.2
  refine g_iload X 5 dL_law_1279 rfl ?_
  refine g_iload X 6 dL_law_1281 rfl ?_
  have lb1283 := lwN_lt (celV L xs (25 + rd)) (n := N6) (by omega)
  refine g_callSP (st2 := [.int (nI (lwN (celV L xs (25 + rd)) N6))]) (ws' := wL E O Q ad ae v w f oa ok ta tk d e z) (wr := wL E O Q ad ae v w f oa ok ta tk d e z) X (c_L_low E (celV L xs (25 + rd)) N6 (by omega) (by omega)) cs_L_25 rfl (List.Perm.refl _) rfl (List.Perm.refl _) rfl rfl (Nat.le_of_ble_eq_true rfl) dL_law_1283 rfl ?_ hcs
  obtain ⟨i, hi, ei⟩ : ∃ i, i < N6 ∧ lwN (celV L xs (25 + rd)) N6 = i := ⟨_, lwN_lt _ (by omega), rfl⟩
  rw [ei]
  have hi6 : i < sM (tA v) := by omega
  obtain ⟨X0, hX0, eX0⟩ := hd.x.1 i (by omega)
  have eX0 : d (16 + i) = nI X0 := eX0
  obtain ⟨Y0, hY0, eY0⟩ := hd.x.2 i (by omega)
  have eY0 : d (32 + i) = nI Y0 := eY0
  obtain ⟨K0, hK0, eK0⟩ := hd.2.2.2 i (by omega)
  obtain ⟨pK, pX, pY⟩ := hd.px (G := 0) (by decide) (show i < mmV v 0 from hi6)
  have eX : sX (tA v) i = nI X0 := pX.trans (by rw [show 16 + (8 * 0 + i) = 16 + i by omega]; exact eX0)
  have eY : sY (tA v) i = nI Y0 := pY.trans (by rw [show 32 + (8 * 0 + i) = 32 + i by omega]; exact eY0)
  have eK : sKd (tA v) i = nI K0 := pK.trans (by rw [show 8 * 0 + i = i by omega]; exact eK0)
  refine g_istore (lv' := [(17, .int (nI i)), (0, .ref b), (1, .ref (O 0 0)), (2, .ref ad), (3, .ref ae), (4, .int (nI rd)), (5, .int (celV L xs (25 + rd))), (6, .int (nI N6)), (7, .int (nI N7)), (8, .int (nI N8)), (9, .int (nI U9)), (10, .int (nI R0)), (11, .int (nI 1)), (12, .int (nI Mt))]) X dL_law_1286 (show 17 < 23 by decide) rfl ?_
  refine g_aload_n X 3 dL_law_1288 rfl ?_
  refine g_bipush (v := (nI 16)) X dL_law_1289 rfl ?_
  refine g_iload X 0 dL_law_1291 rfl ?_
  refine g_iaddN X dL_law_1293 ?_
  refine k_dld X (j := 16 + i) (by omega) dL_law_1294 ?_
  rw [eX0]
  refine g_iconst (v := (nI 1)) X dL_law_1295 rfl ?_
  refine g_iaddN X dL_law_1296 ?_
  refine g_bipush (v := (nI 61)) X dL_law_1297 rfl ?_
  refine g_iremN X (by omega) (by omega) (by omega) dL_law_1299 ?_
  refine g_istore (lv' := [(18, .int (nI ((X0 + 1) % 61))), (17, .int (nI i)), (0, .ref b), (1, .ref (O 0 0)), (2, .ref ad), (3, .ref ae), (4, .int (nI rd)), (5, .int (celV L xs (25 + rd))), (6, .int (nI N6)), (7, .int (nI N7)), (8, .int (nI N8)), (9, .int (nI U9)), (10, .int (nI R0)), (11, .int (nI 1)), (12, .int (nI Mt))]) X dL_law_1300 (show 18 < 23 by decide) rfl ?_
  refine g_iload X 13 dL_law_1302 rfl ?_
  refine g_if_eq (tgt := 1426) X dL_law_1304 (by decide) (fun c_1304 => absurd c_1304 (by decide)) (fun c_1304 => ?_)
  refine g_aload_n X 3 dL_law_1307 rfl ?_
  refine g_iconst (v := (nI 0)) X dL_law_1308 rfl ?_
  refine g_iload X 1 dL_law_1309 rfl ?_
  refine g_iload X 0 dL_law_1311 rfl ?_
  refine g_aload_n X 4 dL_law_1313 rfl ?_
  refine g_bipush (v := (nI 32)) X dL_law_1314 rfl ?_
  refine g_iload X 1 dL_law_1316 rfl ?_
  refine g_iaddN X dL_law_1318 ?_
  refine k_dld X (j := 32 + i) (by omega) dL_law_1319 ?_
  rw [eY0]
  refine k_move X hv ho cs_L_56 rfl (Nat.le_of_ble_eq_true rfl) dL_law_1320 ?_ hcs
  have hax : (X0 + 1) % 61 ≤ 60 := by omega
  obtain ⟨m1, m2⟩ := mv_0 hv hi6 hax hY0 eX eY hX0 hY0
  rw [decide_eq_true (show ¬ (X0 = (X0 + 1) % 61 ∧ Y0 = Y0) by omega)] at m1
  rw [if_neg (show ¬ (X0 = (X0 + 1) % 61 ∧ Y0 = Y0) by omega)] at m2
  simp only [m1, m2, if_true]
  rw [svOf_0, nI_clamp (show i < 2 ^ 31 by omega)]
  obtain ⟨v6, e_v6⟩ : ∃ v6, tPut v (nI 0) (svPut (tA v) i (nI ((X0 + 1) % 61)) (nI Y0)) = v6 := ⟨_, rfl⟩
  rw [e_v6]
  have hv6 : okT v6 := by rw [← e_v6, tPut_0]; exact hv
  have hM6 : sM (tA v6) = sM (tA v) := by rw [← e_v6, tPut_0]; first | done | rfl
  have hX6 : sX (tA v6) i = nI ((X0 + 1) % 61) := by rw [← e_v6, tPut_0]; exact upd_s _ _ _
  have hK6 : sKd (tA v6) i = nI K0 := by rw [← e_v6, tPut_0]; exact eK
  obtain ⟨o1, o2, o3⟩ := push8_1 ho0 ta v
  rw [o3]
  obtain ⟨oa6, e_oa6⟩ : ∃ oa6, pushO 8 oa = oa6 := ⟨_, rfl⟩
  rw [e_oa6]
  rw [e_oa6] at o1 o2
  obtain ⟨ta6, e_ta6⟩ : ∃ ta6, upT ta (oa.1 0) (tCopy v (ta (oa.1 0))) = ta6 := ⟨_, rfl⟩
  rw [e_ta6]
  have ho6 : ordO 8 oa6 := by rw [← e_oa6]; exact ordO_push ho (by decide)
  have t60 : ta6 (oa.1 0) = tCopy v (ta (oa.1 0)) := by rw [← e_ta6]; exact upT_s _ _ _
  refine g_iconst (v := (nI 1)) X dL_law_1323 rfl ?_
  refine g_icmp_ne (tgt := 1426) X dL_law_1324 (by decide) (fun c_1324 => absurd (by decide) c_1324) (fun c_1324 => ?_)
  refine g_aload_n X 3 dL_law_1327 rfl ?_
  refine g_iconst (v := (nI 0)) X dL_law_1328 rfl ?_
  refine g_iload X 1 dL_law_1329 rfl ?_
  refine g_iconst (v := (nI 1)) X dL_law_1331 rfl ?_
  refine k_meeting X hv6 cs_L_50 rfl (Nat.le_of_ble_eq_true rfl) dL_law_1332 ?_ hcs
  rw [me_x hv6 (show i < sM (tA v6) by omega), hX6]
  refine g_iload X 0 dL_law_1335 rfl ?_
  refine g_icmp_ne (tgt := 1426) X dL_law_1337 (by decide) (fun c_1337 => absurd rfl c_1337) (fun c_1337 => ?_)
  refine g_aload_n X 3 dL_law_1340 rfl ?_
  refine g_iconst (v := (nI 0)) X dL_law_1341 rfl ?_
  refine g_iload X 1 dL_law_1342 rfl ?_
  refine g_aload_n X 4 dL_law_1344 rfl ?_
  refine g_iload X 1 dL_law_1345 rfl ?_
  refine k_dld X (j := i) (by omega) dL_law_1347 ?_
  rw [eK0]
  refine g_iconst (v := (nI 1)) X dL_law_1348 rfl ?_
  refine g_iaddN X dL_law_1349 ?_
  refine g_iconst (v := (nI 4)) X dL_law_1350 rfl ?_
  refine g_iremN X (by omega) (by omega) (by omega) dL_law_1351 ?_
  refine k_rename X hv6 ho6 cs_L_60 rfl (Nat.le_of_ble_eq_true rfl) dL_law_1352 ?_ hcs
  obtain ⟨r1, r2⟩ := rn_0 hv6 (show i < sM (tA v6) by omega) (show (K0 + 1) % 4 ≤ 3 by omega) hK6 hK0 (by omega)
  simp only [r1, r2, if_true]
  rw [svOf_0, nI_clamp (show i < 2 ^ 31 by omega)]
  obtain ⟨v7, e_v7⟩ : ∃ v7, tPut v6 (nI 0) (svKind (tA v6) i (nI ((K0 + 1) % 4))) = v7 := ⟨_, rfl⟩
  rw [e_v7]
  have hv7 : okT v7 := by rw [← e_v7, tPut_0]; exact hv6
  obtain ⟨o4, o5, o6⟩ := push8_2 o1 ta6 v6
  rw [o6]
  obtain ⟨oa7, e_oa7⟩ : ∃ oa7, pushO 8 oa6 = oa7 := ⟨_, rfl⟩
  rw [e_oa7]
  rw [e_oa7] at o4 o5
  obtain ⟨ta7, e_ta7⟩ : ∃ ta7, upT ta6 (oa6.1 1) (tCopy v6 (ta6 (oa6.1 1))) = ta7 := ⟨_, rfl⟩
  rw [e_ta7]
  have ho7 : ordO 8 oa7 := by rw [← e_oa7]; exact ordO_push ho6 (by decide)
  have hne : oa6.1 0 ≠ oa6.1 1 := fun q => absurd (ho6.2.2 0 1 (by decide) (by decide) q) (by decide)
  have t71 : ta7 (oa7.1 1) = tCopy v6 (ta6 (oa6.1 1)) := by rw [← e_ta7, o5]; exact upT_s _ _ _
  have t70 : ta7 (oa7.1 0) = tCopy v (ta (oa.1 0)) := by rw [← e_ta7, o5, upT_n _ _ hne, o2]; exact t60
  refine g_aload_n X 4 dL_law_1355 rfl ?_
  refine g_iload X 1 dL_law_1356 rfl ?_
  refine k_dld X (j := i) (by omega) dL_law_1358 ?_
  rw [eK0]
  refine g_icmp_ne (tgt := 1426) X dL_law_1359 (by decide) (fun c_1359 => absurd rfl c_1359) (fun c_1359 => ?_)
  refine g_aload_n X 3 dL_law_1362 rfl ?_
  refine k_undo X hv7 ho7 cs_L_123 rfl (Nat.le_of_ble_eq_true rfl) dL_law_1363 ?_ hcs
  simp only [if_pos (show 0 < oa7.2 by omega)]
  rw [show oa7.2 - 1 = 1 by omega, t71]
  obtain ⟨v8, e_v8⟩ : ∃ v8, tCopy (tCopy v6 (ta6 (oa6.1 1))) v7 = v8 := ⟨_, rfl⟩
  rw [e_v8]
  obtain ⟨oa8, e_oa8⟩ : ∃ oa8 : PO, (oa7.1, 1) = oa8 := ⟨_, rfl⟩
  rw [e_oa8]
  have hv8 : okT v8 := by rw [← e_v8]; exact okT_copy (okT_copy hv6)
  have ho8 : ordO 8 oa8 := by rw [← e_oa8]; exact ordO_pop ho7 1 (by omega)
  have oa82 : oa8.2 = 1 := by rw [← e_oa8]
  have oa81 : oa8.1 = oa7.1 := by rw [← e_oa8]
  refine g_iconst (v := (nI 1)) X dL_law_1366 rfl ?_
  refine g_icmp_ne (tgt := 1426) X dL_law_1367 (by decide) (fun c_1367 => absurd (by decide) c_1367) (fun c_1367 => ?_)
  refine g_aload_n X 3 dL_law_1370 rfl ?_
  refine k_undo X hv8 ho8 cs_L_123 rfl (Nat.le_of_ble_eq_true rfl) dL_law_1371 ?_ hcs
  simp only [if_pos (show 0 < oa8.2 by omega)]
  rw [show oa8.2 - 1 = 0 by omega, oa81, t70]
  obtain ⟨v9, e_v9⟩ : ∃ v9, tCopy (tCopy v (ta (oa.1 0))) v8 = v9 := ⟨_, rfl⟩
  rw [e_v9]
  obtain ⟨oa9, e_oa9⟩ : ∃ oa9 : PO, (oa7.1, 0) = oa9 := ⟨_, rfl⟩
  rw [e_oa9]
  have hd9 : DE v9 d e := by rw [← e_v9]; exact de_copy (de_copy hd _) v8
  have ho9 : ordO 8 oa9 := by rw [← e_oa9]; exact ordO_pop ho7 0 (Nat.zero_le _)
  refine g_if_ne (tgt := 1426) X dL_law_1374 (by decide) (fun c_1374 => absurd (by decide) c_1374) (fun c_1374 => ?_)
  refine g_aload_n X 3 dL_law_1377 rfl ?_
  refine g_aload_n X 4 dL_law_1378 rfl ?_
  refine g_aload_n X 5 dL_law_1379 rfl ?_
  refine k_alike X hd9 cs_L_95 rfl (Nat.le_of_ble_eq_true rfl) dL_law_1380 ?_ hcs
  rw [show b2i true = nI 1 from rfl]
  refine g_if_eq (tgt := 1426) X dL_law_1383 (by decide) (fun c_1383 => absurd c_1383 (by decide)) (fun c_1383 => ?_)
  refine g_aload_n X 3 dL_law_1386 rfl ?_
  refine g_iconst (v := (nI 0)) X dL_law_1387 rfl ?_
  refine k_whole X hd9.rv cs_L_109 rfl (Nat.le_of_ble_eq_true rfl) dL_law_1388 (fun z => ?_) hcs
  rw [wh_0 hd9.rv, hM v9 hd9]
  refine g_iload X 14 dL_law_1391 rfl ?_
  refine g_icmp_ne (tgt := 1426) X dL_law_1393 (by decide) (fun c_1393 => absurd rfl c_1393) (fun c_1393 => ?_)
  refine g_aload_n X 3 dL_law_1396 rfl ?_
  refine g_iconst (v := (nI 0)) X dL_law_1397 rfl ?_
  refine g_iload X 1 dL_law_1398 rfl ?_
  refine g_aload_n X 4 dL_law_1400 rfl ?_
  refine g_bipush (v := (nI 16)) X dL_law_1401 rfl ?_
  refine g_iload X 1 dL_law_1403 rfl ?_
  refine g_iaddN X dL_law_1405 ?_
  refine k_dld X (j := 16 + i) (by omega) dL_law_1406 ?_
  rw [eX0]
  refine g_aload_n X 4 dL_law_1407 rfl ?_
  refine g_bipush (v := (nI 32)) X dL_law_1408 rfl ?_
  refine g_iload X 1 dL_law_1410 rfl ?_
  refine g_iaddN X dL_law_1412 ?_
  refine k_dld X (j := 32 + i) (by omega) dL_law_1413 ?_
  rw [eY0]
  refine k_move X hd9.ok ho9 cs_L_56 rfl (Nat.le_of_ble_eq_true rfl) dL_law_1414 ?_ hcs
  have hi9 : i < sM (tA v9) := by rw [← (sm_uni hd hd9).1]; exact hi6
  obtain ⟨-, pX9, pY9⟩ := hd9.px (G := 0) (by decide) (show i < mmV v9 0 from hi9)
  have eX9 : sX (tA v9) i = nI X0 := pX9.trans (by rw [show 16 + (8 * 0 + i) = 16 + i by omega]; exact eX0)
  have eY9 : sY (tA v9) i = nI Y0 := pY9.trans (by rw [show 32 + (8 * 0 + i) = 32 + i by omega]; exact eY0)
  obtain ⟨m3, m4⟩ := mv_0 hd9.ok hi9 hX0 hY0 eX9 eY9 hX0 hY0
  rw [decide_eq_false (show ¬ ¬ (X0 = X0 ∧ Y0 = Y0) from fun n => n ⟨rfl, rfl⟩)] at m3
  rw [if_pos (show X0 = X0 ∧ Y0 = Y0 from ⟨rfl, rfl⟩)] at m4
  simp only [m3, m4, Bool.false_eq_true, if_false]
  refine g_bipush (v := (-2)) X dL_law_1417 rfl ?_
  refine g_icmp_ne (tgt := 1426) X dL_law_1419 (by decide) (fun c_1419 => absurd (by decide) c_1419) (fun c_1419 => ?_)
  refine g_iconst (v := (nI 1)) X dL_law_1422 rfl ?_
  refine g_goto (tgt := 1427) X dL_law_1423 (by decide) ?_
  refine g_istore (lv' := [(11, .int (nI 1)), (18, .int (nI ((X0 + 1) % 61))), (17, .int (nI i)), (0, .ref b), (1, .ref (O 0 0)), (2, .ref ad), (3, .ref ae), (4, .int (nI rd)), (5, .int (celV L xs (25 + rd))), (6, .int (nI N6)), (7, .int (nI N7)), (8, .int (nI N8)), (9, .int (nI U9)), (10, .int (nI R0)), (12, .int (nI Mt))]) X dL_law_1427 (show 11 < 23 by decide) rfl ?_
  refine GG.lv [3, 4, 5, 6, 7, 8, 9, 10, 11, 12, 13, 0, 14, 2] rfl ?_
  exact kk i v9 oa9 ta7 z (hi) (hd9) (ho9)
end LAW
