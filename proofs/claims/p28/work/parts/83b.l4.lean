/-! ===== surveys: small rows ===== -/
theorem PSg.cg {w : TXT} {S S' : SN} (h : PSg w S) (c : ∀ T, RT T S → RT T S') : PSg w S' := fun dv => by
  obtain ⟨k, T, a1, a2, a3⟩ := h dv
  exact ⟨k, T, a1, c T a2, a3⟩
theorem si_48 {w : TXT} {d e : Nat → Int32} {mm ss : Nat → Nat} {N g : Nat} (h : SI w d e mm ss N) (hg : g < 2) (x : Int32) : SI w d (upd e (48 + g) x) mm ss N := by
  obtain ⟨h1, h2, h3, h4, h5, h6⟩ := h
  have hs : ∀ j, j < 48 → upd e (48 + g) x j = e j := fun j hj => upd_n _ _ (by omega)
  refine ⟨h1.cg (fun T hT => RT_congr hT (show upd e (48 + g) x 52 = e 52 from upd_n _ _ (by omega)) rfl ⟨rfl, rfl, fun j hj => ⟨rfl, rfl, rfl, hs _ (by omega), hs _ (by omega), hs _ (by omega)⟩⟩ ⟨rfl, rfl, fun j hj => ⟨rfl, rfl, rfl, hs _ (by omega), hs _ (by omega), hs _ (by omega)⟩⟩ h2.xy.1 h2.xy.2), h2, ?_, h4, h5, fun z hz => ?_⟩
  · rw [upd_n _ _ (by omega)]; exact h3
  · rw [upd_n _ _ (by omega)]; exact h6 z hz
theorem ps_pos {w : TXT} {S : SN} (h : PSg w S) (hm : 1 ≤ nM S 0) : 0 < w.2 := by
  rcases Nat.eq_zero_or_pos w.2 with q | q
  · obtain ⟨k, T, hk, hT, hr⟩ := h tv0
    obtain rfl : k = 0 := by omega
    obtain ⟨f', e⟩ := hr (fun i => w.1 i) (fun i hi => rfl) 0 0 zf (by omega)
    have e2 : (rdAll (fun i => w.1 i) 0 (0 + 0) 0 zf (tClear tv0)).2.2.2 = (rdAll (fun i => w.1 i) 0 0 w.2 f' T).2.2.2 := by rw [e]
    have e3 : tClear tv0 = T := e2
    have m0 : sM (tA T) = nM S 0 := hT.2.2.1.1.1
    rw [← e3] at m0
    have m1 : 0 = nM S 0 := m0
    omega
  · exact q
theorem jn48 {e : Nat → Int32} {g s z : Nat} {a b c : Int32} (hs : 8 * g + s < 16) (hg : g < 2) (hz : z < 2) : jnE e g s a b c (48 + z) = e (48 + z) := by
  unfold jnE
  rw [upd_n _ _ (by omega), upd_n _ _ (by omega), upd_n _ _ (by omega), upd_n _ _ (by omega)]
theorem sv_low {g n : Nat} {mm1 mm2 : Nat → Nat} {e1 e2 e3 : Nat → Int32} (hlow : ∀ z, z < g → 1 ≤ mm1 z ∧ e1 (48 + z) = nI (mm1 z)) (hl2 : ∀ z, z < g → mm2 z = mm1 z) (hmn : mm2 g = n) (hn : 1 ≤ n) (hg : g < 2) (h48 : e2 (48 + g) = nI n) (hfar : ∀ z, z ≠ g → e2 (48 + z) = e1 (48 + z)) (h48k : ∀ z, z < 2 → e3 (48 + z) = e2 (48 + z)) : ∀ z, z < g + 1 → 1 ≤ mm2 z ∧ e3 (48 + z) = nI (mm2 z) := by
  intro z hz
  by_cases q : z = g
  · subst q
    rw [hmn]
    exact ⟨hn, (h48k z hg).trans h48⟩
  · have h := hlow z (by omega)
    rw [hl2 z (by omega)]
    exact ⟨h.1, ((h48k z (by omega)).trans (hfar z q)).trans h.2⟩
theorem sv_high {g : Nat} {mm1 mm2 ss1 ss3 : Nat → Nat} (hh2 : ∀ z, z < 2 → g < z → mm2 z = 0) (hhigh : ∀ z, z < 2 → g ≤ z → mm1 z = 0 ∧ ss1 z = 0) (hl3 : ∀ z, z ≠ g → ss3 z = ss1 z) : ∀ z, z < 2 → g + 1 ≤ z → mm2 z = 0 ∧ ss3 z = 0 :=
  fun z h1 h2 => ⟨hh2 z h1 (by omega), (hl3 z (by omega)).trans (hhigh z h1 (by omega)).2⟩
theorem okD_0 {d : Nat → Int32} (h : ∀ k, k < 48 → d k = nI 0) : okD d := fun k hk => ⟨⟨0, by omega, h k (by omega)⟩, ⟨0, by omega, h _ (by omega)⟩, ⟨0, by omega, h _ (by omega)⟩⟩
set_option maxHeartbeats 4000000 in
set_option maxRecDepth 100000 in
theorem c_L_surveys (E : GE) (b L : Nat) (xs : Nat → Int32) (hL : L < 2 ^ 31) (O : Nat → Nat → Nat) (u w : TXT) (v dv : TV) (f : Nat → Int32) (oa ok : PO) (ad : Nat) (d : Nat → Int32) (ae : Nat) (e : Nat → Int32) (hw : w.2 ≤ 200) (hd0 : ∀ k, k < 48 → d k = nI 0) : CS E b L xs m_L_surveys [.ref (O 0 0), .ref b, .ref ad, .ref ae] ([wTS E O, wRd E (O 2) u, wTx E (O 1) w, wTw E (O 3 0) (O 4) (O 5) (tR v) (tN v), wSv E (O 4) (tA v), wSv E (O 5) (tB v), wTw E (O 6 0) (O 7) (O 8) (tR dv) (tN dv), wSv E (O 7) (tA dv), wSv E (O 8) (tB dv), wSh E (O 11) f, wPo E (O 9) (O 17) 8 oa, wPo E (O 10) (O 18) 2 ok, wAr E ad 48 d, wAr E ae 54 e].flatten) (fun r w => r = some (.int 1) ∧ ∃ (u1 w1 : TXT) (v1 dv1 : TV) (f1 d1 e1 : Nat → Int32), DE v1 d1 e1 ∧ w1.2 = 0 ∧ w = [wTS E O, wRd E (O 2) u1, wTx E (O 1) w1, wTw E (O 3 0) (O 4) (O 5) (tR v1) (tN v1), wSv E (O 4) (tA v1), wSv E (O 5) (tB v1), wTw E (O 6 0) (O 7) (O 8) (tR dv1) (tN dv1), wSv E (O 7) (tA dv1), wSv E (O 8) (tB dv1), wSh E (O 11) f1, wPo E (O 9) (O 17) 8 (oa.1, 0), wPo E (O 10) (O 18) 2 (ok.1, 0), wAr E ad 48 d1, wAr E ae 54 e1].flatten) := by
  refine CS.intro (by decide +kernel) (Nat.le_of_ble_eq_true rfl) (fun Γ X Z hx => ?_)
  refine GG.lv [0, 1, 2, 3] (lv' := [(0, .ref (O 0 0)), (1, .ref b), (2, .ref ad), (3, .ref ae)]) rfl ?_
  refine g_aload_n X 1 dL_surveys_0 rfl ?_
  refine g_iconst (v := (nI 0)) X dL_surveys_1 rfl ?_
  refine g_callXP (wc := []) (wr := [wTS E O, wRd E (O 2) u, wTx E (O 1) w, wTw E (O 3 0) (O 4) (O 5) (tR v) (tN v), wSv E (O 4) (tA v), wSv E (O 5) (tB v), wTw E (O 6 0) (O 7) (O 8) (tR dv) (tN dv), wSv E (O 7) (tA dv), wSv E (O 8) (tB dv), wSh E (O 11) f, wPo E (O 9) (O 17) 8 oa, wPo E (O 10) (O 18) 2 ok, wAr E ad 48 d, wAr E ae 54 e].flatten) X Z (c_L_cell E b L xs hL 0 (by omega)) cs_L_21 rfl (List.Perm.refl _) rfl rfl (Nat.le_of_ble_eq_true rfl) dL_surveys_2 ⟨Nat.zero_le _, Nat.zero_le _⟩ (fun v0 w0 h0 => ?_)
  obtain ⟨rfl, rfl⟩ := h0
  refine GG.eq (ws' := [wTS E O, wRd E (O 2) u, wTx E (O 1) w, wTw E (O 3 0) (O 4) (O 5) (tR v) (tN v), wSv E (O 4) (tA v), wSv E (O 5) (tB v), wTw E (O 6 0) (O 7) (O 8) (tR dv) (tN dv), wSv E (O 7) (tA dv), wSv E (O 8) (tB dv), wSh E (O 11) f, wPo E (O 9) (O 17) 8 oa, wPo E (O 10) (O 18) 2 ok, wAr E ad 48 d, wAr E ae 54 e].flatten) (st' := [.int (celV L xs 0)]) (List.append_nil _) rfl ?_
  refine g_istore (lv' := [(4, .int (celV L xs 0)), (0, .ref (O 0 0)), (1, .ref b), (2, .ref ad), (3, .ref ae)]) X dL_surveys_5 (by decide) rfl ?_
  refine g_aload_n X 4 dL_surveys_7 rfl ?_
  refine g_bipush (v := (nI 52)) X dL_surveys_8 rfl ?_
  refine g_iconst (v := (nI 1)) X dL_surveys_10 rfl ?_
  refine g_iload X 0 dL_surveys_11 rfl ?_
  refine g_bipush (v := (nI 20)) X dL_surveys_13 rfl ?_
  have lb15 := lwN_lt (celV L xs 0) (n := 20) (by omega)
  refine g_callSP (st2 := [.int (nI (lwN (celV L xs 0) 20)), .int (nI 1), .int (nI 52), .ref ae]) (ws' := [wTS E O, wRd E (O 2) u, wTx E (O 1) w, wTw E (O 3 0) (O 4) (O 5) (tR v) (tN v), wSv E (O 4) (tA v), wSv E (O 5) (tB v), wTw E (O 6 0) (O 7) (O 8) (tR dv) (tN dv), wSv E (O 7) (tA dv), wSv E (O 8) (tB dv), wSh E (O 11) f, wPo E (O 9) (O 17) 8 oa, wPo E (O 10) (O 18) 2 ok, wAr E ad 48 d, wAr E ae 54 e].flatten) (wr := [wTS E O, wRd E (O 2) u, wTx E (O 1) w, wTw E (O 3 0) (O 4) (O 5) (tR v) (tN v), wSv E (O 4) (tA v), wSv E (O 5) (tB v), wTw E (O 6 0) (O 7) (O 8) (tR dv) (tN dv), wSv E (O 7) (tA dv), wSv E (O 8) (tB dv), wSh E (O 11) f, wPo E (O 9) (O 17) 8 oa, wPo E (O 10) (O 18) 2 ok, wAr E ad 48 d, wAr E ae 54 e].flatten) X (c_L_low E (celV L xs 0) 20 (by decide) (by decide)) cs_L_25 rfl (List.Perm.refl _) rfl (List.Perm.refl _) rfl rfl (Nat.le_of_ble_eq_true rfl) dL_surveys_15 rfl ?_
  refine g_iaddN X dL_surveys_18 ?_
  refine g_iast (ws' := [wTS E O, wRd E (O 2) u, wTx E (O 1) w, wTw E (O 3 0) (O 4) (O 5) (tR v) (tN v), wSv E (O 4) (tA v), wSv E (O 5) (tB v), wTw E (O 6 0) (O 7) (O 8) (tR dv) (tN dv), wSv E (O 7) (tA dv), wSv E (O 8) (tB dv), wSh E (O 11) f, wPo E (O 9) (O 17) 8 oa, wPo E (O 10) (O 18) 2 ok, wAr E ad 48 d, wAr E ae 54 (upd e 52 (nI (1 + (lwN (celV L xs 0) 20))))].flatten) X 42 rfl 52 (ix_nI (by omega) (by decide)) rfl dL_surveys_19 ?_
  refine g_aload_n X 4 dL_surveys_20 rfl ?_
  refine g_bipush (v := (nI 53)) X dL_surveys_21 rfl ?_
  refine g_iload X 0 dL_surveys_23 rfl ?_
  refine g_iconst (v := (nI 5)) X dL_surveys_25 rfl ?_
  refine g_ishr X dL_surveys_26 ?_
  refine g_iconst (v := (nI 4)) X dL_surveys_27 rfl ?_
  have lb28 := lwN_lt ((celV L xs 0) >>> ((nI 5) &&& 31)) (n := 4) (by omega)
  refine g_callSP (st2 := [.int (nI (lwN ((celV L xs 0) >>> ((nI 5) &&& 31)) 4)), .int (nI 53), .ref ae]) (ws' := [wTS E O, wRd E (O 2) u, wTx E (O 1) w, wTw E (O 3 0) (O 4) (O 5) (tR v) (tN v), wSv E (O 4) (tA v), wSv E (O 5) (tB v), wTw E (O 6 0) (O 7) (O 8) (tR dv) (tN dv), wSv E (O 7) (tA dv), wSv E (O 8) (tB dv), wSh E (O 11) f, wPo E (O 9) (O 17) 8 oa, wPo E (O 10) (O 18) 2 ok, wAr E ad 48 d, wAr E ae 54 (upd e 52 (nI (1 + (lwN (celV L xs 0) 20))))].flatten) (wr := [wTS E O, wRd E (O 2) u, wTx E (O 1) w, wTw E (O 3 0) (O 4) (O 5) (tR v) (tN v), wSv E (O 4) (tA v), wSv E (O 5) (tB v), wTw E (O 6 0) (O 7) (O 8) (tR dv) (tN dv), wSv E (O 7) (tA dv), wSv E (O 8) (tB dv), wSh E (O 11) f, wPo E (O 9) (O 17) 8 oa, wPo E (O 10) (O 18) 2 ok, wAr E ad 48 d, wAr E ae 54 (upd e 52 (nI (1 + (lwN (celV L xs 0) 20))))].flatten) X (c_L_low E ((celV L xs 0) >>> ((nI 5) &&& 31)) 4 (by decide) (by decide)) cs_L_25 rfl (List.Perm.refl _) rfl (List.Perm.refl _) rfl rfl (Nat.le_of_ble_eq_true rfl) dL_surveys_28 rfl ?_
  refine g_iast (ws' := [wTS E O, wRd E (O 2) u, wTx E (O 1) w, wTw E (O 3 0) (O 4) (O 5) (tR v) (tN v), wSv E (O 4) (tA v), wSv E (O 5) (tB v), wTw E (O 6 0) (O 7) (O 8) (tR dv) (tN dv), wSv E (O 7) (tA dv), wSv E (O 8) (tB dv), wSh E (O 11) f, wPo E (O 9) (O 17) 8 oa, wPo E (O 10) (O 18) 2 ok, wAr E ad 48 d, wAr E ae 54 (upd (upd e 52 (nI (1 + (lwN (celV L xs 0) 20)))) 53 (nI (lwN ((celV L xs 0) >>> ((nI 5) &&& 31)) 4)))].flatten) X 42 rfl 53 (ix_nI (by omega) (by decide)) rfl dL_surveys_31 ?_
  refine g_aload_n X 4 dL_surveys_32 rfl ?_
  refine g_bipush (v := (nI 50)) X dL_surveys_33 rfl ?_
  refine g_iconst (v := (nI 0)) X dL_surveys_35 rfl ?_
  refine g_iast (ws' := [wTS E O, wRd E (O 2) u, wTx E (O 1) w, wTw E (O 3 0) (O 4) (O 5) (tR v) (tN v), wSv E (O 4) (tA v), wSv E (O 5) (tB v), wTw E (O 6 0) (O 7) (O 8) (tR dv) (tN dv), wSv E (O 7) (tA dv), wSv E (O 8) (tB dv), wSh E (O 11) f, wPo E (O 9) (O 17) 8 oa, wPo E (O 10) (O 18) 2 ok, wAr E ad 48 d, wAr E ae 54 (upd (upd (upd e 52 (nI (1 + (lwN (celV L xs 0) 20)))) 53 (nI (lwN ((celV L xs 0) >>> ((nI 5) &&& 31)) 4))) 50 (nI 0))].flatten) X 42 rfl 50 (ix_nI (by omega) (by decide)) rfl dL_surveys_36 ?_
  refine g_aload_n X 4 dL_surveys_37 rfl ?_
  refine g_bipush (v := (nI 51)) X dL_surveys_38 rfl ?_
  refine g_iconst (v := (nI 0)) X dL_surveys_40 rfl ?_
  refine g_iast (ws' := [wTS E O, wRd E (O 2) u, wTx E (O 1) w, wTw E (O 3 0) (O 4) (O 5) (tR v) (tN v), wSv E (O 4) (tA v), wSv E (O 5) (tB v), wTw E (O 6 0) (O 7) (O 8) (tR dv) (tN dv), wSv E (O 7) (tA dv), wSv E (O 8) (tB dv), wSh E (O 11) f, wPo E (O 9) (O 17) 8 oa, wPo E (O 10) (O 18) 2 ok, wAr E ad 48 d, wAr E ae 54 (upd (upd (upd (upd e 52 (nI (1 + (lwN (celV L xs 0) 20)))) 53 (nI (lwN ((celV L xs 0) >>> ((nI 5) &&& 31)) 4))) 50 (nI 0)) 51 (nI 0))].flatten) X 42 rfl 51 (ix_nI (by omega) (by decide)) rfl dL_surveys_41 ?_
  obtain ⟨R0, hR1, hR2, eR⟩ : ∃ R0, 1 ≤ R0 ∧ R0 ≤ 20 ∧ 1 + lwN (celV L xs 0) 20 = R0 := ⟨_, by omega, by have := lwN_lt (celV L xs 0) (n := 20) (by decide); omega, rfl⟩
  obtain ⟨N0, hN3, eN⟩ : ∃ N0, N0 ≤ 3 ∧ lwN (celV L xs 0 >>> (nI 5 &&& 31)) 4 = N0 := ⟨_, by have := lwN_lt (celV L xs 0 >>> (nI 5 &&& 31)) (n := 4) (by decide); omega, rfl⟩
  rw [eR, eN]
  obtain ⟨e0, ee0⟩ : ∃ e0, upd (upd (upd (upd e 52 (nI R0)) 53 (nI N0)) 50 (nI 0)) 51 (nI 0) = e0 := ⟨_, rfl⟩
  rw [ee0]
  have h52 : e0 52 = nI R0 := by rw [← ee0, upd_n _ _ (by decide), upd_n _ _ (by decide), upd_n _ _ (by decide), upd_s]
  have h53 : e0 53 = nI N0 := by rw [← ee0, upd_n _ _ (by decide), upd_n _ _ (by decide), upd_s]
  have h50 : e0 50 = nI 0 := by rw [← ee0, upd_n _ _ (by decide), upd_s]
  have h51 : e0 51 = nI 0 := by rw [← ee0, upd_s]
  have hok0 := okD_0 hd0
  have J_63 : ∀ (wd : Nat) (hwd1 : 0 < wd) (hwd2 : wd ≤ 61), GG E m_L_surveys Γ 0 0 ([wTS E O, wRd E (O 2) u, wTx E (O 1) w, wTw E (O 3 0) (O 4) (O 5) (tR v) (tN v), wSv E (O 4) (tA v), wSv E (O 5) (tB v), wTw E (O 6 0) (O 7) (O 8) (tR dv) (tN dv), wSv E (O 7) (tA dv), wSv E (O 8) (tB dv), wSh E (O 11) f, wPo E (O 9) (O 17) 8 oa, wPo E (O 10) (O 18) 2 ok, wAr E ad 48 d, wAr E ae 54 e0].flatten) [(0, .ref (O 0 0)), (1, .ref b), (2, .ref ad), (3, .ref ae), (4, .int (celV L xs 0)), (5, .int (nI wd))] 63 [] := by
    intro wd hwd1 hwd2
    refine g_aload_n X 0 dL_surveys_63 rfl ?_
    refine g_callV (st2 := [.int (nI w.2)]) (S' := [wTS E O, wRd E (O 2) u, wTx E (O 1) (w.1, 0), wTw E (O 3 0) (O 4) (O 5) (tR v) (tN v), wSv E (O 4) (tA v), wSv E (O 5) (tB v), wTw E (O 6 0) (O 7) (O 8) (tR dv) (tN dv), wSv E (O 7) (tA dv), wSv E (O 8) (tB dv), wSh E (O 11) f, wPo E (O 9) (O 17) 8 oa, wPo E (O 10) (O 18) 2 ok, wAr E ad 48 d, wAr E ae 54 e0]) (q0 := 0) X (c_X9_wipe E O w) cs_L_29 rfl [0, 2] [1, 3, 4, 5, 6, 7, 8, 9, 10, 11, 12, 13] 14 rfl rfl (by decide) [wRd E (O 2) u, wTw E (O 3 0) (O 4) (O 5) (tR v) (tN v), wSv E (O 4) (tA v), wSv E (O 5) (tB v), wTw E (O 6 0) (O 7) (O 8) (tR dv) (tN dv), wSv E (O 7) (tA dv), wSv E (O 8) (tB dv), wSh E (O 11) f, wPo E (O 9) (O 17) 8 oa, wPo E (O 10) (O 18) 2 ok, wAr E ad 48 d, wAr E ae 54 e0] rfl rfl rfl rfl (by simp only [List.map_cons, List.map_nil, fsAr, fsPo, fsRd, fsSh, fsSv, fsTS, fsTw, fsTx]) rfl rfl rfl rfl (Nat.le_of_ble_eq_true rfl) dL_surveys_64 rfl ?_
    refine g_pop X dL_surveys_67 rfl ?_
    refine g_aload_n X 0 dL_surveys_68 rfl ?_
    refine g_bipush (v := (nI 114)) X dL_surveys_69 rfl ?_
    refine g_callV (st2 := [.int (wrV (w.1, 0) (nI 114))]) (S' := [wTS E O, wRd E (O 2) u, wTx E (O 1) (txW (w.1, 0) (nI 114)), wTw E (O 3 0) (O 4) (O 5) (tR v) (tN v), wSv E (O 4) (tA v), wSv E (O 5) (tB v), wTw E (O 6 0) (O 7) (O 8) (tR dv) (tN dv), wSv E (O 7) (tA dv), wSv E (O 8) (tB dv), wSh E (O 11) f, wPo E (O 9) (O 17) 8 oa, wPo E (O 10) (O 18) 2 ok, wAr E ad 48 d, wAr E ae 54 e0]) (q0 := 0) X (c_wrW E O (w.1, 0) (nI 114) (Nat.zero_le _)) cs_L_9 rfl [0, 2] [1, 3, 4, 5, 6, 7, 8, 9, 10, 11, 12, 13] 14 rfl rfl (by decide) [wRd E (O 2) u, wTw E (O 3 0) (O 4) (O 5) (tR v) (tN v), wSv E (O 4) (tA v), wSv E (O 5) (tB v), wTw E (O 6 0) (O 7) (O 8) (tR dv) (tN dv), wSv E (O 7) (tA dv), wSv E (O 8) (tB dv), wSh E (O 11) f, wPo E (O 9) (O 17) 8 oa, wPo E (O 10) (O 18) 2 ok, wAr E ad 48 d, wAr E ae 54 e0] rfl rfl rfl rfl (by simp only [List.map_cons, List.map_nil, fsAr, fsPo, fsRd, fsSh, fsSv, fsTS, fsTw, fsTx]) rfl rfl rfl rfl (Nat.le_of_ble_eq_true rfl) dL_surveys_71 rfl ?_
    obtain ⟨wA, ewA, hwA⟩ : ∃ wA : TXT, txW (w.1, 0) (nI 114) = wA ∧ wA.2 ≤ 200 := ⟨_, rfl, txW_le (Nat.zero_le _) _⟩
    rw [ewA]
    refine g_pop X dL_surveys_74 rfl ?_
    refine g_aload_n X 0 dL_surveys_75 rfl ?_
    refine g_aload_n X 3 dL_surveys_76 rfl ?_
    refine g_bipush (v := (nI 52)) X dL_surveys_77 rfl ?_
    refine g_iald X 42 rfl 52 (ix_nI (by omega) (by decide)) dL_surveys_79 ?_
    rw [h52]
    refine g_bipush (v := (nI 59)) X dL_surveys_80 rfl ?_
    refine g_callS (st2 := []) (S' := [wTS E O, wRd E (O 2) u, wTx E (O 1) (twW wA R0 59), wTw E (O 3 0) (O 4) (O 5) (tR v) (tN v), wSv E (O 4) (tA v), wSv E (O 5) (tB v), wTw E (O 6 0) (O 7) (O 8) (tR dv) (tN dv), wSv E (O 7) (tA dv), wSv E (O 8) (tB dv), wSh E (O 11) f, wPo E (O 9) (O 17) 8 oa, wPo E (O 10) (O 18) 2 ok, wAr E ad 48 d, wAr E ae 54 e0]) X (c_L_two E O wA R0 59 hwA (by first | assumption | omega | exact Nat.zero_le _)) cs_L_15 rfl [0, 2] [1, 3, 4, 5, 6, 7, 8, 9, 10, 11, 12, 13] 14 rfl rfl (by decide) [wRd E (O 2) u, wTw E (O 3 0) (O 4) (O 5) (tR v) (tN v), wSv E (O 4) (tA v), wSv E (O 5) (tB v), wTw E (O 6 0) (O 7) (O 8) (tR dv) (tN dv), wSv E (O 7) (tA dv), wSv E (O 8) (tB dv), wSh E (O 11) f, wPo E (O 9) (O 17) 8 oa, wPo E (O 10) (O 18) 2 ok, wAr E ad 48 d, wAr E ae 54 e0] rfl rfl rfl rfl (by simp only [List.map_cons, List.map_nil, fsAr, fsPo, fsRd, fsSh, fsSv, fsTS, fsTw, fsTx]) rfl rfl (Nat.le_of_ble_eq_true rfl) dL_surveys_82 rfl ?_
    obtain ⟨wB, ewB, hwB⟩ : ∃ wB : TXT, twW wA R0 59 = wB ∧ wB.2 ≤ 200 := ⟨_, rfl, twW_le hwA _ _⟩
    rw [ewB]
    refine g_aload_n X 0 dL_surveys_85 rfl ?_
    refine g_bipush (v := (nI 110)) X dL_surveys_86 rfl ?_
    refine g_callV (st2 := [.int (wrV wB (nI 110))]) (S' := [wTS E O, wRd E (O 2) u, wTx E (O 1) (txW wB (nI 110)), wTw E (O 3 0) (O 4) (O 5) (tR v) (tN v), wSv E (O 4) (tA v), wSv E (O 5) (tB v), wTw E (O 6 0) (O 7) (O 8) (tR dv) (tN dv), wSv E (O 7) (tA dv), wSv E (O 8) (tB dv), wSh E (O 11) f, wPo E (O 9) (O 17) 8 oa, wPo E (O 10) (O 18) 2 ok, wAr E ad 48 d, wAr E ae 54 e0]) (q0 := 0) X (c_wrW E O wB (nI 110) hwB) cs_L_9 rfl [0, 2] [1, 3, 4, 5, 6, 7, 8, 9, 10, 11, 12, 13] 14 rfl rfl (by decide) [wRd E (O 2) u, wTw E (O 3 0) (O 4) (O 5) (tR v) (tN v), wSv E (O 4) (tA v), wSv E (O 5) (tB v), wTw E (O 6 0) (O 7) (O 8) (tR dv) (tN dv), wSv E (O 7) (tA dv), wSv E (O 8) (tB dv), wSh E (O 11) f, wPo E (O 9) (O 17) 8 oa, wPo E (O 10) (O 18) 2 ok, wAr E ad 48 d, wAr E ae 54 e0] rfl rfl rfl rfl (by simp only [List.map_cons, List.map_nil, fsAr, fsPo, fsRd, fsSh, fsSv, fsTS, fsTw, fsTx]) rfl rfl rfl rfl (Nat.le_of_ble_eq_true rfl) dL_surveys_88 rfl ?_
    obtain ⟨wC, ewC, hwC⟩ : ∃ wC : TXT, txW wB (nI 110) = wC ∧ wC.2 ≤ 200 := ⟨_, rfl, txW_le hwB _⟩
    rw [ewC]
    refine g_pop X dL_surveys_91 rfl ?_
    refine g_aload_n X 0 dL_surveys_92 rfl ?_
    refine g_aload_n X 3 dL_surveys_93 rfl ?_
    refine g_bipush (v := (nI 53)) X dL_surveys_94 rfl ?_
    refine g_iald X 42 rfl 53 (ix_nI (by omega) (by decide)) dL_surveys_96 ?_
    rw [h53]
    refine g_bipush (v := (nI 59)) X dL_surveys_97 rfl ?_
    refine g_callS (st2 := []) (S' := [wTS E O, wRd E (O 2) u, wTx E (O 1) (twW wC N0 59), wTw E (O 3 0) (O 4) (O 5) (tR v) (tN v), wSv E (O 4) (tA v), wSv E (O 5) (tB v), wTw E (O 6 0) (O 7) (O 8) (tR dv) (tN dv), wSv E (O 7) (tA dv), wSv E (O 8) (tB dv), wSh E (O 11) f, wPo E (O 9) (O 17) 8 oa, wPo E (O 10) (O 18) 2 ok, wAr E ad 48 d, wAr E ae 54 e0]) X (c_L_two E O wC N0 59 hwC (by first | assumption | omega | exact Nat.zero_le _)) cs_L_15 rfl [0, 2] [1, 3, 4, 5, 6, 7, 8, 9, 10, 11, 12, 13] 14 rfl rfl (by decide) [wRd E (O 2) u, wTw E (O 3 0) (O 4) (O 5) (tR v) (tN v), wSv E (O 4) (tA v), wSv E (O 5) (tB v), wTw E (O 6 0) (O 7) (O 8) (tR dv) (tN dv), wSv E (O 7) (tA dv), wSv E (O 8) (tB dv), wSh E (O 11) f, wPo E (O 9) (O 17) 8 oa, wPo E (O 10) (O 18) 2 ok, wAr E ad 48 d, wAr E ae 54 e0] rfl rfl rfl rfl (by simp only [List.map_cons, List.map_nil, fsAr, fsPo, fsRd, fsSh, fsSv, fsTS, fsTw, fsTx]) rfl rfl (Nat.le_of_ble_eq_true rfl) dL_surveys_99 rfl ?_
    obtain ⟨wD, ewD, hwD⟩ : ∃ wD : TXT, twW wC N0 59 = wD ∧ wD.2 ≤ 200 := ⟨_, rfl, twW_le hwC _ _⟩
    rw [ewD]
    refine g_iconst (v := (nI 0)) X dL_surveys_102 rfl ?_
    refine g_istore (lv' := [(6, .int (nI 0)), (0, .ref (O 0 0)), (1, .ref b), (2, .ref ad), (3, .ref ae), (4, .int (celV L xs 0)), (5, .int (nI wd))]) X dL_surveys_103 (by decide) rfl ?_
    have L_105 : ∀ (n_105 : Nat) (g : Nat) (w1 : TXT) (d1 : Nat → Int32) (e1 : Nat → Int32) (mm1 : Nat → Nat) (ss1 : Nat → Nat) (hg : g ≤ 2) (hSI : SI w1 d1 e1 mm1 ss1 N0) (hlow : ∀ z, z < g → 1 ≤ mm1 z ∧ e1 (48 + z) = nI (mm1 z)) (hhigh : ∀ z, z < 2 → g ≤ z → mm1 z = 0 ∧ ss1 z = 0) (hm_105 : 2 - g < n_105) (x_6 : Int32) (ex_6 : x_6 = (nI g)), GG E m_L_surveys Γ 0 0 ([wTS E O, wRd E (O 2) u, wTx E (O 1) w1, wTw E (O 3 0) (O 4) (O 5) (tR v) (tN v), wSv E (O 4) (tA v), wSv E (O 5) (tB v), wTw E (O 6 0) (O 7) (O 8) (tR dv) (tN dv), wSv E (O 7) (tA dv), wSv E (O 8) (tB dv), wSh E (O 11) f, wPo E (O 9) (O 17) 8 oa, wPo E (O 10) (O 18) 2 ok, wAr E ad 48 d1, wAr E ae 54 e1].flatten) [(0, .ref (O 0 0)), (1, .ref b), (2, .ref ad), (3, .ref ae), (4, .int (celV L xs 0)), (5, .int (nI wd)), (6, .int x_6)] 105 [] := by
      intro n_105
      induction n_105 with
      | zero => intro g w1 d1 e1 mm1 ss1 hg hSI hlow hhigh hm_105; exact absurd hm_105 (Nat.not_lt_zero _)
      | succ n_105 ih_105 =>
        intro g w1 d1 e1 mm1 ss1 hg hSI hlow hhigh hm_105 x_6 ex_6
        subst ex_6
        refine g_iload X 6 dL_surveys_105 rfl ?_
        refine g_iconst (v := (nI 2)) X dL_surveys_107 rfl ?_
        refine g_icmp_ge (tgt := 553) X dL_surveys_108 (by decide) (fun c_108 => ?_) (fun c_108 => ?_)
        · have f_c_108 : 2 ≤ g := n_le (by omega) (by omega) c_108
          have fn_c_108 := Nat.not_lt.mpr f_c_108
          have hall : ∀ z, z < 2 → 1 ≤ mm1 z ∧ e1 (48 + z) = nI (mm1 z) := fun z hz => hlow z (by omega)
          have hw200 := hSI.w
          have hpos : 0 < w1.2 := ps_pos hSI.1 (hall 0 (by decide)).1
          obtain ⟨fa, T1, hT1, q1⟩ := ps_read hSI.1 hSI.w dv u.1
          obtain ⟨fb, T2, hT2, q2⟩ := ps_read hSI.1 hSI.w T1 fa
          obtain ⟨k1, k2, k3⟩ := si_end hSI hall hT2 v w1.2 fb
          refine g_aload_n X 0 dL_surveys_553 rfl ?_
          refine g_callV (st2 := [.int ((rdAll (txAt w1) w1.2 200 0 u.1 (tClear dv)).1)]) (S' := [wTS E O, wRd E (O 2) ((rdAll (txAt w1) w1.2 200 0 u.1 (tClear dv)).2.2.1, (rdAll (txAt w1) w1.2 200 0 u.1 (tClear dv)).2.1), wTx E (O 1) w1, wTw E (O 3 0) (O 4) (O 5) (tR v) (tN v), wSv E (O 4) (tA v), wSv E (O 5) (tB v), wTw E (O 6 0) (O 7) (O 8) (tR ((rdAll (txAt w1) w1.2 200 0 u.1 (tClear dv)).2.2.2)) (tN ((rdAll (txAt w1) w1.2 200 0 u.1 (tClear dv)).2.2.2)), wSv E (O 7) (tA ((rdAll (txAt w1) w1.2 200 0 u.1 (tClear dv)).2.2.2)), wSv E (O 8) (tB ((rdAll (txAt w1) w1.2 200 0 u.1 (tClear dv)).2.2.2)), wSh E (O 11) f, wPo E (O 9) (O 17) 8 oa, wPo E (O 10) (O 18) 2 ok, wAr E ad 48 d1, wAr E ae 54 e1]) (q0 := 0) X (c_X9_fault E O u w1 dv (Nat.le_of_lt hSI.w)) cs_L_41 rfl [0, 1, 2, 6, 7, 8] [3, 4, 5, 9, 10, 11, 12, 13] 14 rfl rfl (by decide) [wTw E (O 3 0) (O 4) (O 5) (tR v) (tN v), wSv E (O 4) (tA v), wSv E (O 5) (tB v), wSh E (O 11) f, wPo E (O 9) (O 17) 8 oa, wPo E (O 10) (O 18) 2 ok, wAr E ad 48 d1, wAr E ae 54 e1] rfl rfl rfl rfl (by simp only [List.map_cons, List.map_nil, fsAr, fsPo, fsRd, fsSh, fsSv, fsTS, fsTw, fsTx]) rfl rfl rfl rfl (Nat.le_of_ble_eq_true rfl) dL_surveys_554 rfl ?_
          refine GG.eq (ws' := [wTS E O, wRd E (O 2) (fa, w1.2), wTx E (O 1) w1, wTw E (O 3 0) (O 4) (O 5) (tR v) (tN v), wSv E (O 4) (tA v), wSv E (O 5) (tB v), wTw E (O 6 0) (O 7) (O 8) (tR T1) (tN T1), wSv E (O 7) (tA T1), wSv E (O 8) (tB T1), wSh E (O 11) f, wPo E (O 9) (O 17) 8 oa, wPo E (O 10) (O 18) 2 ok, wAr E ad 48 d1, wAr E ae 54 e1].flatten) (st' := [.int (-4)]) (by simp only [q1]) (by simp only [q1]) ?_
          refine g_bipush (v := (-4)) X dL_surveys_557 rfl ?_
          refine g_icmp_ne (tgt := 589) X dL_surveys_559 (by decide) (fun c_559 => absurd rfl c_559) (fun c_559 => ?_)
          refine g_aload_n X 0 dL_surveys_562 rfl ?_
          refine g_callV (st2 := [.int (if layOk (rdAll (txAt w1) w1.2 200 0 fa (tClear T1)) then nI (sM (tA (rdAll (txAt w1) w1.2 200 0 fa (tClear T1)).2.2.2) + sM (tB (rdAll (txAt w1) w1.2 200 0 fa (tClear T1)).2.2.2)) else -2)]) (S' := [wTS E O, wRd E (O 2) ((rdAll (txAt w1) w1.2 200 0 fa (tClear T1)).2.2.1, (rdAll (txAt w1) w1.2 200 0 fa (tClear T1)).2.1), wTx E (O 1) w1, wTw E (O 3 0) (O 4) (O 5) (tR (if layOk (rdAll (txAt w1) w1.2 200 0 fa (tClear T1)) then tCopy (rdAll (txAt w1) w1.2 200 0 fa (tClear T1)).2.2.2 v else v)) (tN (if layOk (rdAll (txAt w1) w1.2 200 0 fa (tClear T1)) then tCopy (rdAll (txAt w1) w1.2 200 0 fa (tClear T1)).2.2.2 v else v)), wSv E (O 4) (tA (if layOk (rdAll (txAt w1) w1.2 200 0 fa (tClear T1)) then tCopy (rdAll (txAt w1) w1.2 200 0 fa (tClear T1)).2.2.2 v else v)), wSv E (O 5) (tB (if layOk (rdAll (txAt w1) w1.2 200 0 fa (tClear T1)) then tCopy (rdAll (txAt w1) w1.2 200 0 fa (tClear T1)).2.2.2 v else v)), wTw E (O 6 0) (O 7) (O 8) (tR ((rdAll (txAt w1) w1.2 200 0 fa (tClear T1)).2.2.2)) (tN ((rdAll (txAt w1) w1.2 200 0 fa (tClear T1)).2.2.2)), wSv E (O 7) (tA ((rdAll (txAt w1) w1.2 200 0 fa (tClear T1)).2.2.2)), wSv E (O 8) (tB ((rdAll (txAt w1) w1.2 200 0 fa (tClear T1)).2.2.2)), wSh E (O 11) (if layOk (rdAll (txAt w1) w1.2 200 0 fa (tClear T1)) then clrF f 12 else f), wPo E (O 9) (O 17) 8 (if layOk (rdAll (txAt w1) w1.2 200 0 fa (tClear T1)) then (oa.1, 0) else oa), wPo E (O 10) (O 18) 2 (if layOk (rdAll (txAt w1) w1.2 200 0 fa (tClear T1)) then (ok.1, 0) else ok), wAr E ad 48 d1, wAr E ae 54 e1]) (q0 := 0) X (c_X9_lay E O (fa, w1.2) w1 v T1 f oa ok (Nat.le_of_lt hSI.w)) cs_L_44 rfl [0, 1, 2, 3, 4, 5, 6, 7, 8, 9, 10, 11] [12, 13] 14 rfl rfl (by decide) [wAr E ad 48 d1, wAr E ae 54 e1] rfl rfl rfl rfl (by simp only [List.map_cons, List.map_nil, fsAr, fsPo, fsRd, fsSh, fsSv, fsTS, fsTw, fsTx]) rfl rfl rfl rfl (Nat.le_of_ble_eq_true rfl) dL_surveys_563 rfl ?_
          refine GG.eq (ws' := [wTS E O, wRd E (O 2) (fb, w1.2), wTx E (O 1) w1, wTw E (O 3 0) (O 4) (O 5) (tR (tCopy T2 v)) (tN (tCopy T2 v)), wSv E (O 4) (tA (tCopy T2 v)), wSv E (O 5) (tB (tCopy T2 v)), wTw E (O 6 0) (O 7) (O 8) (tR T2) (tN T2), wSv E (O 7) (tA T2), wSv E (O 8) (tB T2), wSh E (O 11) (clrF f 12), wPo E (O 9) (O 17) 8 (oa.1, 0), wPo E (O 10) (O 18) 2 (ok.1, 0), wAr E ad 48 d1, wAr E ae 54 e1].flatten) (st' := [.int (nI (sM (tA T2) + sM (tB T2)))]) (by simp only [q2, k1, if_true]) (by simp only [q2, k1, if_true]) ?_
          refine g_aload_n X 3 dL_surveys_566 rfl ?_
          refine g_bipush (v := (nI 48)) X dL_surveys_567 rfl ?_
          refine g_iald X 42 rfl 48 (ix_nI (by omega) (by decide)) dL_surveys_569 ?_
          refine g_aload_n X 3 dL_surveys_570 rfl ?_
          refine g_bipush (v := (nI 49)) X dL_surveys_571 rfl ?_
          refine g_iald X 42 rfl 49 (ix_nI (by omega) (by decide)) dL_surveys_573 ?_
          refine g_iadd X dL_surveys_574 ?_
          refine g_icmp_ne (tgt := 589) X dL_surveys_575 (by decide) (fun c_575 => absurd k2 c_575) (fun c_575 => ?_)
          refine g_aload_n X 0 dL_surveys_578 rfl ?_
          refine g_callV (st2 := [.int (nI w1.2)]) (S' := [wTS E O, wRd E (O 2) (fb, w1.2), wTx E (O 1) (w1.1, 0), wTw E (O 3 0) (O 4) (O 5) (tR (tCopy T2 v)) (tN (tCopy T2 v)), wSv E (O 4) (tA (tCopy T2 v)), wSv E (O 5) (tB (tCopy T2 v)), wTw E (O 6 0) (O 7) (O 8) (tR T2) (tN T2), wSv E (O 7) (tA T2), wSv E (O 8) (tB T2), wSh E (O 11) (clrF f 12), wPo E (O 9) (O 17) 8 (oa.1, 0), wPo E (O 10) (O 18) 2 (ok.1, 0), wAr E ad 48 d1, wAr E ae 54 e1]) (q0 := 0) X (c_X9_wipe E O w1) cs_L_29 rfl [0, 2] [1, 3, 4, 5, 6, 7, 8, 9, 10, 11, 12, 13] 14 rfl rfl (by decide) [wRd E (O 2) (fb, w1.2), wTw E (O 3 0) (O 4) (O 5) (tR (tCopy T2 v)) (tN (tCopy T2 v)), wSv E (O 4) (tA (tCopy T2 v)), wSv E (O 5) (tB (tCopy T2 v)), wTw E (O 6 0) (O 7) (O 8) (tR T2) (tN T2), wSv E (O 7) (tA T2), wSv E (O 8) (tB T2), wSh E (O 11) (clrF f 12), wPo E (O 9) (O 17) 8 (oa.1, 0), wPo E (O 10) (O 18) 2 (ok.1, 0), wAr E ad 48 d1, wAr E ae 54 e1] rfl rfl rfl rfl (by simp only [List.map_cons, List.map_nil, fsAr, fsPo, fsRd, fsSh, fsSv, fsTS, fsTw, fsTx]) rfl rfl rfl rfl (Nat.le_of_ble_eq_true rfl) dL_surveys_579 rfl ?_
          refine g_if_le (tgt := 589) X dL_surveys_582 (by decide) (fun c_582 => absurd (show w1.2 ≤ 0 from n_le (by omega) (by omega) c_582) (by omega)) (fun c_582 => ?_)
          refine g_iconst (v := (nI 1)) X dL_surveys_585 rfl ?_
          refine g_goto (tgt := 590) X dL_surveys_586 (by decide) ?_
          exact g_retSz X hx true rfl rfl (List.Perm.refl _) ⟨rfl, (fb, w1.2), (w1.1, 0), tCopy T2 v, T2, clrF f 12, d1, e1, k3, rfl, rfl⟩ dL_surveys_590
        · have f_c_108 : g < 2 := n_nle (by omega) (by omega) c_108
          have fn_c_108 := Nat.not_le.mpr f_c_108
          refine g_aload_n X 3 dL_surveys_111 rfl ?_
          refine g_bipush (v := (nI 48)) X dL_surveys_112 rfl ?_
          refine g_iload X 6 dL_surveys_114 rfl ?_
          refine g_iaddN X dL_surveys_116 ?_
          refine g_iconst (v := (nI 1)) X dL_surveys_117 rfl ?_
          refine g_iload X 4 dL_surveys_118 rfl ?_
          refine g_bipush (v := (nI 11)) X dL_surveys_120 rfl ?_
          refine g_iconst (v := (nI 3)) X dL_surveys_122 rfl ?_
          refine g_iload X 6 dL_surveys_123 rfl ?_
          refine g_imulN X dL_surveys_125 ?_
          refine g_iaddN X dL_surveys_126 ?_
          refine g_ishr X dL_surveys_127 ?_
          refine g_bipush (v := (nI 6)) X dL_surveys_128 rfl ?_
          have lb130 := lwN_lt ((celV L xs 0) >>> ((nI (11 + (3 * g))) &&& 31)) (n := 6) (by omega)
          refine g_callSP (st2 := [.int (nI (lwN ((celV L xs 0) >>> ((nI (11 + (3 * g))) &&& 31)) 6)), .int (nI 1), .int (nI (48 + g)), .ref ae]) (ws' := [wTS E O, wRd E (O 2) u, wTx E (O 1) w1, wTw E (O 3 0) (O 4) (O 5) (tR v) (tN v), wSv E (O 4) (tA v), wSv E (O 5) (tB v), wTw E (O 6 0) (O 7) (O 8) (tR dv) (tN dv), wSv E (O 7) (tA dv), wSv E (O 8) (tB dv), wSh E (O 11) f, wPo E (O 9) (O 17) 8 oa, wPo E (O 10) (O 18) 2 ok, wAr E ad 48 d1, wAr E ae 54 e1].flatten) (wr := [wTS E O, wRd E (O 2) u, wTx E (O 1) w1, wTw E (O 3 0) (O 4) (O 5) (tR v) (tN v), wSv E (O 4) (tA v), wSv E (O 5) (tB v), wTw E (O 6 0) (O 7) (O 8) (tR dv) (tN dv), wSv E (O 7) (tA dv), wSv E (O 8) (tB dv), wSh E (O 11) f, wPo E (O 9) (O 17) 8 oa, wPo E (O 10) (O 18) 2 ok, wAr E ad 48 d1, wAr E ae 54 e1].flatten) X (c_L_low E ((celV L xs 0) >>> ((nI (11 + (3 * g))) &&& 31)) 6 (by decide) (by decide)) cs_L_25 rfl (List.Perm.refl _) rfl (List.Perm.refl _) rfl rfl (Nat.le_of_ble_eq_true rfl) dL_surveys_130 rfl ?_
          refine g_iaddN X dL_surveys_133 ?_
          refine g_iast (ws' := [wTS E O, wRd E (O 2) u, wTx E (O 1) w1, wTw E (O 3 0) (O 4) (O 5) (tR v) (tN v), wSv E (O 4) (tA v), wSv E (O 5) (tB v), wTw E (O 6 0) (O 7) (O 8) (tR dv) (tN dv), wSv E (O 7) (tA dv), wSv E (O 8) (tB dv), wSh E (O 11) f, wPo E (O 9) (O 17) 8 oa, wPo E (O 10) (O 18) 2 ok, wAr E ad 48 d1, wAr E ae 54 (upd e1 (48 + g) (nI (1 + (lwN ((celV L xs 0) >>> ((nI (11 + (3 * g))) &&& 31)) 6))))].flatten) X 42 rfl (48 + g) (ix_nI (by omega) (by decide)) rfl dL_surveys_134 ?_
          obtain ⟨n, hn1, hn6, en⟩ : ∃ n, 1 ≤ n ∧ n ≤ 6 ∧ 1 + lwN (celV L xs 0 >>> (nI (11 + 3 * g) &&& 31)) 6 = n := ⟨_, by omega, by have := lwN_lt (celV L xs 0 >>> (nI (11 + 3 * g) &&& 31)) (n := 6) (by decide); omega, rfl⟩
          rw [en]
          obtain ⟨e2, ee2⟩ : ∃ e2, upd e1 (48 + g) (nI n) = e2 := ⟨_, rfl⟩
          rw [ee2]
          have h48 : e2 (48 + g) = nI n := by rw [← ee2]; exact upd_s _ _ _
          have hfar : ∀ z, z ≠ g → e2 (48 + z) = e1 (48 + z) := fun z hz => by rw [← ee2]; exact upd_n _ _ (by omega)
          have hS2 : SI w1 d1 e2 mm1 ss1 N0 := by rw [← ee2]; exact si_48 hSI (by omega) _
          have hz := hhigh g (by omega) (Nat.le_refl g)
          refine g_iconst (v := (nI 0)) X dL_surveys_135 rfl ?_
          refine g_istore (lv' := [(7, .int (nI 0)), (0, .ref (O 0 0)), (1, .ref b), (2, .ref ad), (3, .ref ae), (4, .int (celV L xs 0)), (5, .int (nI wd)), (6, .int (nI g))]) X dL_surveys_136 (by decide) rfl ?_
          have L_138 : ∀ (n_138 : Nat) (i : Nat) (w2 : TXT) (d2 : Nat → Int32) (mm2 : Nat → Nat) (hi : i ≤ n) (hmi : mm2 g = i) (hSJ : SI w2 d2 e2 mm2 ss1 N0) (hl2 : ∀ z, z < g → mm2 z = mm1 z) (hh2 : ∀ z, z < 2 → g < z → mm2 z = 0) (hm_138 : n - i < n_138) (x_7 : Int32) (ex_7 : x_7 = (nI i)), GG E m_L_surveys Γ 0 0 ([wTS E O, wRd E (O 2) u, wTx E (O 1) w2, wTw E (O 3 0) (O 4) (O 5) (tR v) (tN v), wSv E (O 4) (tA v), wSv E (O 5) (tB v), wTw E (O 6 0) (O 7) (O 8) (tR dv) (tN dv), wSv E (O 7) (tA dv), wSv E (O 8) (tB dv), wSh E (O 11) f, wPo E (O 9) (O 17) 8 oa, wPo E (O 10) (O 18) 2 ok, wAr E ad 48 d2, wAr E ae 54 e2].flatten) [(0, .ref (O 0 0)), (1, .ref b), (2, .ref ad), (3, .ref ae), (4, .int (celV L xs 0)), (5, .int (nI wd)), (6, .int (nI g)), (7, .int x_7)] 138 [] := by
            intro n_138
            induction n_138 with
            | zero => intro i w2 d2 mm2 hi hmi hSJ hl2 hh2 hm_138; exact absurd hm_138 (Nat.not_lt_zero _)
            | succ n_138 ih_138 =>
              intro i w2 d2 mm2 hi hmi hSJ hl2 hh2 hm_138 x_7 ex_7
              subst ex_7
              refine g_iload X 7 dL_surveys_138 rfl ?_
              refine g_aload_n X 3 dL_surveys_140 rfl ?_
              refine g_bipush (v := (nI 48)) X dL_surveys_141 rfl ?_
              refine g_iload X 6 dL_surveys_143 rfl ?_
              refine g_iaddN X dL_surveys_145 ?_
              refine g_iald X 42 rfl (48 + g) (ix_nI (by omega) (by decide)) dL_surveys_146 ?_
              rw [h48]
              refine g_icmp_ge (tgt := 364) X dL_surveys_147 (by decide) (fun c_147 => ?_) (fun c_147 => ?_)
              · have f_c_147 : n ≤ i := n_le (by omega) (by omega) c_147
                have fn_c_147 := Nat.not_lt.mpr f_c_147
                refine g_iconst (v := (nI 0)) X dL_surveys_364 rfl ?_
                refine g_istore (lv' := [(7, .int (nI 0)), (0, .ref (O 0 0)), (1, .ref b), (2, .ref ad), (3, .ref ae), (4, .int (celV L xs 0)), (5, .int (nI wd)), (6, .int (nI g))]) X dL_surveys_365 (by decide) rfl ?_
                have L_367 : ∀ (n_367 : Nat) (k : Nat) (w3 : TXT) (e3 : Nat → Int32) (ss3 : Nat → Nat) (hk : k ≤ 6) (hsk : ss3 g ≤ k) (hSK : SI w3 d2 e3 mm2 ss3 N0) (h48k : ∀ z, z < 2 → e3 (48 + z) = e2 (48 + z)) (hl3 : ∀ z, z ≠ g → ss3 z = ss1 z) (hm_367 : 6 - k < n_367) (x_7 : Int32) (ex_7 : x_7 = (nI k)), GG E m_L_surveys Γ 0 0 ([wTS E O, wRd E (O 2) u, wTx E (O 1) w3, wTw E (O 3 0) (O 4) (O 5) (tR v) (tN v), wSv E (O 4) (tA v), wSv E (O 5) (tB v), wTw E (O 6 0) (O 7) (O 8) (tR dv) (tN dv), wSv E (O 7) (tA dv), wSv E (O 8) (tB dv), wSh E (O 11) f, wPo E (O 9) (O 17) 8 oa, wPo E (O 10) (O 18) 2 ok, wAr E ad 48 d2, wAr E ae 54 e3].flatten) [(0, .ref (O 0 0)), (1, .ref b), (2, .ref ad), (3, .ref ae), (4, .int (celV L xs 0)), (5, .int (nI wd)), (6, .int (nI g)), (7, .int x_7)] 367 [] := by
                  intro n_367
                  induction n_367 with
                  | zero => intro k w3 e3 ss3 hk hsk hSK h48k hl3 hm_367; exact absurd hm_367 (Nat.not_lt_zero _)
                  | succ n_367 ih_367 =>
                    intro k w3 e3 ss3 hk hsk hSK h48k hl3 hm_367 x_7 ex_7
                    subst ex_7
                    have hmn : mm2 g = n := by omega
                    have h48g : e3 (48 + g) = nI n := (h48k g (by omega)).trans h48
                    refine g_iload X 7 dL_surveys_367 rfl ?_
                    refine g_bipush (v := (nI 6)) X dL_surveys_369 rfl ?_
                    refine g_icmp_ge (tgt := 547) X dL_surveys_371 (by decide) (fun c_371 => ?_) (fun c_371 => ?_)
                    · have f_c_371 : 6 ≤ k := n_le (by omega) (by omega) c_371
                      have fn_c_371 := Nat.not_lt.mpr f_c_371
                      refine g_iincN (lv' := [(6, .int (nI (g + 1))), (0, .ref (O 0 0)), (1, .ref b), (2, .ref ad), (3, .ref ae), (4, .int (celV L xs 0)), (5, .int (nI wd)), (7, .int (nI k))]) X 6 dL_surveys_547 rfl (by decide) rfl ?_
                      refine g_goto (tgt := 105) X dL_surveys_550 (by decide) ?_
                      refine GG.lv [1, 2, 3, 4, 5, 6, 0] rfl ?_
                      exact ih_105 (g + 1) w3 d2 e3 mm2 ss3 (by omega) (hSK) (sv_low hlow hl2 hmn hn1 (by omega) h48 hfar h48k) (sv_high hh2 hhigh hl3) (by omega) (nI (g + 1)) (by rfl)
                    · have f_c_371 : k < 6 := n_nle (by omega) (by omega) c_371
                      have fn_c_371 := Nat.not_le.mpr f_c_371
                      refine g_aload_n X 1 dL_surveys_374 rfl ?_
                      refine g_bipush (v := (nI 13)) X dL_surveys_375 rfl ?_
                      refine g_bipush (v := (nI 6)) X dL_surveys_377 rfl ?_
                      refine g_iload X 6 dL_surveys_379 rfl ?_
                      refine g_imulN X dL_surveys_381 ?_
                      refine g_iaddN X dL_surveys_382 ?_
                      refine g_iload X 7 dL_surveys_383 rfl ?_
                      refine g_iaddN X dL_surveys_385 ?_
                      refine g_callXP (wc := []) (wr := [wTS E O, wRd E (O 2) u, wTx E (O 1) w3, wTw E (O 3 0) (O 4) (O 5) (tR v) (tN v), wSv E (O 4) (tA v), wSv E (O 5) (tB v), wTw E (O 6 0) (O 7) (O 8) (tR dv) (tN dv), wSv E (O 7) (tA dv), wSv E (O 8) (tB dv), wSh E (O 11) f, wPo E (O 9) (O 17) 8 oa, wPo E (O 10) (O 18) 2 ok, wAr E ad 48 d2, wAr E ae 54 e3].flatten) X Z (c_L_cell E b L xs hL ((13 + (6 * g)) + k) (by omega)) cs_L_21 rfl (List.Perm.refl _) rfl rfl (Nat.le_of_ble_eq_true rfl) dL_surveys_386 ⟨Nat.zero_le _, Nat.zero_le _⟩ (fun v0 w0 h0 => ?_)
                      obtain ⟨rfl, rfl⟩ := h0
                      refine GG.eq (ws' := [wTS E O, wRd E (O 2) u, wTx E (O 1) w3, wTw E (O 3 0) (O 4) (O 5) (tR v) (tN v), wSv E (O 4) (tA v), wSv E (O 5) (tB v), wTw E (O 6 0) (O 7) (O 8) (tR dv) (tN dv), wSv E (O 7) (tA dv), wSv E (O 8) (tB dv), wSh E (O 11) f, wPo E (O 9) (O 17) 8 oa, wPo E (O 10) (O 18) 2 ok, wAr E ad 48 d2, wAr E ae 54 e3].flatten) (st' := [.int (celV L xs ((13 + (6 * g)) + k))]) (List.append_nil _) rfl ?_
                      refine g_istore (lv' := [(8, .int (celV L xs ((13 + (6 * g)) + k))), (0, .ref (O 0 0)), (1, .ref b), (2, .ref ad), (3, .ref ae), (4, .int (celV L xs 0)), (5, .int (nI wd)), (6, .int (nI g)), (7, .int (nI k))]) X dL_surveys_389 (by decide) rfl ?_
                      obtain ⟨xr, e_xr⟩ : ∃ xr, celV L xs ((13 + (6 * g)) + k) = xr := ⟨_, rfl⟩
                      rw [e_xr]
                      refine g_iload X 0 dL_surveys_391 rfl ?_
                      refine g_aload_n X 4 dL_surveys_393 rfl ?_
                      refine g_bipush (v := (nI 48)) X dL_surveys_394 rfl ?_
                      refine g_iload X 7 dL_surveys_396 rfl ?_
                      refine g_iaddN X dL_surveys_398 ?_
                      refine g_iald X 42 rfl (48 + g) (ix_nI (by omega) (by decide)) dL_surveys_399 ?_
                      rw [h48g]
                      have lb400 := lwN_lt xr (n := n) (by omega)
                      refine g_callSP (st2 := [.int (nI (lwN xr n))]) (ws' := [wTS E O, wRd E (O 2) u, wTx E (O 1) w3, wTw E (O 3 0) (O 4) (O 5) (tR v) (tN v), wSv E (O 4) (tA v), wSv E (O 5) (tB v), wTw E (O 6 0) (O 7) (O 8) (tR dv) (tN dv), wSv E (O 7) (tA dv), wSv E (O 8) (tB dv), wSh E (O 11) f, wPo E (O 9) (O 17) 8 oa, wPo E (O 10) (O 18) 2 ok, wAr E ad 48 d2, wAr E ae 54 e3].flatten) (wr := [wTS E O, wRd E (O 2) u, wTx E (O 1) w3, wTw E (O 3 0) (O 4) (O 5) (tR v) (tN v), wSv E (O 4) (tA v), wSv E (O 5) (tB v), wTw E (O 6 0) (O 7) (O 8) (tR dv) (tN dv), wSv E (O 7) (tA dv), wSv E (O 8) (tB dv), wSh E (O 11) f, wPo E (O 9) (O 17) 8 oa, wPo E (O 10) (O 18) 2 ok, wAr E ad 48 d2, wAr E ae 54 e3].flatten) X (c_L_low E xr n (by omega) (by omega)) cs_L_25 rfl (List.Perm.refl _) rfl (List.Perm.refl _) rfl rfl (Nat.le_of_ble_eq_true rfl) dL_surveys_400 rfl ?_
                      refine g_istore (lv' := [(9, .int (nI (lwN xr n))), (8, .int xr), (0, .ref (O 0 0)), (1, .ref b), (2, .ref ad), (3, .ref ae), (4, .int (celV L xs 0)), (5, .int (nI wd)), (6, .int (nI g)), (7, .int (nI k))]) X dL_surveys_403 (by decide) rfl ?_
                      refine g_iload X 1 dL_surveys_405 rfl ?_
                      refine g_iconst (v := (nI 4)) X dL_surveys_407 rfl ?_
                      refine g_ishr X dL_surveys_408 ?_
                      refine g_aload_n X 5 dL_surveys_409 rfl ?_
                      refine g_bipush (v := (nI 48)) X dL_surveys_410 rfl ?_
                      refine g_iload X 8 dL_surveys_412 rfl ?_
                      refine g_iaddN X dL_surveys_414 ?_
                      refine g_iald X 42 rfl (48 + g) (ix_nI (by omega) (by decide)) dL_surveys_415 ?_
                      rw [h48g]
                      have lb416 := lwN_lt (xr >>> ((nI 4) &&& 31)) (n := n) (by omega)
                      refine g_callSP (st2 := [.int (nI (lwN (xr >>> ((nI 4) &&& 31)) n))]) (ws' := [wTS E O, wRd E (O 2) u, wTx E (O 1) w3, wTw E (O 3 0) (O 4) (O 5) (tR v) (tN v), wSv E (O 4) (tA v), wSv E (O 5) (tB v), wTw E (O 6 0) (O 7) (O 8) (tR dv) (tN dv), wSv E (O 7) (tA dv), wSv E (O 8) (tB dv), wSh E (O 11) f, wPo E (O 9) (O 17) 8 oa, wPo E (O 10) (O 18) 2 ok, wAr E ad 48 d2, wAr E ae 54 e3].flatten) (wr := [wTS E O, wRd E (O 2) u, wTx E (O 1) w3, wTw E (O 3 0) (O 4) (O 5) (tR v) (tN v), wSv E (O 4) (tA v), wSv E (O 5) (tB v), wTw E (O 6 0) (O 7) (O 8) (tR dv) (tN dv), wSv E (O 7) (tA dv), wSv E (O 8) (tB dv), wSh E (O 11) f, wPo E (O 9) (O 17) 8 oa, wPo E (O 10) (O 18) 2 ok, wAr E ad 48 d2, wAr E ae 54 e3].flatten) X (c_L_low E (xr >>> ((nI 4) &&& 31)) n (by omega) (by omega)) cs_L_25 rfl (List.Perm.refl _) rfl (List.Perm.refl _) rfl rfl (Nat.le_of_ble_eq_true rfl) dL_surveys_416 rfl ?_
                      refine g_istore (lv' := [(10, .int (nI (lwN (xr >>> ((nI 4) &&& 31)) n))), (9, .int (nI (lwN xr n))), (8, .int xr), (0, .ref (O 0 0)), (1, .ref b), (2, .ref ad), (3, .ref ae), (4, .int (celV L xs 0)), (5, .int (nI wd)), (6, .int (nI g)), (7, .int (nI k))]) X dL_surveys_419 (by decide) rfl ?_
                      obtain ⟨qa, hqa, eqa⟩ : ∃ qa, qa < n ∧ lwN xr n = qa := ⟨_, lwN_lt _ (by omega), rfl⟩
                      obtain ⟨qb, hqb, eqb⟩ : ∃ qb, qb < n ∧ lwN (xr >>> (nI 4 &&& 31)) n = qb := ⟨_, lwN_lt _ (by omega), rfl⟩
                      rw [eqa, eqb]
                      refine g_iload X 1 dL_surveys_421 rfl ?_
                      refine g_iload X 0 dL_surveys_423 rfl ?_
                      refine g_icmp_eq (tgt := 541) X dL_surveys_425 (by decide) (fun c_425 => ?_) (fun c_425 => ?_)
                      · have f_c_425 : qa = qb := n_eq (by omega) (by omega) c_425
                        refine g_iincN (lv' := [(7, .int (nI (k + 1))), (10, .int (nI qb)), (9, .int (nI qa)), (8, .int xr), (0, .ref (O 0 0)), (1, .ref b), (2, .ref ad), (3, .ref ae), (4, .int (celV L xs 0)), (5, .int (nI wd)), (6, .int (nI g))]) X 10 dL_surveys_541 rfl (by decide) rfl ?_
                        refine g_goto (tgt := 367) X dL_surveys_544 (by decide) ?_
                        refine GG.lv [4, 5, 6, 7, 8, 9, 10, 0] rfl ?_
                        exact ih_367 (k + 1) w3 e3 ss3 (by omega) (by omega) (hSK) (h48k) (hl3) (by omega) (nI (k + 1)) (by rfl)
                      · have f_c_425 : ¬ qa = qb := n_ne (by omega) (by omega) c_425
                        refine g_aload_n X 6 dL_surveys_428 rfl ?_
                        refine g_iload X 9 dL_surveys_429 rfl ?_
                        refine g_iload X 1 dL_surveys_431 rfl ?_
                        refine g_iload X 0 dL_surveys_433 rfl ?_
                        refine g_callSr (st2 := [.int (stL e3 g (nI qa) (nI qb) (ss3 g))]) X (c_L_street E ae e3 g (ss3 g) (nI qa) (nI qb) (by omega) (by omega) (hSK.2.2.2.2.2 g (by omega)).2.2) cs_L_37 rfl [13] [0, 1, 2, 3, 4, 5, 6, 7, 8, 9, 10, 11, 12] 14 rfl (by decide) rfl rfl rfl (Nat.le_of_ble_eq_true rfl) dL_surveys_435 rfl ?_
                        refine g_if_ge (tgt := 541) X dL_surveys_438 (by decide) (fun c_438 => ?_) (fun c_438 => ?_)
                        · refine g_iincN (lv' := [(7, .int (nI (k + 1))), (10, .int (nI qb)), (9, .int (nI qa)), (8, .int xr), (0, .ref (O 0 0)), (1, .ref b), (2, .ref ad), (3, .ref ae), (4, .int (celV L xs 0)), (5, .int (nI wd)), (6, .int (nI g))]) X 10 dL_surveys_541 rfl (by decide) rfl ?_
                          refine g_goto (tgt := 367) X dL_surveys_544 (by decide) ?_
                          refine GG.lv [4, 5, 6, 7, 8, 9, 10, 0] rfl ?_
                          exact ih_367 (k + 1) w3 e3 ss3 (by omega) (by omega) (hSK) (h48k) (hl3) (by omega) (nI (k + 1)) (by rfl)
                        · have s_438 : stL e3 g (nI qa) (nI qb) (ss3 g) < 0 := by rw [i_lt, i_0]; rw [i_le, i_0] at c_438; omega
                          refine g_bipush (v := (nI 8)) X dL_surveys_441 rfl ?_
                          refine g_iload X 9 dL_surveys_443 rfl ?_
                          refine g_imulN X dL_surveys_445 ?_
                          refine g_aload_n X 6 dL_surveys_446 rfl ?_
                          refine g_bipush (v := (nI 50)) X dL_surveys_447 rfl ?_
                          refine g_iload X 9 dL_surveys_449 rfl ?_
                          refine g_iaddN X dL_surveys_451 ?_
                          refine g_iald X 42 rfl (50 + g) (ix_nI (by omega) (by decide)) dL_surveys_452 ?_
                          rw [(hSK.2.2.2.2.2 g (by omega)).2.2]
                          refine g_iaddN X dL_surveys_453 ?_
                          refine g_istore (lv' := [(11, .int (nI ((8 * g) + (ss3 g)))), (10, .int (nI qb)), (9, .int (nI qa)), (8, .int xr), (0, .ref (O 0 0)), (1, .ref b), (2, .ref ad), (3, .ref ae), (4, .int (celV L xs 0)), (5, .int (nI wd)), (6, .int (nI g)), (7, .int (nI k))]) X dL_surveys_454 (by decide) rfl ?_
                          refine g_aload_n X 7 dL_surveys_456 rfl ?_
                          refine g_iload X 0 dL_surveys_457 rfl ?_
                          refine g_iload X 2 dL_surveys_459 rfl ?_
                          refine g_iast (ws' := [wTS E O, wRd E (O 2) u, wTx E (O 1) w3, wTw E (O 3 0) (O 4) (O 5) (tR v) (tN v), wSv E (O 4) (tA v), wSv E (O 5) (tB v), wTw E (O 6 0) (O 7) (O 8) (tR dv) (tN dv), wSv E (O 7) (tA dv), wSv E (O 8) (tB dv), wSh E (O 11) f, wPo E (O 9) (O 17) 8 oa, wPo E (O 10) (O 18) 2 ok, wAr E ad 48 d2, wAr E ae 54 (upd e3 ((8 * g) + (ss3 g)) (nI qa))].flatten) X 42 rfl ((8 * g) + (ss3 g)) (ix_nI (by omega) (by decide)) rfl dL_surveys_461 ?_
                          refine g_aload_n X 7 dL_surveys_462 rfl ?_
                          refine g_bipush (v := (nI 16)) X dL_surveys_463 rfl ?_
                          refine g_iload X 0 dL_surveys_465 rfl ?_
                          refine g_iaddN X dL_surveys_467 ?_
                          refine g_iload X 1 dL_surveys_468 rfl ?_
                          refine g_iast (ws' := [wTS E O, wRd E (O 2) u, wTx E (O 1) w3, wTw E (O 3 0) (O 4) (O 5) (tR v) (tN v), wSv E (O 4) (tA v), wSv E (O 5) (tB v), wTw E (O 6 0) (O 7) (O 8) (tR dv) (tN dv), wSv E (O 7) (tA dv), wSv E (O 8) (tB dv), wSh E (O 11) f, wPo E (O 9) (O 17) 8 oa, wPo E (O 10) (O 18) 2 ok, wAr E ad 48 d2, wAr E ae 54 (upd (upd e3 ((8 * g) + (ss3 g)) (nI qa)) (16 + ((8 * g) + (ss3 g))) (nI qb))].flatten) X 42 rfl (16 + ((8 * g) + (ss3 g))) (ix_nI (by omega) (by decide)) rfl dL_surveys_470 ?_
                          refine g_aload_n X 7 dL_surveys_471 rfl ?_
                          refine g_bipush (v := (nI 32)) X dL_surveys_472 rfl ?_
                          refine g_iload X 0 dL_surveys_474 rfl ?_
                          refine g_iaddN X dL_surveys_476 ?_
                          refine g_iload X 3 dL_surveys_477 rfl ?_
                          refine g_bipush (v := (nI 8)) X dL_surveys_479 rfl ?_
                          refine g_ishr X dL_surveys_481 ?_
                          refine g_iconst (v := (nI 2)) X dL_surveys_482 rfl ?_
                          have lb483 := lwN_lt (xr >>> ((nI 8) &&& 31)) (n := 2) (by omega)
                          refine g_callSP (st2 := [.int (nI (lwN (xr >>> ((nI 8) &&& 31)) 2)), .int (nI (32 + ((8 * g) + (ss3 g)))), .ref ae]) (ws' := [wTS E O, wRd E (O 2) u, wTx E (O 1) w3, wTw E (O 3 0) (O 4) (O 5) (tR v) (tN v), wSv E (O 4) (tA v), wSv E (O 5) (tB v), wTw E (O 6 0) (O 7) (O 8) (tR dv) (tN dv), wSv E (O 7) (tA dv), wSv E (O 8) (tB dv), wSh E (O 11) f, wPo E (O 9) (O 17) 8 oa, wPo E (O 10) (O 18) 2 ok, wAr E ad 48 d2, wAr E ae 54 (upd (upd e3 ((8 * g) + (ss3 g)) (nI qa)) (16 + ((8 * g) + (ss3 g))) (nI qb))].flatten) (wr := [wTS E O, wRd E (O 2) u, wTx E (O 1) w3, wTw E (O 3 0) (O 4) (O 5) (tR v) (tN v), wSv E (O 4) (tA v), wSv E (O 5) (tB v), wTw E (O 6 0) (O 7) (O 8) (tR dv) (tN dv), wSv E (O 7) (tA dv), wSv E (O 8) (tB dv), wSh E (O 11) f, wPo E (O 9) (O 17) 8 oa, wPo E (O 10) (O 18) 2 ok, wAr E ad 48 d2, wAr E ae 54 (upd (upd e3 ((8 * g) + (ss3 g)) (nI qa)) (16 + ((8 * g) + (ss3 g))) (nI qb))].flatten) X (c_L_low E (xr >>> ((nI 8) &&& 31)) 2 (by decide) (by decide)) cs_L_25 rfl (List.Perm.refl _) rfl (List.Perm.refl _) rfl rfl (Nat.le_of_ble_eq_true rfl) dL_surveys_483 rfl ?_
                          refine g_if_ne (tgt := 493) X dL_surveys_486 (by decide) (fun c_486 => ?_) (fun c_486 => ?_)
                          · have f_c_486 : ¬ lwN (xr >>> ((nI 8) &&& 31)) 2 = 0 := n_ne (by omega) (by omega) c_486
                            refine g_iload X 3 dL_surveys_493 rfl ?_
                            refine g_bipush (v := (nI 9)) X dL_surveys_495 rfl ?_
                            refine g_ishr X dL_surveys_497 ?_
                            refine g_iconst (v := (nI 4)) X dL_surveys_498 rfl ?_
                            have lb499 := lwN_lt (xr >>> ((nI 9) &&& 31)) (n := 4) (by omega)
                            refine g_callSP (st2 := [.int (nI (lwN (xr >>> ((nI 9) &&& 31)) 4)), .int (nI (32 + ((8 * g) + (ss3 g)))), .ref ae]) (ws' := [wTS E O, wRd E (O 2) u, wTx E (O 1) w3, wTw E (O 3 0) (O 4) (O 5) (tR v) (tN v), wSv E (O 4) (tA v), wSv E (O 5) (tB v), wTw E (O 6 0) (O 7) (O 8) (tR dv) (tN dv), wSv E (O 7) (tA dv), wSv E (O 8) (tB dv), wSh E (O 11) f, wPo E (O 9) (O 17) 8 oa, wPo E (O 10) (O 18) 2 ok, wAr E ad 48 d2, wAr E ae 54 (upd (upd e3 ((8 * g) + (ss3 g)) (nI qa)) (16 + ((8 * g) + (ss3 g))) (nI qb))].flatten) (wr := [wTS E O, wRd E (O 2) u, wTx E (O 1) w3, wTw E (O 3 0) (O 4) (O 5) (tR v) (tN v), wSv E (O 4) (tA v), wSv E (O 5) (tB v), wTw E (O 6 0) (O 7) (O 8) (tR dv) (tN dv), wSv E (O 7) (tA dv), wSv E (O 8) (tB dv), wSh E (O 11) f, wPo E (O 9) (O 17) 8 oa, wPo E (O 10) (O 18) 2 ok, wAr E ad 48 d2, wAr E ae 54 (upd (upd e3 ((8 * g) + (ss3 g)) (nI qa)) (16 + ((8 * g) + (ss3 g))) (nI qb))].flatten) X (c_L_low E (xr >>> ((nI 9) &&& 31)) 4 (by decide) (by decide)) cs_L_25 rfl (List.Perm.refl _) rfl (List.Perm.refl _) rfl rfl (Nat.le_of_ble_eq_true rfl) dL_surveys_499 rfl ?_
                            have hC : lwN (xr >>> ((nI 9) &&& 31)) 4 ≤ 9 := by have := lwN_lt (xr >>> ((nI 9) &&& 31)) (n := 4) (by omega); omega
                            refine g_iast (ws' := [wTS E O, wRd E (O 2) u, wTx E (O 1) w3, wTw E (O 3 0) (O 4) (O 5) (tR v) (tN v), wSv E (O 4) (tA v), wSv E (O 5) (tB v), wTw E (O 6 0) (O 7) (O 8) (tR dv) (tN dv), wSv E (O 7) (tA dv), wSv E (O 8) (tB dv), wSh E (O 11) f, wPo E (O 9) (O 17) 8 oa, wPo E (O 10) (O 18) 2 ok, wAr E ad 48 d2, wAr E ae 54 (upd (upd (upd e3 ((8 * g) + (ss3 g)) (nI qa)) (16 + ((8 * g) + (ss3 g))) (nI qb)) (32 + ((8 * g) + (ss3 g))) (nI (lwN (xr >>> ((nI 9) &&& 31)) 4)))].flatten) X 42 rfl (32 + ((8 * g) + (ss3 g))) (ix_nI (by omega) (by decide)) rfl dL_surveys_502 ?_
                            refine g_aload_n X 7 dL_surveys_503 rfl ?_
                            refine g_bipush (v := (nI 50)) X dL_surveys_504 rfl ?_
                            refine g_iload X 10 dL_surveys_506 rfl ?_
                            refine g_iaddN X dL_surveys_508 ?_
                            refine g_dup2 X dL_surveys_509 rfl rfl ?_
                            refine g_iald X 42 rfl (50 + g) (ix_nI (by omega) (by decide)) dL_surveys_510 ?_
                            rw [upd_n _ _ (by omega), upd_n _ _ (by omega), upd_n _ _ (by omega), (hSK.2.2.2.2.2 g (by omega)).2.2]
                            refine g_iconst (v := (nI 1)) X dL_surveys_511 rfl ?_
                            refine g_iaddN X dL_surveys_512 ?_
                            refine g_iast (ws' := [wTS E O, wRd E (O 2) u, wTx E (O 1) w3, wTw E (O 3 0) (O 4) (O 5) (tR v) (tN v), wSv E (O 4) (tA v), wSv E (O 5) (tB v), wTw E (O 6 0) (O 7) (O 8) (tR dv) (tN dv), wSv E (O 7) (tA dv), wSv E (O 8) (tB dv), wSh E (O 11) f, wPo E (O 9) (O 17) 8 oa, wPo E (O 10) (O 18) 2 ok, wAr E ad 48 d2, wAr E ae 54 (upd (upd (upd (upd e3 ((8 * g) + (ss3 g)) (nI qa)) (16 + ((8 * g) + (ss3 g))) (nI qb)) (32 + ((8 * g) + (ss3 g))) (nI (lwN (xr >>> ((nI 9) &&& 31)) 4))) (50 + g) (nI ((ss3 g) + 1)))].flatten) X 42 rfl (50 + g) (ix_nI (by omega) (by decide)) rfl dL_surveys_513 ?_
                            refine g_aload_n X 4 dL_surveys_514 rfl ?_
                            refine g_iload X 10 dL_surveys_515 rfl ?_
                            refine g_if_ne (tgt := 525) X dL_surveys_517 (by decide) (fun c_517 => ?_) (fun c_517 => ?_)
                            · have f_c_517 : ¬ g = 0 := n_ne (by omega) (by omega) c_517
                              obtain rfl : g = 1 := by omega
                              refine g_bipush (v := (nI 116)) X dL_surveys_525 rfl ?_
                              refine g_iload X 2 dL_surveys_527 rfl ?_
                              refine g_iload X 1 dL_surveys_529 rfl ?_
                              refine g_aload_n X 7 dL_surveys_531 rfl ?_
                              refine g_bipush (v := (nI 32)) X dL_surveys_532 rfl ?_
                              refine g_iload X 0 dL_surveys_534 rfl ?_
                              refine g_iaddN X dL_surveys_536 ?_
                              refine g_iald X 42 rfl (32 + ((8 * 1) + (ss3 1))) (ix_nI (by omega) (by decide)) dL_surveys_537 ?_
                              rw [upd_n _ _ (by omega), upd_s]
                              refine g_callS (st2 := []) (S' := [wTS E O, wRd E (O 2) u, wTx E (O 1) (itW w3 116 qa qb (lwN (xr >>> ((nI 9) &&& 31)) 4)), wTw E (O 3 0) (O 4) (O 5) (tR v) (tN v), wSv E (O 4) (tA v), wSv E (O 5) (tB v), wTw E (O 6 0) (O 7) (O 8) (tR dv) (tN dv), wSv E (O 7) (tA dv), wSv E (O 8) (tB dv), wSh E (O 11) f, wPo E (O 9) (O 17) 8 oa, wPo E (O 10) (O 18) 2 ok, wAr E ad 48 d2, wAr E ae 54 (upd (upd (upd (upd e3 ((8 * 1) + (ss3 1)) (nI qa)) (16 + ((8 * 1) + (ss3 1))) (nI qb)) (32 + ((8 * 1) + (ss3 1))) (nI (lwN (xr >>> ((nI 9) &&& 31)) 4))) (50 + 1) (nI ((ss3 1) + 1)))]) X (c_L_item E O w3 116 qa qb (lwN (xr >>> ((nI 9) &&& 31)) 4) (Nat.le_of_lt hSK.w) (by first | assumption | omega | exact Nat.zero_le _) (by first | assumption | omega | exact Nat.zero_le _) (by first | assumption | omega | exact Nat.zero_le _)) cs_L_33 rfl [0, 2] [1, 3, 4, 5, 6, 7, 8, 9, 10, 11, 12, 13] 14 rfl rfl (by decide) [wRd E (O 2) u, wTw E (O 3 0) (O 4) (O 5) (tR v) (tN v), wSv E (O 4) (tA v), wSv E (O 5) (tB v), wTw E (O 6 0) (O 7) (O 8) (tR dv) (tN dv), wSv E (O 7) (tA dv), wSv E (O 8) (tB dv), wSh E (O 11) f, wPo E (O 9) (O 17) 8 oa, wPo E (O 10) (O 18) 2 ok, wAr E ad 48 d2, wAr E ae 54 (upd (upd (upd (upd e3 ((8 * 1) + (ss3 1)) (nI qa)) (16 + ((8 * 1) + (ss3 1))) (nI qb)) (32 + ((8 * 1) + (ss3 1))) (nI (lwN (xr >>> ((nI 9) &&& 31)) 4))) (50 + 1) (nI ((ss3 1) + 1)))] rfl rfl rfl rfl (by simp only [List.map_cons, List.map_nil, fsAr, fsPo, fsRd, fsSh, fsSv, fsTS, fsTw, fsTx]) rfl rfl (Nat.le_of_ble_eq_true rfl) dL_surveys_538 rfl ?_
                              refine g_iincN (lv' := [(7, .int (nI (k + 1))), (11, .int (nI ((8 * 1) + (ss3 1)))), (10, .int (nI qb)), (9, .int (nI qa)), (8, .int xr), (0, .ref (O 0 0)), (1, .ref b), (2, .ref ad), (3, .ref ae), (4, .int (celV L xs 0)), (5, .int (nI wd)), (6, .int (nI 1))]) X 11 dL_surveys_541 rfl (by decide) rfl ?_
                              refine g_goto (tgt := 367) X dL_surveys_544 (by decide) ?_
                              refine GG.lv [5, 6, 7, 8, 9, 10, 11, 0] rfl ?_
                              exact ih_367 (k + 1) (itW w3 116 qa qb (lwN (xr >>> ((nI 9) &&& 31)) 4)) (upd (upd (upd (upd e3 ((8 * 1) + (ss3 1)) (nI qa)) (16 + ((8 * 1) + (ss3 1))) (nI qb)) (32 + ((8 * 1) + (ss3 1))) (nI (lwN (xr >>> ((nI 9) &&& 31)) 4))) (50 + 1) (nI ((ss3 1) + 1))) (upN ss3 1 (ss3 1 + 1)) (by omega) (by rw [upN_s]; omega) (si_street hSK (g := 1) (by omega) (by omega) (by omega) (by omega) f_c_425 hC s_438) (fun z hz => (jn48 (by omega) (by omega) hz).trans (h48k z hz)) (fun z hz => by rw [upN_n _ _ hz]; exact hl3 z hz) (by omega) (nI (k + 1)) (by rfl)
                            · have f_c_517 : g = 0 := n_eq (by omega) (by omega) c_517
                              obtain rfl : g = 0 := by omega
                              refine g_bipush (v := (nI 115)) X dL_surveys_520 rfl ?_
                              refine g_goto (tgt := 527) X dL_surveys_522 (by decide) ?_
                              refine g_iload X 2 dL_surveys_527 rfl ?_
                              refine g_iload X 1 dL_surveys_529 rfl ?_
                              refine g_aload_n X 7 dL_surveys_531 rfl ?_
                              refine g_bipush (v := (nI 32)) X dL_surveys_532 rfl ?_
                              refine g_iload X 0 dL_surveys_534 rfl ?_
                              refine g_iaddN X dL_surveys_536 ?_
                              refine g_iald X 42 rfl (32 + ((8 * 0) + (ss3 0))) (ix_nI (by omega) (by decide)) dL_surveys_537 ?_
                              rw [upd_n _ _ (by omega), upd_s]
                              refine g_callS (st2 := []) (S' := [wTS E O, wRd E (O 2) u, wTx E (O 1) (itW w3 115 qa qb (lwN (xr >>> ((nI 9) &&& 31)) 4)), wTw E (O 3 0) (O 4) (O 5) (tR v) (tN v), wSv E (O 4) (tA v), wSv E (O 5) (tB v), wTw E (O 6 0) (O 7) (O 8) (tR dv) (tN dv), wSv E (O 7) (tA dv), wSv E (O 8) (tB dv), wSh E (O 11) f, wPo E (O 9) (O 17) 8 oa, wPo E (O 10) (O 18) 2 ok, wAr E ad 48 d2, wAr E ae 54 (upd (upd (upd (upd e3 ((8 * 0) + (ss3 0)) (nI qa)) (16 + ((8 * 0) + (ss3 0))) (nI qb)) (32 + ((8 * 0) + (ss3 0))) (nI (lwN (xr >>> ((nI 9) &&& 31)) 4))) (50 + 0) (nI ((ss3 0) + 1)))]) X (c_L_item E O w3 115 qa qb (lwN (xr >>> ((nI 9) &&& 31)) 4) (Nat.le_of_lt hSK.w) (by first | assumption | omega | exact Nat.zero_le _) (by first | assumption | omega | exact Nat.zero_le _) (by first | assumption | omega | exact Nat.zero_le _)) cs_L_33 rfl [0, 2] [1, 3, 4, 5, 6, 7, 8, 9, 10, 11, 12, 13] 14 rfl rfl (by decide) [wRd E (O 2) u, wTw E (O 3 0) (O 4) (O 5) (tR v) (tN v), wSv E (O 4) (tA v), wSv E (O 5) (tB v), wTw E (O 6 0) (O 7) (O 8) (tR dv) (tN dv), wSv E (O 7) (tA dv), wSv E (O 8) (tB dv), wSh E (O 11) f, wPo E (O 9) (O 17) 8 oa, wPo E (O 10) (O 18) 2 ok, wAr E ad 48 d2, wAr E ae 54 (upd (upd (upd (upd e3 ((8 * 0) + (ss3 0)) (nI qa)) (16 + ((8 * 0) + (ss3 0))) (nI qb)) (32 + ((8 * 0) + (ss3 0))) (nI (lwN (xr >>> ((nI 9) &&& 31)) 4))) (50 + 0) (nI ((ss3 0) + 1)))] rfl rfl rfl rfl (by simp only [List.map_cons, List.map_nil, fsAr, fsPo, fsRd, fsSh, fsSv, fsTS, fsTw, fsTx]) rfl rfl (Nat.le_of_ble_eq_true rfl) dL_surveys_538 rfl ?_
                              refine g_iincN (lv' := [(7, .int (nI (k + 1))), (11, .int (nI ((8 * 0) + (ss3 0)))), (10, .int (nI qb)), (9, .int (nI qa)), (8, .int xr), (0, .ref (O 0 0)), (1, .ref b), (2, .ref ad), (3, .ref ae), (4, .int (celV L xs 0)), (5, .int (nI wd)), (6, .int (nI 0))]) X 11 dL_surveys_541 rfl (by decide) rfl ?_
                              refine g_goto (tgt := 367) X dL_surveys_544 (by decide) ?_
                              refine GG.lv [5, 6, 7, 8, 9, 10, 11, 0] rfl ?_
                              exact ih_367 (k + 1) (itW w3 115 qa qb (lwN (xr >>> ((nI 9) &&& 31)) 4)) (upd (upd (upd (upd e3 ((8 * 0) + (ss3 0)) (nI qa)) (16 + ((8 * 0) + (ss3 0))) (nI qb)) (32 + ((8 * 0) + (ss3 0))) (nI (lwN (xr >>> ((nI 9) &&& 31)) 4))) (50 + 0) (nI ((ss3 0) + 1))) (upN ss3 0 (ss3 0 + 1)) (by omega) (by rw [upN_s]; omega) (si_street hSK (g := 0) (by omega) (by omega) (by omega) (by omega) f_c_425 hC s_438) (fun z hz => (jn48 (by omega) (by omega) hz).trans (h48k z hz)) (fun z hz => by rw [upN_n _ _ hz]; exact hl3 z hz) (by omega) (nI (k + 1)) (by rfl)
                          · have f_c_486 : lwN (xr >>> ((nI 8) &&& 31)) 2 = 0 := n_eq (by omega) (by omega) c_486
                            refine g_iconst (v := (nI 0)) X dL_surveys_489 rfl ?_
                            refine g_goto (tgt := 502) X dL_surveys_490 (by decide) ?_
                            have hC : 0 ≤ 9 := by omega
                            refine g_iast (ws' := [wTS E O, wRd E (O 2) u, wTx E (O 1) w3, wTw E (O 3 0) (O 4) (O 5) (tR v) (tN v), wSv E (O 4) (tA v), wSv E (O 5) (tB v), wTw E (O 6 0) (O 7) (O 8) (tR dv) (tN dv), wSv E (O 7) (tA dv), wSv E (O 8) (tB dv), wSh E (O 11) f, wPo E (O 9) (O 17) 8 oa, wPo E (O 10) (O 18) 2 ok, wAr E ad 48 d2, wAr E ae 54 (upd (upd (upd e3 ((8 * g) + (ss3 g)) (nI qa)) (16 + ((8 * g) + (ss3 g))) (nI qb)) (32 + ((8 * g) + (ss3 g))) (nI 0))].flatten) X 42 rfl (32 + ((8 * g) + (ss3 g))) (ix_nI (by omega) (by decide)) rfl dL_surveys_502 ?_
                            refine g_aload_n X 7 dL_surveys_503 rfl ?_
                            refine g_bipush (v := (nI 50)) X dL_surveys_504 rfl ?_
                            refine g_iload X 10 dL_surveys_506 rfl ?_
                            refine g_iaddN X dL_surveys_508 ?_
                            refine g_dup2 X dL_surveys_509 rfl rfl ?_
                            refine g_iald X 42 rfl (50 + g) (ix_nI (by omega) (by decide)) dL_surveys_510 ?_
                            rw [upd_n _ _ (by omega), upd_n _ _ (by omega), upd_n _ _ (by omega), (hSK.2.2.2.2.2 g (by omega)).2.2]
                            refine g_iconst (v := (nI 1)) X dL_surveys_511 rfl ?_
                            refine g_iaddN X dL_surveys_512 ?_
                            refine g_iast (ws' := [wTS E O, wRd E (O 2) u, wTx E (O 1) w3, wTw E (O 3 0) (O 4) (O 5) (tR v) (tN v), wSv E (O 4) (tA v), wSv E (O 5) (tB v), wTw E (O 6 0) (O 7) (O 8) (tR dv) (tN dv), wSv E (O 7) (tA dv), wSv E (O 8) (tB dv), wSh E (O 11) f, wPo E (O 9) (O 17) 8 oa, wPo E (O 10) (O 18) 2 ok, wAr E ad 48 d2, wAr E ae 54 (upd (upd (upd (upd e3 ((8 * g) + (ss3 g)) (nI qa)) (16 + ((8 * g) + (ss3 g))) (nI qb)) (32 + ((8 * g) + (ss3 g))) (nI 0)) (50 + g) (nI ((ss3 g) + 1)))].flatten) X 42 rfl (50 + g) (ix_nI (by omega) (by decide)) rfl dL_surveys_513 ?_
                            refine g_aload_n X 4 dL_surveys_514 rfl ?_
                            refine g_iload X 10 dL_surveys_515 rfl ?_
                            refine g_if_ne (tgt := 525) X dL_surveys_517 (by decide) (fun c_517 => ?_) (fun c_517 => ?_)
                            · have f_c_517 : ¬ g = 0 := n_ne (by omega) (by omega) c_517
                              obtain rfl : g = 1 := by omega
                              refine g_bipush (v := (nI 116)) X dL_surveys_525 rfl ?_
                              refine g_iload X 2 dL_surveys_527 rfl ?_
                              refine g_iload X 1 dL_surveys_529 rfl ?_
                              refine g_aload_n X 7 dL_surveys_531 rfl ?_
                              refine g_bipush (v := (nI 32)) X dL_surveys_532 rfl ?_
                              refine g_iload X 0 dL_surveys_534 rfl ?_
                              refine g_iaddN X dL_surveys_536 ?_
                              refine g_iald X 42 rfl (32 + ((8 * 1) + (ss3 1))) (ix_nI (by omega) (by decide)) dL_surveys_537 ?_
                              rw [upd_n _ _ (by omega), upd_s]
                              refine g_callS (st2 := []) (S' := [wTS E O, wRd E (O 2) u, wTx E (O 1) (itW w3 116 qa qb 0), wTw E (O 3 0) (O 4) (O 5) (tR v) (tN v), wSv E (O 4) (tA v), wSv E (O 5) (tB v), wTw E (O 6 0) (O 7) (O 8) (tR dv) (tN dv), wSv E (O 7) (tA dv), wSv E (O 8) (tB dv), wSh E (O 11) f, wPo E (O 9) (O 17) 8 oa, wPo E (O 10) (O 18) 2 ok, wAr E ad 48 d2, wAr E ae 54 (upd (upd (upd (upd e3 ((8 * 1) + (ss3 1)) (nI qa)) (16 + ((8 * 1) + (ss3 1))) (nI qb)) (32 + ((8 * 1) + (ss3 1))) (nI 0)) (50 + 1) (nI ((ss3 1) + 1)))]) X (c_L_item E O w3 116 qa qb 0 (Nat.le_of_lt hSK.w) (by first | assumption | omega | exact Nat.zero_le _) (by first | assumption | omega | exact Nat.zero_le _) (by first | assumption | omega | exact Nat.zero_le _)) cs_L_33 rfl [0, 2] [1, 3, 4, 5, 6, 7, 8, 9, 10, 11, 12, 13] 14 rfl rfl (by decide) [wRd E (O 2) u, wTw E (O 3 0) (O 4) (O 5) (tR v) (tN v), wSv E (O 4) (tA v), wSv E (O 5) (tB v), wTw E (O 6 0) (O 7) (O 8) (tR dv) (tN dv), wSv E (O 7) (tA dv), wSv E (O 8) (tB dv), wSh E (O 11) f, wPo E (O 9) (O 17) 8 oa, wPo E (O 10) (O 18) 2 ok, wAr E ad 48 d2, wAr E ae 54 (upd (upd (upd (upd e3 ((8 * 1) + (ss3 1)) (nI qa)) (16 + ((8 * 1) + (ss3 1))) (nI qb)) (32 + ((8 * 1) + (ss3 1))) (nI 0)) (50 + 1) (nI ((ss3 1) + 1)))] rfl rfl rfl rfl (by simp only [List.map_cons, List.map_nil, fsAr, fsPo, fsRd, fsSh, fsSv, fsTS, fsTw, fsTx]) rfl rfl (Nat.le_of_ble_eq_true rfl) dL_surveys_538 rfl ?_
                              refine g_iincN (lv' := [(7, .int (nI (k + 1))), (11, .int (nI ((8 * 1) + (ss3 1)))), (10, .int (nI qb)), (9, .int (nI qa)), (8, .int xr), (0, .ref (O 0 0)), (1, .ref b), (2, .ref ad), (3, .ref ae), (4, .int (celV L xs 0)), (5, .int (nI wd)), (6, .int (nI 1))]) X 11 dL_surveys_541 rfl (by decide) rfl ?_
                              refine g_goto (tgt := 367) X dL_surveys_544 (by decide) ?_
                              refine GG.lv [5, 6, 7, 8, 9, 10, 11, 0] rfl ?_
                              exact ih_367 (k + 1) (itW w3 116 qa qb 0) (upd (upd (upd (upd e3 ((8 * 1) + (ss3 1)) (nI qa)) (16 + ((8 * 1) + (ss3 1))) (nI qb)) (32 + ((8 * 1) + (ss3 1))) (nI 0)) (50 + 1) (nI ((ss3 1) + 1))) (upN ss3 1 (ss3 1 + 1)) (by omega) (by rw [upN_s]; omega) (si_street hSK (g := 1) (by omega) (by omega) (by omega) (by omega) f_c_425 hC s_438) (fun z hz => (jn48 (by omega) (by omega) hz).trans (h48k z hz)) (fun z hz => by rw [upN_n _ _ hz]; exact hl3 z hz) (by omega) (nI (k + 1)) (by rfl)
                            · have f_c_517 : g = 0 := n_eq (by omega) (by omega) c_517
                              obtain rfl : g = 0 := by omega
                              refine g_bipush (v := (nI 115)) X dL_surveys_520 rfl ?_
                              refine g_goto (tgt := 527) X dL_surveys_522 (by decide) ?_
                              refine g_iload X 2 dL_surveys_527 rfl ?_
                              refine g_iload X 1 dL_surveys_529 rfl ?_
                              refine g_aload_n X 7 dL_surveys_531 rfl ?_
                              refine g_bipush (v := (nI 32)) X dL_surveys_532 rfl ?_
                              refine g_iload X 0 dL_surveys_534 rfl ?_
                              refine g_iaddN X dL_surveys_536 ?_
                              refine g_iald X 42 rfl (32 + ((8 * 0) + (ss3 0))) (ix_nI (by omega) (by decide)) dL_surveys_537 ?_
                              rw [upd_n _ _ (by omega), upd_s]
                              refine g_callS (st2 := []) (S' := [wTS E O, wRd E (O 2) u, wTx E (O 1) (itW w3 115 qa qb 0), wTw E (O 3 0) (O 4) (O 5) (tR v) (tN v), wSv E (O 4) (tA v), wSv E (O 5) (tB v), wTw E (O 6 0) (O 7) (O 8) (tR dv) (tN dv), wSv E (O 7) (tA dv), wSv E (O 8) (tB dv), wSh E (O 11) f, wPo E (O 9) (O 17) 8 oa, wPo E (O 10) (O 18) 2 ok, wAr E ad 48 d2, wAr E ae 54 (upd (upd (upd (upd e3 ((8 * 0) + (ss3 0)) (nI qa)) (16 + ((8 * 0) + (ss3 0))) (nI qb)) (32 + ((8 * 0) + (ss3 0))) (nI 0)) (50 + 0) (nI ((ss3 0) + 1)))]) X (c_L_item E O w3 115 qa qb 0 (Nat.le_of_lt hSK.w) (by first | assumption | omega | exact Nat.zero_le _) (by first | assumption | omega | exact Nat.zero_le _) (by first | assumption | omega | exact Nat.zero_le _)) cs_L_33 rfl [0, 2] [1, 3, 4, 5, 6, 7, 8, 9, 10, 11, 12, 13] 14 rfl rfl (by decide) [wRd E (O 2) u, wTw E (O 3 0) (O 4) (O 5) (tR v) (tN v), wSv E (O 4) (tA v), wSv E (O 5) (tB v), wTw E (O 6 0) (O 7) (O 8) (tR dv) (tN dv), wSv E (O 7) (tA dv), wSv E (O 8) (tB dv), wSh E (O 11) f, wPo E (O 9) (O 17) 8 oa, wPo E (O 10) (O 18) 2 ok, wAr E ad 48 d2, wAr E ae 54 (upd (upd (upd (upd e3 ((8 * 0) + (ss3 0)) (nI qa)) (16 + ((8 * 0) + (ss3 0))) (nI qb)) (32 + ((8 * 0) + (ss3 0))) (nI 0)) (50 + 0) (nI ((ss3 0) + 1)))] rfl rfl rfl rfl (by simp only [List.map_cons, List.map_nil, fsAr, fsPo, fsRd, fsSh, fsSv, fsTS, fsTw, fsTx]) rfl rfl (Nat.le_of_ble_eq_true rfl) dL_surveys_538 rfl ?_
                              refine g_iincN (lv' := [(7, .int (nI (k + 1))), (11, .int (nI ((8 * 0) + (ss3 0)))), (10, .int (nI qb)), (9, .int (nI qa)), (8, .int xr), (0, .ref (O 0 0)), (1, .ref b), (2, .ref ad), (3, .ref ae), (4, .int (celV L xs 0)), (5, .int (nI wd)), (6, .int (nI 0))]) X 11 dL_surveys_541 rfl (by decide) rfl ?_
                              refine g_goto (tgt := 367) X dL_surveys_544 (by decide) ?_
                              refine GG.lv [5, 6, 7, 8, 9, 10, 11, 0] rfl ?_
                              exact ih_367 (k + 1) (itW w3 115 qa qb 0) (upd (upd (upd (upd e3 ((8 * 0) + (ss3 0)) (nI qa)) (16 + ((8 * 0) + (ss3 0))) (nI qb)) (32 + ((8 * 0) + (ss3 0))) (nI 0)) (50 + 0) (nI ((ss3 0) + 1))) (upN ss3 0 (ss3 0 + 1)) (by omega) (by rw [upN_s]; omega) (si_street hSK (g := 0) (by omega) (by omega) (by omega) (by omega) f_c_425 hC s_438) (fun z hz => (jn48 (by omega) (by omega) hz).trans (h48k z hz)) (fun z hz => by rw [upN_n _ _ hz]; exact hl3 z hz) (by omega) (nI (k + 1)) (by rfl)
                refine GG.lv [1, 2, 3, 4, 5, 6, 7, 0] rfl ?_
                exact L_367 (7) 0 w2 e2 ss1 (by omega) (Nat.le_of_eq hz.2) (hSJ) (fun _ _ => rfl) (fun _ _ => rfl) (by omega) (nI 0) (by rfl)
              · have f_c_147 : i < n := n_nle (by omega) (by omega) c_147
                have fn_c_147 := Nat.not_le.mpr f_c_147
                refine g_aload_n X 1 dL_surveys_150 rfl ?_
                refine g_iconst (v := (nI 1)) X dL_surveys_151 rfl ?_
                refine g_bipush (v := (nI 6)) X dL_surveys_152 rfl ?_
                refine g_iload X 6 dL_surveys_154 rfl ?_
                refine g_imulN X dL_surveys_156 ?_
                refine g_iaddN X dL_surveys_157 ?_
                refine g_iload X 7 dL_surveys_158 rfl ?_
                refine g_iaddN X dL_surveys_160 ?_
                refine g_callXP (wc := []) (wr := [wTS E O, wRd E (O 2) u, wTx E (O 1) w2, wTw E (O 3 0) (O 4) (O 5) (tR v) (tN v), wSv E (O 4) (tA v), wSv E (O 5) (tB v), wTw E (O 6 0) (O 7) (O 8) (tR dv) (tN dv), wSv E (O 7) (tA dv), wSv E (O 8) (tB dv), wSh E (O 11) f, wPo E (O 9) (O 17) 8 oa, wPo E (O 10) (O 18) 2 ok, wAr E ad 48 d2, wAr E ae 54 e2].flatten) X Z (c_L_cell E b L xs hL ((1 + (6 * g)) + i) (by omega)) cs_L_21 rfl (List.Perm.refl _) rfl rfl (Nat.le_of_ble_eq_true rfl) dL_surveys_161 ⟨Nat.zero_le _, Nat.zero_le _⟩ (fun v0 w0 h0 => ?_)
                obtain ⟨rfl, rfl⟩ := h0
                refine GG.eq (ws' := [wTS E O, wRd E (O 2) u, wTx E (O 1) w2, wTw E (O 3 0) (O 4) (O 5) (tR v) (tN v), wSv E (O 4) (tA v), wSv E (O 5) (tB v), wTw E (O 6 0) (O 7) (O 8) (tR dv) (tN dv), wSv E (O 7) (tA dv), wSv E (O 8) (tB dv), wSh E (O 11) f, wPo E (O 9) (O 17) 8 oa, wPo E (O 10) (O 18) 2 ok, wAr E ad 48 d2, wAr E ae 54 e2].flatten) (st' := [.int (celV L xs ((1 + (6 * g)) + i))]) (List.append_nil _) rfl ?_
                refine g_istore (lv' := [(8, .int (celV L xs ((1 + (6 * g)) + i))), (0, .ref (O 0 0)), (1, .ref b), (2, .ref ad), (3, .ref ae), (4, .int (celV L xs 0)), (5, .int (nI wd)), (6, .int (nI g)), (7, .int (nI i))]) X dL_surveys_164 (by decide) rfl ?_
                obtain ⟨xq, e_xq⟩ : ∃ xq, celV L xs ((1 + (6 * g)) + i) = xq := ⟨_, rfl⟩
                rw [e_xq]
                refine g_bipush (v := (nI 8)) X dL_surveys_166 rfl ?_
                refine g_iload X 7 dL_surveys_168 rfl ?_
                refine g_imulN X dL_surveys_170 ?_
                refine g_iload X 8 dL_surveys_171 rfl ?_
                refine g_iaddN X dL_surveys_173 ?_
                refine g_istore (lv' := [(9, .int (nI ((8 * g) + i))), (8, .int xq), (0, .ref (O 0 0)), (1, .ref b), (2, .ref ad), (3, .ref ae), (4, .int (celV L xs 0)), (5, .int (nI wd)), (6, .int (nI g)), (7, .int (nI i))]) X dL_surveys_174 (by decide) rfl ?_
                refine g_aload_n X 4 dL_surveys_176 rfl ?_
                refine g_iload X 0 dL_surveys_177 rfl ?_
                refine g_iload X 1 dL_surveys_179 rfl ?_
                refine g_iconst (v := (nI 3)) X dL_surveys_181 rfl ?_
                have lb182 := lwN_lt xq (n := 3) (by omega)
                refine g_callSP (st2 := [.int (nI (lwN xq 3)), .int (nI ((8 * g) + i)), .ref ad]) (ws' := [wTS E O, wRd E (O 2) u, wTx E (O 1) w2, wTw E (O 3 0) (O 4) (O 5) (tR v) (tN v), wSv E (O 4) (tA v), wSv E (O 5) (tB v), wTw E (O 6 0) (O 7) (O 8) (tR dv) (tN dv), wSv E (O 7) (tA dv), wSv E (O 8) (tB dv), wSh E (O 11) f, wPo E (O 9) (O 17) 8 oa, wPo E (O 10) (O 18) 2 ok, wAr E ad 48 d2, wAr E ae 54 e2].flatten) (wr := [wTS E O, wRd E (O 2) u, wTx E (O 1) w2, wTw E (O 3 0) (O 4) (O 5) (tR v) (tN v), wSv E (O 4) (tA v), wSv E (O 5) (tB v), wTw E (O 6 0) (O 7) (O 8) (tR dv) (tN dv), wSv E (O 7) (tA dv), wSv E (O 8) (tB dv), wSh E (O 11) f, wPo E (O 9) (O 17) 8 oa, wPo E (O 10) (O 18) 2 ok, wAr E ad 48 d2, wAr E ae 54 e2].flatten) X (c_L_low E xq 3 (by decide) (by decide)) cs_L_25 rfl (List.Perm.refl _) rfl (List.Perm.refl _) rfl rfl (Nat.le_of_ble_eq_true rfl) dL_surveys_182 rfl ?_
                refine g_if_le (tgt := 192) X dL_surveys_185 (by decide) (fun c_185 => ?_) (fun c_185 => ?_)
                · have f_c_185 : lwN xq 3 ≤ 0 := n_le (by omega) (by omega) c_185
                  have fn_c_185 := Nat.not_lt.mpr f_c_185
                  refine g_iload X 1 dL_surveys_192 rfl ?_
                  refine g_iconst (v := (nI 2)) X dL_surveys_194 rfl ?_
                  refine g_ishr X dL_surveys_195 ?_
                  refine g_iconst (v := (nI 4)) X dL_surveys_196 rfl ?_
                  have lb197 := lwN_lt (xq >>> ((nI 2) &&& 31)) (n := 4) (by omega)
                  refine g_callSP (st2 := [.int (nI (lwN (xq >>> ((nI 2) &&& 31)) 4)), .int (nI ((8 * g) + i)), .ref ad]) (ws' := [wTS E O, wRd E (O 2) u, wTx E (O 1) w2, wTw E (O 3 0) (O 4) (O 5) (tR v) (tN v), wSv E (O 4) (tA v), wSv E (O 5) (tB v), wTw E (O 6 0) (O 7) (O 8) (tR dv) (tN dv), wSv E (O 7) (tA dv), wSv E (O 8) (tB dv), wSh E (O 11) f, wPo E (O 9) (O 17) 8 oa, wPo E (O 10) (O 18) 2 ok, wAr E ad 48 d2, wAr E ae 54 e2].flatten) (wr := [wTS E O, wRd E (O 2) u, wTx E (O 1) w2, wTw E (O 3 0) (O 4) (O 5) (tR v) (tN v), wSv E (O 4) (tA v), wSv E (O 5) (tB v), wTw E (O 6 0) (O 7) (O 8) (tR dv) (tN dv), wSv E (O 7) (tA dv), wSv E (O 8) (tB dv), wSh E (O 11) f, wPo E (O 9) (O 17) 8 oa, wPo E (O 10) (O 18) 2 ok, wAr E ad 48 d2, wAr E ae 54 e2].flatten) X (c_L_low E (xq >>> ((nI 2) &&& 31)) 4 (by decide) (by decide)) cs_L_25 rfl (List.Perm.refl _) rfl (List.Perm.refl _) rfl rfl (Nat.le_of_ble_eq_true rfl) dL_surveys_197 rfl ?_
                  have hK : lwN (xq >>> ((nI 2) &&& 31)) 4 ≤ 3 := by have := lwN_lt (xq >>> ((nI 2) &&& 31)) (n := 4) (by omega); omega
                  refine g_iast (ws' := [wTS E O, wRd E (O 2) u, wTx E (O 1) w2, wTw E (O 3 0) (O 4) (O 5) (tR v) (tN v), wSv E (O 4) (tA v), wSv E (O 5) (tB v), wTw E (O 6 0) (O 7) (O 8) (tR dv) (tN dv), wSv E (O 7) (tA dv), wSv E (O 8) (tB dv), wSh E (O 11) f, wPo E (O 9) (O 17) 8 oa, wPo E (O 10) (O 18) 2 ok, wAr E ad 48 (upd d2 ((8 * g) + i) (nI (lwN (xq >>> ((nI 2) &&& 31)) 4))), wAr E ae 54 e2].flatten) X 41 rfl ((8 * g) + i) (ix_nI (by omega) (by decide)) rfl dL_surveys_200 ?_
                  refine g_iload X 8 dL_surveys_201 rfl ?_
                  refine g_iconst (v := (nI 1)) X dL_surveys_203 rfl ?_
                  refine g_icmp_ne (tgt := 231) X dL_surveys_204 (by decide) (fun c_204 => ?_) (fun c_204 => ?_)
                  · have f_c_204 : ¬ g = 1 := n_ne (by omega) (by omega) c_204
                    refine g_iconst (v := (nI 0)) X dL_surveys_231 rfl ?_
                    refine g_istore (lv' := [(10, .int (nI 0)), (9, .int (nI ((8 * g) + i))), (8, .int xq), (0, .ref (O 0 0)), (1, .ref b), (2, .ref ad), (3, .ref ae), (4, .int (celV L xs 0)), (5, .int (nI wd)), (6, .int (nI g)), (7, .int (nI i))]) X dL_surveys_232 (by decide) rfl ?_
                    refine g_aload_n X 5 dL_surveys_234 rfl ?_
                    refine g_bipush (v := (nI 16)) X dL_surveys_235 rfl ?_
                    refine g_iload X 1 dL_surveys_237 rfl ?_
                    refine g_iaddN X dL_surveys_239 ?_
                    refine g_iload X 0 dL_surveys_240 rfl ?_
                    refine g_if_eq (tgt := 268) X dL_surveys_242 (by decide) (fun c_242 => ?_) (fun c_242 => absurd c_242 (by decide))
                    refine g_iload X 2 dL_surveys_268 rfl ?_
                    refine g_bipush (v := (nI 6)) X dL_surveys_270 rfl ?_
                    refine g_ishr X dL_surveys_272 ?_
                    refine g_iload X 8 dL_surveys_273 rfl ?_
                    have lb275 := lwN_lt (xq >>> ((nI 6) &&& 31)) (n := wd) (by omega)
                    refine g_callSP (st2 := [.int (nI (lwN (xq >>> ((nI 6) &&& 31)) wd)), .int (nI (16 + ((8 * g) + i))), .ref ad]) (ws' := [wTS E O, wRd E (O 2) u, wTx E (O 1) w2, wTw E (O 3 0) (O 4) (O 5) (tR v) (tN v), wSv E (O 4) (tA v), wSv E (O 5) (tB v), wTw E (O 6 0) (O 7) (O 8) (tR dv) (tN dv), wSv E (O 7) (tA dv), wSv E (O 8) (tB dv), wSh E (O 11) f, wPo E (O 9) (O 17) 8 oa, wPo E (O 10) (O 18) 2 ok, wAr E ad 48 (upd d2 ((8 * g) + i) (nI (lwN (xq >>> ((nI 2) &&& 31)) 4))), wAr E ae 54 e2].flatten) (wr := [wTS E O, wRd E (O 2) u, wTx E (O 1) w2, wTw E (O 3 0) (O 4) (O 5) (tR v) (tN v), wSv E (O 4) (tA v), wSv E (O 5) (tB v), wTw E (O 6 0) (O 7) (O 8) (tR dv) (tN dv), wSv E (O 7) (tA dv), wSv E (O 8) (tB dv), wSh E (O 11) f, wPo E (O 9) (O 17) 8 oa, wPo E (O 10) (O 18) 2 ok, wAr E ad 48 (upd d2 ((8 * g) + i) (nI (lwN (xq >>> ((nI 2) &&& 31)) 4))), wAr E ae 54 e2].flatten) X (c_L_low E (xq >>> ((nI 6) &&& 31)) wd hwd1 (by omega)) cs_L_25 rfl (List.Perm.refl _) rfl (List.Perm.refl _) rfl rfl (Nat.le_of_ble_eq_true rfl) dL_surveys_275 rfl ?_
                    have hX : lwN (xq >>> ((nI 6) &&& 31)) wd ≤ 60 := by have := lwN_lt (xq >>> ((nI 6) &&& 31)) (n := wd) (by omega); omega
                    refine g_iast (ws' := [wTS E O, wRd E (O 2) u, wTx E (O 1) w2, wTw E (O 3 0) (O 4) (O 5) (tR v) (tN v), wSv E (O 4) (tA v), wSv E (O 5) (tB v), wTw E (O 6 0) (O 7) (O 8) (tR dv) (tN dv), wSv E (O 7) (tA dv), wSv E (O 8) (tB dv), wSh E (O 11) f, wPo E (O 9) (O 17) 8 oa, wPo E (O 10) (O 18) 2 ok, wAr E ad 48 (upd (upd d2 ((8 * g) + i) (nI (lwN (xq >>> ((nI 2) &&& 31)) 4))) (16 + ((8 * g) + i)) (nI (lwN (xq >>> ((nI 6) &&& 31)) wd))), wAr E ae 54 e2].flatten) X 41 rfl (16 + ((8 * g) + i)) (ix_nI (by omega) (by decide)) rfl dL_surveys_278 ?_
                    refine g_aload_n X 5 dL_surveys_279 rfl ?_
                    refine g_bipush (v := (nI 32)) X dL_surveys_280 rfl ?_
                    refine g_iload X 1 dL_surveys_282 rfl ?_
                    refine g_iaddN X dL_surveys_284 ?_
                    refine g_iload X 0 dL_surveys_285 rfl ?_
                    refine g_if_eq (tgt := 313) X dL_surveys_287 (by decide) (fun c_287 => ?_) (fun c_287 => absurd c_287 (by decide))
                    refine g_iload X 2 dL_surveys_313 rfl ?_
                    refine g_bipush (v := (nI 12)) X dL_surveys_315 rfl ?_
                    refine g_ishr X dL_surveys_317 ?_
                    refine g_iload X 8 dL_surveys_318 rfl ?_
                    have lb320 := lwN_lt (xq >>> ((nI 12) &&& 31)) (n := wd) (by omega)
                    refine g_callSP (st2 := [.int (nI (lwN (xq >>> ((nI 12) &&& 31)) wd)), .int (nI (32 + ((8 * g) + i))), .ref ad]) (ws' := [wTS E O, wRd E (O 2) u, wTx E (O 1) w2, wTw E (O 3 0) (O 4) (O 5) (tR v) (tN v), wSv E (O 4) (tA v), wSv E (O 5) (tB v), wTw E (O 6 0) (O 7) (O 8) (tR dv) (tN dv), wSv E (O 7) (tA dv), wSv E (O 8) (tB dv), wSh E (O 11) f, wPo E (O 9) (O 17) 8 oa, wPo E (O 10) (O 18) 2 ok, wAr E ad 48 (upd (upd d2 ((8 * g) + i) (nI (lwN (xq >>> ((nI 2) &&& 31)) 4))) (16 + ((8 * g) + i)) (nI (lwN (xq >>> ((nI 6) &&& 31)) wd))), wAr E ae 54 e2].flatten) (wr := [wTS E O, wRd E (O 2) u, wTx E (O 1) w2, wTw E (O 3 0) (O 4) (O 5) (tR v) (tN v), wSv E (O 4) (tA v), wSv E (O 5) (tB v), wTw E (O 6 0) (O 7) (O 8) (tR dv) (tN dv), wSv E (O 7) (tA dv), wSv E (O 8) (tB dv), wSh E (O 11) f, wPo E (O 9) (O 17) 8 oa, wPo E (O 10) (O 18) 2 ok, wAr E ad 48 (upd (upd d2 ((8 * g) + i) (nI (lwN (xq >>> ((nI 2) &&& 31)) 4))) (16 + ((8 * g) + i)) (nI (lwN (xq >>> ((nI 6) &&& 31)) wd))), wAr E ae 54 e2].flatten) X (c_L_low E (xq >>> ((nI 12) &&& 31)) wd hwd1 (by omega)) cs_L_25 rfl (List.Perm.refl _) rfl (List.Perm.refl _) rfl rfl (Nat.le_of_ble_eq_true rfl) dL_surveys_320 rfl ?_
                    have hY : lwN (xq >>> ((nI 12) &&& 31)) wd ≤ 60 := by have := lwN_lt (xq >>> ((nI 12) &&& 31)) (n := wd) (by omega); omega
                    refine g_iast (ws' := [wTS E O, wRd E (O 2) u, wTx E (O 1) w2, wTw E (O 3 0) (O 4) (O 5) (tR v) (tN v), wSv E (O 4) (tA v), wSv E (O 5) (tB v), wTw E (O 6 0) (O 7) (O 8) (tR dv) (tN dv), wSv E (O 7) (tA dv), wSv E (O 8) (tB dv), wSh E (O 11) f, wPo E (O 9) (O 17) 8 oa, wPo E (O 10) (O 18) 2 ok, wAr E ad 48 (upd (upd (upd d2 ((8 * g) + i) (nI (lwN (xq >>> ((nI 2) &&& 31)) 4))) (16 + ((8 * g) + i)) (nI (lwN (xq >>> ((nI 6) &&& 31)) wd))) (32 + ((8 * g) + i)) (nI (lwN (xq >>> ((nI 12) &&& 31)) wd))), wAr E ae 54 e2].flatten) X 41 rfl (32 + ((8 * g) + i)) (ix_nI (by omega) (by decide)) rfl dL_surveys_323 ?_
                    refine g_aload_n X 3 dL_surveys_324 rfl ?_
                    refine g_iload X 9 dL_surveys_325 rfl ?_
                    refine g_if_ne (tgt := 335) X dL_surveys_327 (by decide) (fun c_327 => absurd (show nI g = 0 by rw [show g = 0 by omega]; rfl) c_327) (fun c_327 => ?_)
                    obtain rfl : g = 0 := by omega
                    refine g_bipush (v := (nI 97)) X dL_surveys_330 rfl ?_
                    refine g_goto (tgt := 337) X dL_surveys_332 (by decide) ?_
                    refine g_aload_n X 5 dL_surveys_337 rfl ?_
                    refine g_iload X 1 dL_surveys_338 rfl ?_
                    refine g_iald X 41 rfl ((8 * 0) + i) (ix_nI (by omega) (by decide)) dL_surveys_340 ?_
                    rw [upd_n _ _ (by omega), upd_n _ _ (by omega), upd_s]
                    refine g_aload_n X 5 dL_surveys_341 rfl ?_
                    refine g_bipush (v := (nI 16)) X dL_surveys_342 rfl ?_
                    refine g_iload X 1 dL_surveys_344 rfl ?_
                    refine g_iaddN X dL_surveys_346 ?_
                    refine g_iald X 41 rfl (16 + ((8 * 0) + i)) (ix_nI (by omega) (by decide)) dL_surveys_347 ?_
                    rw [upd_n _ _ (by omega), upd_s]
                    refine g_aload_n X 5 dL_surveys_348 rfl ?_
                    refine g_bipush (v := (nI 32)) X dL_surveys_349 rfl ?_
                    refine g_iload X 1 dL_surveys_351 rfl ?_
                    refine g_iaddN X dL_surveys_353 ?_
                    refine g_iald X 41 rfl (32 + ((8 * 0) + i)) (ix_nI (by omega) (by decide)) dL_surveys_354 ?_
                    rw [upd_s]
                    refine g_callS (st2 := []) (S' := [wTS E O, wRd E (O 2) u, wTx E (O 1) (itW w2 97 (lwN (xq >>> ((nI 2) &&& 31)) 4) (lwN (xq >>> ((nI 6) &&& 31)) wd) (lwN (xq >>> ((nI 12) &&& 31)) wd)), wTw E (O 3 0) (O 4) (O 5) (tR v) (tN v), wSv E (O 4) (tA v), wSv E (O 5) (tB v), wTw E (O 6 0) (O 7) (O 8) (tR dv) (tN dv), wSv E (O 7) (tA dv), wSv E (O 8) (tB dv), wSh E (O 11) f, wPo E (O 9) (O 17) 8 oa, wPo E (O 10) (O 18) 2 ok, wAr E ad 48 (upd (upd (upd d2 ((8 * 0) + i) (nI (lwN (xq >>> ((nI 2) &&& 31)) 4))) (16 + ((8 * 0) + i)) (nI (lwN (xq >>> ((nI 6) &&& 31)) wd))) (32 + ((8 * 0) + i)) (nI (lwN (xq >>> ((nI 12) &&& 31)) wd))), wAr E ae 54 e2]) X (c_L_item E O w2 97 (lwN (xq >>> ((nI 2) &&& 31)) 4) (lwN (xq >>> ((nI 6) &&& 31)) wd) (lwN (xq >>> ((nI 12) &&& 31)) wd) (Nat.le_of_lt hSJ.w) (by first | assumption | omega | exact Nat.zero_le _) (by first | assumption | omega | exact Nat.zero_le _) (by first | assumption | omega | exact Nat.zero_le _)) cs_L_33 rfl [0, 2] [1, 3, 4, 5, 6, 7, 8, 9, 10, 11, 12, 13] 14 rfl rfl (by decide) [wRd E (O 2) u, wTw E (O 3 0) (O 4) (O 5) (tR v) (tN v), wSv E (O 4) (tA v), wSv E (O 5) (tB v), wTw E (O 6 0) (O 7) (O 8) (tR dv) (tN dv), wSv E (O 7) (tA dv), wSv E (O 8) (tB dv), wSh E (O 11) f, wPo E (O 9) (O 17) 8 oa, wPo E (O 10) (O 18) 2 ok, wAr E ad 48 (upd (upd (upd d2 ((8 * 0) + i) (nI (lwN (xq >>> ((nI 2) &&& 31)) 4))) (16 + ((8 * 0) + i)) (nI (lwN (xq >>> ((nI 6) &&& 31)) wd))) (32 + ((8 * 0) + i)) (nI (lwN (xq >>> ((nI 12) &&& 31)) wd))), wAr E ae 54 e2] rfl rfl rfl rfl (by simp only [List.map_cons, List.map_nil, fsAr, fsPo, fsRd, fsSh, fsSv, fsTS, fsTw, fsTx]) rfl rfl (Nat.le_of_ble_eq_true rfl) dL_surveys_355 rfl ?_
                    refine g_iincN (lv' := [(7, .int (nI (i + 1))), (10, .int (nI 0)), (9, .int (nI ((8 * 0) + i))), (8, .int xq), (0, .ref (O 0 0)), (1, .ref b), (2, .ref ad), (3, .ref ae), (4, .int (celV L xs 0)), (5, .int (nI wd)), (6, .int (nI 0))]) X 10 dL_surveys_358 rfl (by decide) rfl ?_
                    refine g_goto (tgt := 138) X dL_surveys_361 (by decide) ?_
                    refine GG.lv [4, 5, 6, 7, 8, 9, 10, 0] rfl ?_
                    exact ih_138 (i + 1) (itW w2 97 (lwN (xq >>> ((nI 2) &&& 31)) 4) (lwN (xq >>> ((nI 6) &&& 31)) wd) (lwN (xq >>> ((nI 12) &&& 31)) wd)) (upd (upd (upd d2 ((8 * 0) + i) (nI (lwN (xq >>> ((nI 2) &&& 31)) 4))) (16 + ((8 * 0) + i)) (nI (lwN (xq >>> ((nI 6) &&& 31)) wd))) (32 + ((8 * 0) + i)) (nI (lwN (xq >>> ((nI 12) &&& 31)) wd))) (upN mm2 0 (i + 1)) (by omega) (upN_s _ _ _) (by have h := si_meet hSJ (g := 0) (by omega) (by omega) hK hX hY; rw [hmi] at h; exact h) (fun z hz => by rw [upN_n _ _ (by omega)]; exact hl2 z hz) (fun z h1 h2 => by rw [upN_n _ _ (by omega)]; exact hh2 z h1 h2) (by omega) (nI (i + 1)) (by rfl)
                  · have f_c_204 : g = 1 := n_eq (by omega) (by omega) c_204
                    refine g_iload X 9 dL_surveys_207 rfl ?_
                    refine g_aload_n X 5 dL_surveys_209 rfl ?_
                    refine g_bipush (v := (nI 48)) X dL_surveys_210 rfl ?_
                    refine g_iald X 42 rfl 48 (ix_nI (by omega) (by decide)) dL_surveys_212 ?_
                    have hm60 := (hSI.2.2.2.2.2 0 (by decide)).1
                    have h480 : e2 48 = nI (mm1 0) := (hfar 0 (by omega)).trans (hlow 0 (by omega)).2
                    rw [h480]
                    refine g_icmp_ge (tgt := 231) X dL_surveys_213 (by decide) (fun c_213 => ?_) (fun c_213 => ?_)
                    · have f_c_213 : mm1 0 ≤ i := n_le (by omega) (by omega) c_213
                      have fn_c_213 := Nat.not_lt.mpr f_c_213
                      refine g_iconst (v := (nI 0)) X dL_surveys_231 rfl ?_
                      refine g_istore (lv' := [(10, .int (nI 0)), (9, .int (nI ((8 * g) + i))), (8, .int xq), (0, .ref (O 0 0)), (1, .ref b), (2, .ref ad), (3, .ref ae), (4, .int (celV L xs 0)), (5, .int (nI wd)), (6, .int (nI g)), (7, .int (nI i))]) X dL_surveys_232 (by decide) rfl ?_
                      refine g_aload_n X 5 dL_surveys_234 rfl ?_
                      refine g_bipush (v := (nI 16)) X dL_surveys_235 rfl ?_
                      refine g_iload X 1 dL_surveys_237 rfl ?_
                      refine g_iaddN X dL_surveys_239 ?_
                      refine g_iload X 0 dL_surveys_240 rfl ?_
                      refine g_if_eq (tgt := 268) X dL_surveys_242 (by decide) (fun c_242 => ?_) (fun c_242 => absurd c_242 (by decide))
                      refine g_iload X 2 dL_surveys_268 rfl ?_
                      refine g_bipush (v := (nI 6)) X dL_surveys_270 rfl ?_
                      refine g_ishr X dL_surveys_272 ?_
                      refine g_iload X 8 dL_surveys_273 rfl ?_
                      have lb275 := lwN_lt (xq >>> ((nI 6) &&& 31)) (n := wd) (by omega)
                      refine g_callSP (st2 := [.int (nI (lwN (xq >>> ((nI 6) &&& 31)) wd)), .int (nI (16 + ((8 * g) + i))), .ref ad]) (ws' := [wTS E O, wRd E (O 2) u, wTx E (O 1) w2, wTw E (O 3 0) (O 4) (O 5) (tR v) (tN v), wSv E (O 4) (tA v), wSv E (O 5) (tB v), wTw E (O 6 0) (O 7) (O 8) (tR dv) (tN dv), wSv E (O 7) (tA dv), wSv E (O 8) (tB dv), wSh E (O 11) f, wPo E (O 9) (O 17) 8 oa, wPo E (O 10) (O 18) 2 ok, wAr E ad 48 (upd d2 ((8 * g) + i) (nI (lwN (xq >>> ((nI 2) &&& 31)) 4))), wAr E ae 54 e2].flatten) (wr := [wTS E O, wRd E (O 2) u, wTx E (O 1) w2, wTw E (O 3 0) (O 4) (O 5) (tR v) (tN v), wSv E (O 4) (tA v), wSv E (O 5) (tB v), wTw E (O 6 0) (O 7) (O 8) (tR dv) (tN dv), wSv E (O 7) (tA dv), wSv E (O 8) (tB dv), wSh E (O 11) f, wPo E (O 9) (O 17) 8 oa, wPo E (O 10) (O 18) 2 ok, wAr E ad 48 (upd d2 ((8 * g) + i) (nI (lwN (xq >>> ((nI 2) &&& 31)) 4))), wAr E ae 54 e2].flatten) X (c_L_low E (xq >>> ((nI 6) &&& 31)) wd hwd1 (by omega)) cs_L_25 rfl (List.Perm.refl _) rfl (List.Perm.refl _) rfl rfl (Nat.le_of_ble_eq_true rfl) dL_surveys_275 rfl ?_
                      have hX : lwN (xq >>> ((nI 6) &&& 31)) wd ≤ 60 := by have := lwN_lt (xq >>> ((nI 6) &&& 31)) (n := wd) (by omega); omega
                      refine g_iast (ws' := [wTS E O, wRd E (O 2) u, wTx E (O 1) w2, wTw E (O 3 0) (O 4) (O 5) (tR v) (tN v), wSv E (O 4) (tA v), wSv E (O 5) (tB v), wTw E (O 6 0) (O 7) (O 8) (tR dv) (tN dv), wSv E (O 7) (tA dv), wSv E (O 8) (tB dv), wSh E (O 11) f, wPo E (O 9) (O 17) 8 oa, wPo E (O 10) (O 18) 2 ok, wAr E ad 48 (upd (upd d2 ((8 * g) + i) (nI (lwN (xq >>> ((nI 2) &&& 31)) 4))) (16 + ((8 * g) + i)) (nI (lwN (xq >>> ((nI 6) &&& 31)) wd))), wAr E ae 54 e2].flatten) X 41 rfl (16 + ((8 * g) + i)) (ix_nI (by omega) (by decide)) rfl dL_surveys_278 ?_
                      refine g_aload_n X 5 dL_surveys_279 rfl ?_
                      refine g_bipush (v := (nI 32)) X dL_surveys_280 rfl ?_
                      refine g_iload X 1 dL_surveys_282 rfl ?_
                      refine g_iaddN X dL_surveys_284 ?_
                      refine g_iload X 0 dL_surveys_285 rfl ?_
                      refine g_if_eq (tgt := 313) X dL_surveys_287 (by decide) (fun c_287 => ?_) (fun c_287 => absurd c_287 (by decide))
                      refine g_iload X 2 dL_surveys_313 rfl ?_
                      refine g_bipush (v := (nI 12)) X dL_surveys_315 rfl ?_
                      refine g_ishr X dL_surveys_317 ?_
                      refine g_iload X 8 dL_surveys_318 rfl ?_
                      have lb320 := lwN_lt (xq >>> ((nI 12) &&& 31)) (n := wd) (by omega)
                      refine g_callSP (st2 := [.int (nI (lwN (xq >>> ((nI 12) &&& 31)) wd)), .int (nI (32 + ((8 * g) + i))), .ref ad]) (ws' := [wTS E O, wRd E (O 2) u, wTx E (O 1) w2, wTw E (O 3 0) (O 4) (O 5) (tR v) (tN v), wSv E (O 4) (tA v), wSv E (O 5) (tB v), wTw E (O 6 0) (O 7) (O 8) (tR dv) (tN dv), wSv E (O 7) (tA dv), wSv E (O 8) (tB dv), wSh E (O 11) f, wPo E (O 9) (O 17) 8 oa, wPo E (O 10) (O 18) 2 ok, wAr E ad 48 (upd (upd d2 ((8 * g) + i) (nI (lwN (xq >>> ((nI 2) &&& 31)) 4))) (16 + ((8 * g) + i)) (nI (lwN (xq >>> ((nI 6) &&& 31)) wd))), wAr E ae 54 e2].flatten) (wr := [wTS E O, wRd E (O 2) u, wTx E (O 1) w2, wTw E (O 3 0) (O 4) (O 5) (tR v) (tN v), wSv E (O 4) (tA v), wSv E (O 5) (tB v), wTw E (O 6 0) (O 7) (O 8) (tR dv) (tN dv), wSv E (O 7) (tA dv), wSv E (O 8) (tB dv), wSh E (O 11) f, wPo E (O 9) (O 17) 8 oa, wPo E (O 10) (O 18) 2 ok, wAr E ad 48 (upd (upd d2 ((8 * g) + i) (nI (lwN (xq >>> ((nI 2) &&& 31)) 4))) (16 + ((8 * g) + i)) (nI (lwN (xq >>> ((nI 6) &&& 31)) wd))), wAr E ae 54 e2].flatten) X (c_L_low E (xq >>> ((nI 12) &&& 31)) wd hwd1 (by omega)) cs_L_25 rfl (List.Perm.refl _) rfl (List.Perm.refl _) rfl rfl (Nat.le_of_ble_eq_true rfl) dL_surveys_320 rfl ?_
                      have hY : lwN (xq >>> ((nI 12) &&& 31)) wd ≤ 60 := by have := lwN_lt (xq >>> ((nI 12) &&& 31)) (n := wd) (by omega); omega
                      refine g_iast (ws' := [wTS E O, wRd E (O 2) u, wTx E (O 1) w2, wTw E (O 3 0) (O 4) (O 5) (tR v) (tN v), wSv E (O 4) (tA v), wSv E (O 5) (tB v), wTw E (O 6 0) (O 7) (O 8) (tR dv) (tN dv), wSv E (O 7) (tA dv), wSv E (O 8) (tB dv), wSh E (O 11) f, wPo E (O 9) (O 17) 8 oa, wPo E (O 10) (O 18) 2 ok, wAr E ad 48 (upd (upd (upd d2 ((8 * g) + i) (nI (lwN (xq >>> ((nI 2) &&& 31)) 4))) (16 + ((8 * g) + i)) (nI (lwN (xq >>> ((nI 6) &&& 31)) wd))) (32 + ((8 * g) + i)) (nI (lwN (xq >>> ((nI 12) &&& 31)) wd))), wAr E ae 54 e2].flatten) X 41 rfl (32 + ((8 * g) + i)) (ix_nI (by omega) (by decide)) rfl dL_surveys_323 ?_
                      refine g_aload_n X 3 dL_surveys_324 rfl ?_
                      refine g_iload X 9 dL_surveys_325 rfl ?_
                      refine g_if_ne (tgt := 335) X dL_surveys_327 (by decide) (fun c_327 => ?_) (fun c_327 => absurd (show g = 0 from n_eq (by omega) (by omega) c_327) (by omega))
                      obtain rfl : g = 1 := by omega
                      refine g_bipush (v := (nI 98)) X dL_surveys_335 rfl ?_
                      refine g_aload_n X 5 dL_surveys_337 rfl ?_
                      refine g_iload X 1 dL_surveys_338 rfl ?_
                      refine g_iald X 41 rfl ((8 * 1) + i) (ix_nI (by omega) (by decide)) dL_surveys_340 ?_
                      rw [upd_n _ _ (by omega), upd_n _ _ (by omega), upd_s]
                      refine g_aload_n X 5 dL_surveys_341 rfl ?_
                      refine g_bipush (v := (nI 16)) X dL_surveys_342 rfl ?_
                      refine g_iload X 1 dL_surveys_344 rfl ?_
                      refine g_iaddN X dL_surveys_346 ?_
                      refine g_iald X 41 rfl (16 + ((8 * 1) + i)) (ix_nI (by omega) (by decide)) dL_surveys_347 ?_
                      rw [upd_n _ _ (by omega), upd_s]
                      refine g_aload_n X 5 dL_surveys_348 rfl ?_
                      refine g_bipush (v := (nI 32)) X dL_surveys_349 rfl ?_
                      refine g_iload X 1 dL_surveys_351 rfl ?_
                      refine g_iaddN X dL_surveys_353 ?_
                      refine g_iald X 41 rfl (32 + ((8 * 1) + i)) (ix_nI (by omega) (by decide)) dL_surveys_354 ?_
                      rw [upd_s]
                      refine g_callS (st2 := []) (S' := [wTS E O, wRd E (O 2) u, wTx E (O 1) (itW w2 98 (lwN (xq >>> ((nI 2) &&& 31)) 4) (lwN (xq >>> ((nI 6) &&& 31)) wd) (lwN (xq >>> ((nI 12) &&& 31)) wd)), wTw E (O 3 0) (O 4) (O 5) (tR v) (tN v), wSv E (O 4) (tA v), wSv E (O 5) (tB v), wTw E (O 6 0) (O 7) (O 8) (tR dv) (tN dv), wSv E (O 7) (tA dv), wSv E (O 8) (tB dv), wSh E (O 11) f, wPo E (O 9) (O 17) 8 oa, wPo E (O 10) (O 18) 2 ok, wAr E ad 48 (upd (upd (upd d2 ((8 * 1) + i) (nI (lwN (xq >>> ((nI 2) &&& 31)) 4))) (16 + ((8 * 1) + i)) (nI (lwN (xq >>> ((nI 6) &&& 31)) wd))) (32 + ((8 * 1) + i)) (nI (lwN (xq >>> ((nI 12) &&& 31)) wd))), wAr E ae 54 e2]) X (c_L_item E O w2 98 (lwN (xq >>> ((nI 2) &&& 31)) 4) (lwN (xq >>> ((nI 6) &&& 31)) wd) (lwN (xq >>> ((nI 12) &&& 31)) wd) (Nat.le_of_lt hSJ.w) (by first | assumption | omega | exact Nat.zero_le _) (by first | assumption | omega | exact Nat.zero_le _) (by first | assumption | omega | exact Nat.zero_le _)) cs_L_33 rfl [0, 2] [1, 3, 4, 5, 6, 7, 8, 9, 10, 11, 12, 13] 14 rfl rfl (by decide) [wRd E (O 2) u, wTw E (O 3 0) (O 4) (O 5) (tR v) (tN v), wSv E (O 4) (tA v), wSv E (O 5) (tB v), wTw E (O 6 0) (O 7) (O 8) (tR dv) (tN dv), wSv E (O 7) (tA dv), wSv E (O 8) (tB dv), wSh E (O 11) f, wPo E (O 9) (O 17) 8 oa, wPo E (O 10) (O 18) 2 ok, wAr E ad 48 (upd (upd (upd d2 ((8 * 1) + i) (nI (lwN (xq >>> ((nI 2) &&& 31)) 4))) (16 + ((8 * 1) + i)) (nI (lwN (xq >>> ((nI 6) &&& 31)) wd))) (32 + ((8 * 1) + i)) (nI (lwN (xq >>> ((nI 12) &&& 31)) wd))), wAr E ae 54 e2] rfl rfl rfl rfl (by simp only [List.map_cons, List.map_nil, fsAr, fsPo, fsRd, fsSh, fsSv, fsTS, fsTw, fsTx]) rfl rfl (Nat.le_of_ble_eq_true rfl) dL_surveys_355 rfl ?_
                      refine g_iincN (lv' := [(7, .int (nI (i + 1))), (10, .int (nI 0)), (9, .int (nI ((8 * 1) + i))), (8, .int xq), (0, .ref (O 0 0)), (1, .ref b), (2, .ref ad), (3, .ref ae), (4, .int (celV L xs 0)), (5, .int (nI wd)), (6, .int (nI 1))]) X 10 dL_surveys_358 rfl (by decide) rfl ?_
                      refine g_goto (tgt := 138) X dL_surveys_361 (by decide) ?_
                      refine GG.lv [4, 5, 6, 7, 8, 9, 10, 0] rfl ?_
                      exact ih_138 (i + 1) (itW w2 98 (lwN (xq >>> ((nI 2) &&& 31)) 4) (lwN (xq >>> ((nI 6) &&& 31)) wd) (lwN (xq >>> ((nI 12) &&& 31)) wd)) (upd (upd (upd d2 ((8 * 1) + i) (nI (lwN (xq >>> ((nI 2) &&& 31)) 4))) (16 + ((8 * 1) + i)) (nI (lwN (xq >>> ((nI 6) &&& 31)) wd))) (32 + ((8 * 1) + i)) (nI (lwN (xq >>> ((nI 12) &&& 31)) wd))) (upN mm2 1 (i + 1)) (by omega) (upN_s _ _ _) (by have h := si_meet hSJ (g := 1) (by omega) (by omega) hK hX hY; rw [hmi] at h; exact h) (fun z hz => by rw [upN_n _ _ (by omega)]; exact hl2 z hz) (fun z h1 h2 => by rw [upN_n _ _ (by omega)]; exact hh2 z h1 h2) (by omega) (nI (i + 1)) (by rfl)
                    · have f_c_213 : i < mm1 0 := n_nle (by omega) (by omega) c_213
                      have fn_c_213 := Nat.not_le.mpr f_c_213
                      refine g_iload X 1 dL_surveys_216 rfl ?_
                      refine g_iconst (v := (nI 4)) X dL_surveys_218 rfl ?_
                      refine g_ishr X dL_surveys_219 ?_
                      refine g_iconst (v := (nI 3)) X dL_surveys_220 rfl ?_
                      have lb221 := lwN_lt (xq >>> ((nI 4) &&& 31)) (n := 3) (by omega)
                      refine g_callSP (st2 := [.int (nI (lwN (xq >>> ((nI 4) &&& 31)) 3))]) (ws' := [wTS E O, wRd E (O 2) u, wTx E (O 1) w2, wTw E (O 3 0) (O 4) (O 5) (tR v) (tN v), wSv E (O 4) (tA v), wSv E (O 5) (tB v), wTw E (O 6 0) (O 7) (O 8) (tR dv) (tN dv), wSv E (O 7) (tA dv), wSv E (O 8) (tB dv), wSh E (O 11) f, wPo E (O 9) (O 17) 8 oa, wPo E (O 10) (O 18) 2 ok, wAr E ad 48 (upd d2 ((8 * g) + i) (nI (lwN (xq >>> ((nI 2) &&& 31)) 4))), wAr E ae 54 e2].flatten) (wr := [wTS E O, wRd E (O 2) u, wTx E (O 1) w2, wTw E (O 3 0) (O 4) (O 5) (tR v) (tN v), wSv E (O 4) (tA v), wSv E (O 5) (tB v), wTw E (O 6 0) (O 7) (O 8) (tR dv) (tN dv), wSv E (O 7) (tA dv), wSv E (O 8) (tB dv), wSh E (O 11) f, wPo E (O 9) (O 17) 8 oa, wPo E (O 10) (O 18) 2 ok, wAr E ad 48 (upd d2 ((8 * g) + i) (nI (lwN (xq >>> ((nI 2) &&& 31)) 4))), wAr E ae 54 e2].flatten) X (c_L_low E (xq >>> ((nI 4) &&& 31)) 3 (by decide) (by decide)) cs_L_25 rfl (List.Perm.refl _) rfl (List.Perm.refl _) rfl rfl (Nat.le_of_ble_eq_true rfl) dL_surveys_221 rfl ?_
                      refine g_if_le (tgt := 231) X dL_surveys_224 (by decide) (fun c_224 => ?_) (fun c_224 => ?_)
                      · have f_c_224 : lwN (xq >>> ((nI 4) &&& 31)) 3 ≤ 0 := n_le (by omega) (by omega) c_224
                        have fn_c_224 := Nat.not_lt.mpr f_c_224
                        refine g_iconst (v := (nI 0)) X dL_surveys_231 rfl ?_
                        refine g_istore (lv' := [(10, .int (nI 0)), (9, .int (nI ((8 * g) + i))), (8, .int xq), (0, .ref (O 0 0)), (1, .ref b), (2, .ref ad), (3, .ref ae), (4, .int (celV L xs 0)), (5, .int (nI wd)), (6, .int (nI g)), (7, .int (nI i))]) X dL_surveys_232 (by decide) rfl ?_
                        refine g_aload_n X 5 dL_surveys_234 rfl ?_
                        refine g_bipush (v := (nI 16)) X dL_surveys_235 rfl ?_
                        refine g_iload X 1 dL_surveys_237 rfl ?_
                        refine g_iaddN X dL_surveys_239 ?_
                        refine g_iload X 0 dL_surveys_240 rfl ?_
                        refine g_if_eq (tgt := 268) X dL_surveys_242 (by decide) (fun c_242 => ?_) (fun c_242 => absurd c_242 (by decide))
                        refine g_iload X 2 dL_surveys_268 rfl ?_
                        refine g_bipush (v := (nI 6)) X dL_surveys_270 rfl ?_
                        refine g_ishr X dL_surveys_272 ?_
                        refine g_iload X 8 dL_surveys_273 rfl ?_
                        have lb275 := lwN_lt (xq >>> ((nI 6) &&& 31)) (n := wd) (by omega)
                        refine g_callSP (st2 := [.int (nI (lwN (xq >>> ((nI 6) &&& 31)) wd)), .int (nI (16 + ((8 * g) + i))), .ref ad]) (ws' := [wTS E O, wRd E (O 2) u, wTx E (O 1) w2, wTw E (O 3 0) (O 4) (O 5) (tR v) (tN v), wSv E (O 4) (tA v), wSv E (O 5) (tB v), wTw E (O 6 0) (O 7) (O 8) (tR dv) (tN dv), wSv E (O 7) (tA dv), wSv E (O 8) (tB dv), wSh E (O 11) f, wPo E (O 9) (O 17) 8 oa, wPo E (O 10) (O 18) 2 ok, wAr E ad 48 (upd d2 ((8 * g) + i) (nI (lwN (xq >>> ((nI 2) &&& 31)) 4))), wAr E ae 54 e2].flatten) (wr := [wTS E O, wRd E (O 2) u, wTx E (O 1) w2, wTw E (O 3 0) (O 4) (O 5) (tR v) (tN v), wSv E (O 4) (tA v), wSv E (O 5) (tB v), wTw E (O 6 0) (O 7) (O 8) (tR dv) (tN dv), wSv E (O 7) (tA dv), wSv E (O 8) (tB dv), wSh E (O 11) f, wPo E (O 9) (O 17) 8 oa, wPo E (O 10) (O 18) 2 ok, wAr E ad 48 (upd d2 ((8 * g) + i) (nI (lwN (xq >>> ((nI 2) &&& 31)) 4))), wAr E ae 54 e2].flatten) X (c_L_low E (xq >>> ((nI 6) &&& 31)) wd hwd1 (by omega)) cs_L_25 rfl (List.Perm.refl _) rfl (List.Perm.refl _) rfl rfl (Nat.le_of_ble_eq_true rfl) dL_surveys_275 rfl ?_
                        have hX : lwN (xq >>> ((nI 6) &&& 31)) wd ≤ 60 := by have := lwN_lt (xq >>> ((nI 6) &&& 31)) (n := wd) (by omega); omega
                        refine g_iast (ws' := [wTS E O, wRd E (O 2) u, wTx E (O 1) w2, wTw E (O 3 0) (O 4) (O 5) (tR v) (tN v), wSv E (O 4) (tA v), wSv E (O 5) (tB v), wTw E (O 6 0) (O 7) (O 8) (tR dv) (tN dv), wSv E (O 7) (tA dv), wSv E (O 8) (tB dv), wSh E (O 11) f, wPo E (O 9) (O 17) 8 oa, wPo E (O 10) (O 18) 2 ok, wAr E ad 48 (upd (upd d2 ((8 * g) + i) (nI (lwN (xq >>> ((nI 2) &&& 31)) 4))) (16 + ((8 * g) + i)) (nI (lwN (xq >>> ((nI 6) &&& 31)) wd))), wAr E ae 54 e2].flatten) X 41 rfl (16 + ((8 * g) + i)) (ix_nI (by omega) (by decide)) rfl dL_surveys_278 ?_
                        refine g_aload_n X 5 dL_surveys_279 rfl ?_
                        refine g_bipush (v := (nI 32)) X dL_surveys_280 rfl ?_
                        refine g_iload X 1 dL_surveys_282 rfl ?_
                        refine g_iaddN X dL_surveys_284 ?_
                        refine g_iload X 0 dL_surveys_285 rfl ?_
                        refine g_if_eq (tgt := 313) X dL_surveys_287 (by decide) (fun c_287 => ?_) (fun c_287 => absurd c_287 (by decide))
                        refine g_iload X 2 dL_surveys_313 rfl ?_
                        refine g_bipush (v := (nI 12)) X dL_surveys_315 rfl ?_
                        refine g_ishr X dL_surveys_317 ?_
                        refine g_iload X 8 dL_surveys_318 rfl ?_
                        have lb320 := lwN_lt (xq >>> ((nI 12) &&& 31)) (n := wd) (by omega)
                        refine g_callSP (st2 := [.int (nI (lwN (xq >>> ((nI 12) &&& 31)) wd)), .int (nI (32 + ((8 * g) + i))), .ref ad]) (ws' := [wTS E O, wRd E (O 2) u, wTx E (O 1) w2, wTw E (O 3 0) (O 4) (O 5) (tR v) (tN v), wSv E (O 4) (tA v), wSv E (O 5) (tB v), wTw E (O 6 0) (O 7) (O 8) (tR dv) (tN dv), wSv E (O 7) (tA dv), wSv E (O 8) (tB dv), wSh E (O 11) f, wPo E (O 9) (O 17) 8 oa, wPo E (O 10) (O 18) 2 ok, wAr E ad 48 (upd (upd d2 ((8 * g) + i) (nI (lwN (xq >>> ((nI 2) &&& 31)) 4))) (16 + ((8 * g) + i)) (nI (lwN (xq >>> ((nI 6) &&& 31)) wd))), wAr E ae 54 e2].flatten) (wr := [wTS E O, wRd E (O 2) u, wTx E (O 1) w2, wTw E (O 3 0) (O 4) (O 5) (tR v) (tN v), wSv E (O 4) (tA v), wSv E (O 5) (tB v), wTw E (O 6 0) (O 7) (O 8) (tR dv) (tN dv), wSv E (O 7) (tA dv), wSv E (O 8) (tB dv), wSh E (O 11) f, wPo E (O 9) (O 17) 8 oa, wPo E (O 10) (O 18) 2 ok, wAr E ad 48 (upd (upd d2 ((8 * g) + i) (nI (lwN (xq >>> ((nI 2) &&& 31)) 4))) (16 + ((8 * g) + i)) (nI (lwN (xq >>> ((nI 6) &&& 31)) wd))), wAr E ae 54 e2].flatten) X (c_L_low E (xq >>> ((nI 12) &&& 31)) wd hwd1 (by omega)) cs_L_25 rfl (List.Perm.refl _) rfl (List.Perm.refl _) rfl rfl (Nat.le_of_ble_eq_true rfl) dL_surveys_320 rfl ?_
                        have hY : lwN (xq >>> ((nI 12) &&& 31)) wd ≤ 60 := by have := lwN_lt (xq >>> ((nI 12) &&& 31)) (n := wd) (by omega); omega
                        refine g_iast (ws' := [wTS E O, wRd E (O 2) u, wTx E (O 1) w2, wTw E (O 3 0) (O 4) (O 5) (tR v) (tN v), wSv E (O 4) (tA v), wSv E (O 5) (tB v), wTw E (O 6 0) (O 7) (O 8) (tR dv) (tN dv), wSv E (O 7) (tA dv), wSv E (O 8) (tB dv), wSh E (O 11) f, wPo E (O 9) (O 17) 8 oa, wPo E (O 10) (O 18) 2 ok, wAr E ad 48 (upd (upd (upd d2 ((8 * g) + i) (nI (lwN (xq >>> ((nI 2) &&& 31)) 4))) (16 + ((8 * g) + i)) (nI (lwN (xq >>> ((nI 6) &&& 31)) wd))) (32 + ((8 * g) + i)) (nI (lwN (xq >>> ((nI 12) &&& 31)) wd))), wAr E ae 54 e2].flatten) X 41 rfl (32 + ((8 * g) + i)) (ix_nI (by omega) (by decide)) rfl dL_surveys_323 ?_
                        refine g_aload_n X 3 dL_surveys_324 rfl ?_
                        refine g_iload X 9 dL_surveys_325 rfl ?_
                        refine g_if_ne (tgt := 335) X dL_surveys_327 (by decide) (fun c_327 => ?_) (fun c_327 => absurd (show g = 0 from n_eq (by omega) (by omega) c_327) (by omega))
                        obtain rfl : g = 1 := by omega
                        refine g_bipush (v := (nI 98)) X dL_surveys_335 rfl ?_
                        refine g_aload_n X 5 dL_surveys_337 rfl ?_
                        refine g_iload X 1 dL_surveys_338 rfl ?_
                        refine g_iald X 41 rfl ((8 * 1) + i) (ix_nI (by omega) (by decide)) dL_surveys_340 ?_
                        rw [upd_n _ _ (by omega), upd_n _ _ (by omega), upd_s]
                        refine g_aload_n X 5 dL_surveys_341 rfl ?_
                        refine g_bipush (v := (nI 16)) X dL_surveys_342 rfl ?_
                        refine g_iload X 1 dL_surveys_344 rfl ?_
                        refine g_iaddN X dL_surveys_346 ?_
                        refine g_iald X 41 rfl (16 + ((8 * 1) + i)) (ix_nI (by omega) (by decide)) dL_surveys_347 ?_
                        rw [upd_n _ _ (by omega), upd_s]
                        refine g_aload_n X 5 dL_surveys_348 rfl ?_
                        refine g_bipush (v := (nI 32)) X dL_surveys_349 rfl ?_
                        refine g_iload X 1 dL_surveys_351 rfl ?_
                        refine g_iaddN X dL_surveys_353 ?_
                        refine g_iald X 41 rfl (32 + ((8 * 1) + i)) (ix_nI (by omega) (by decide)) dL_surveys_354 ?_
                        rw [upd_s]
                        refine g_callS (st2 := []) (S' := [wTS E O, wRd E (O 2) u, wTx E (O 1) (itW w2 98 (lwN (xq >>> ((nI 2) &&& 31)) 4) (lwN (xq >>> ((nI 6) &&& 31)) wd) (lwN (xq >>> ((nI 12) &&& 31)) wd)), wTw E (O 3 0) (O 4) (O 5) (tR v) (tN v), wSv E (O 4) (tA v), wSv E (O 5) (tB v), wTw E (O 6 0) (O 7) (O 8) (tR dv) (tN dv), wSv E (O 7) (tA dv), wSv E (O 8) (tB dv), wSh E (O 11) f, wPo E (O 9) (O 17) 8 oa, wPo E (O 10) (O 18) 2 ok, wAr E ad 48 (upd (upd (upd d2 ((8 * 1) + i) (nI (lwN (xq >>> ((nI 2) &&& 31)) 4))) (16 + ((8 * 1) + i)) (nI (lwN (xq >>> ((nI 6) &&& 31)) wd))) (32 + ((8 * 1) + i)) (nI (lwN (xq >>> ((nI 12) &&& 31)) wd))), wAr E ae 54 e2]) X (c_L_item E O w2 98 (lwN (xq >>> ((nI 2) &&& 31)) 4) (lwN (xq >>> ((nI 6) &&& 31)) wd) (lwN (xq >>> ((nI 12) &&& 31)) wd) (Nat.le_of_lt hSJ.w) (by first | assumption | omega | exact Nat.zero_le _) (by first | assumption | omega | exact Nat.zero_le _) (by first | assumption | omega | exact Nat.zero_le _)) cs_L_33 rfl [0, 2] [1, 3, 4, 5, 6, 7, 8, 9, 10, 11, 12, 13] 14 rfl rfl (by decide) [wRd E (O 2) u, wTw E (O 3 0) (O 4) (O 5) (tR v) (tN v), wSv E (O 4) (tA v), wSv E (O 5) (tB v), wTw E (O 6 0) (O 7) (O 8) (tR dv) (tN dv), wSv E (O 7) (tA dv), wSv E (O 8) (tB dv), wSh E (O 11) f, wPo E (O 9) (O 17) 8 oa, wPo E (O 10) (O 18) 2 ok, wAr E ad 48 (upd (upd (upd d2 ((8 * 1) + i) (nI (lwN (xq >>> ((nI 2) &&& 31)) 4))) (16 + ((8 * 1) + i)) (nI (lwN (xq >>> ((nI 6) &&& 31)) wd))) (32 + ((8 * 1) + i)) (nI (lwN (xq >>> ((nI 12) &&& 31)) wd))), wAr E ae 54 e2] rfl rfl rfl rfl (by simp only [List.map_cons, List.map_nil, fsAr, fsPo, fsRd, fsSh, fsSv, fsTS, fsTw, fsTx]) rfl rfl (Nat.le_of_ble_eq_true rfl) dL_surveys_355 rfl ?_
                        refine g_iincN (lv' := [(7, .int (nI (i + 1))), (10, .int (nI 0)), (9, .int (nI ((8 * 1) + i))), (8, .int xq), (0, .ref (O 0 0)), (1, .ref b), (2, .ref ad), (3, .ref ae), (4, .int (celV L xs 0)), (5, .int (nI wd)), (6, .int (nI 1))]) X 10 dL_surveys_358 rfl (by decide) rfl ?_
                        refine g_goto (tgt := 138) X dL_surveys_361 (by decide) ?_
                        refine GG.lv [4, 5, 6, 7, 8, 9, 10, 0] rfl ?_
                        exact ih_138 (i + 1) (itW w2 98 (lwN (xq >>> ((nI 2) &&& 31)) 4) (lwN (xq >>> ((nI 6) &&& 31)) wd) (lwN (xq >>> ((nI 12) &&& 31)) wd)) (upd (upd (upd d2 ((8 * 1) + i) (nI (lwN (xq >>> ((nI 2) &&& 31)) 4))) (16 + ((8 * 1) + i)) (nI (lwN (xq >>> ((nI 6) &&& 31)) wd))) (32 + ((8 * 1) + i)) (nI (lwN (xq >>> ((nI 12) &&& 31)) wd))) (upN mm2 1 (i + 1)) (by omega) (upN_s _ _ _) (by have h := si_meet hSJ (g := 1) (by omega) (by omega) hK hX hY; rw [hmi] at h; exact h) (fun z hz => by rw [upN_n _ _ (by omega)]; exact hl2 z hz) (fun z h1 h2 => by rw [upN_n _ _ (by omega)]; exact hh2 z h1 h2) (by omega) (nI (i + 1)) (by rfl)
                      · have f_c_224 : 0 < lwN (xq >>> ((nI 4) &&& 31)) 3 := n_nle (by omega) (by omega) c_224
                        have fn_c_224 := Nat.not_le.mpr f_c_224
                        refine g_iconst (v := (nI 1)) X dL_surveys_227 rfl ?_
                        refine g_goto (tgt := 232) X dL_surveys_228 (by decide) ?_
                        refine g_istore (lv' := [(10, .int (nI 1)), (9, .int (nI ((8 * g) + i))), (8, .int xq), (0, .ref (O 0 0)), (1, .ref b), (2, .ref ad), (3, .ref ae), (4, .int (celV L xs 0)), (5, .int (nI wd)), (6, .int (nI g)), (7, .int (nI i))]) X dL_surveys_232 (by decide) rfl ?_
                        refine g_aload_n X 5 dL_surveys_234 rfl ?_
                        refine g_bipush (v := (nI 16)) X dL_surveys_235 rfl ?_
                        refine g_iload X 1 dL_surveys_237 rfl ?_
                        refine g_iaddN X dL_surveys_239 ?_
                        refine g_iload X 0 dL_surveys_240 rfl ?_
                        refine g_if_eq (tgt := 268) X dL_surveys_242 (by decide) (fun c_242 => absurd c_242 (by decide)) (fun c_242 => ?_)
                        refine g_aload_n X 5 dL_surveys_245 rfl ?_
                        refine g_bipush (v := (nI 16)) X dL_surveys_246 rfl ?_
                        refine g_iload X 10 dL_surveys_248 rfl ?_
                        refine g_iaddN X dL_surveys_250 ?_
                        refine g_iald X 41 rfl (16 + i) (ix_nI (by omega) (by decide)) dL_surveys_251 ?_
                        rw [upd_n _ _ (by omega)]
                        obtain ⟨x0, hx0, ex0⟩ := (hSJ.2.1 i (by omega)).2.1
                        rw [ex0]
                        refine g_iload X 2 dL_surveys_252 rfl ?_
                        refine g_bipush (v := (nI 6)) X dL_surveys_254 rfl ?_
                        refine g_ishr X dL_surveys_256 ?_
                        refine g_iconst (v := (nI 5)) X dL_surveys_257 rfl ?_
                        have lb258 := lwN_lt (xq >>> ((nI 6) &&& 31)) (n := 5) (by omega)
                        refine g_callSP (st2 := [.int (nI (lwN (xq >>> ((nI 6) &&& 31)) 5)), .int (nI x0), .int (nI (16 + ((8 * g) + i))), .ref ad]) (ws' := [wTS E O, wRd E (O 2) u, wTx E (O 1) w2, wTw E (O 3 0) (O 4) (O 5) (tR v) (tN v), wSv E (O 4) (tA v), wSv E (O 5) (tB v), wTw E (O 6 0) (O 7) (O 8) (tR dv) (tN dv), wSv E (O 7) (tA dv), wSv E (O 8) (tB dv), wSh E (O 11) f, wPo E (O 9) (O 17) 8 oa, wPo E (O 10) (O 18) 2 ok, wAr E ad 48 (upd d2 ((8 * g) + i) (nI (lwN (xq >>> ((nI 2) &&& 31)) 4))), wAr E ae 54 e2].flatten) (wr := [wTS E O, wRd E (O 2) u, wTx E (O 1) w2, wTw E (O 3 0) (O 4) (O 5) (tR v) (tN v), wSv E (O 4) (tA v), wSv E (O 5) (tB v), wTw E (O 6 0) (O 7) (O 8) (tR dv) (tN dv), wSv E (O 7) (tA dv), wSv E (O 8) (tB dv), wSh E (O 11) f, wPo E (O 9) (O 17) 8 oa, wPo E (O 10) (O 18) 2 ok, wAr E ad 48 (upd d2 ((8 * g) + i) (nI (lwN (xq >>> ((nI 2) &&& 31)) 4))), wAr E ae 54 e2].flatten) X (c_L_low E (xq >>> ((nI 6) &&& 31)) 5 (by decide) (by decide)) cs_L_25 rfl (List.Perm.refl _) rfl (List.Perm.refl _) rfl rfl (Nat.le_of_ble_eq_true rfl) dL_surveys_258 rfl ?_
                        refine g_iaddN X dL_surveys_261 ?_
                        refine g_bipush (v := (nI 61)) X dL_surveys_262 rfl ?_
                        have l5x := lwN_lt (xq >>> (nI 6 &&& 31)) (n := 5) (by decide)
                        refine g_iremN X (by omega) (by omega) (by omega) dL_surveys_264 ?_
                        refine g_goto (tgt := 278) X dL_surveys_265 (by decide) ?_
                        have hX : (x0 + (lwN (xq >>> ((nI 6) &&& 31)) 5)) % 61 ≤ 60 := by omega
                        refine g_iast (ws' := [wTS E O, wRd E (O 2) u, wTx E (O 1) w2, wTw E (O 3 0) (O 4) (O 5) (tR v) (tN v), wSv E (O 4) (tA v), wSv E (O 5) (tB v), wTw E (O 6 0) (O 7) (O 8) (tR dv) (tN dv), wSv E (O 7) (tA dv), wSv E (O 8) (tB dv), wSh E (O 11) f, wPo E (O 9) (O 17) 8 oa, wPo E (O 10) (O 18) 2 ok, wAr E ad 48 (upd (upd d2 ((8 * g) + i) (nI (lwN (xq >>> ((nI 2) &&& 31)) 4))) (16 + ((8 * g) + i)) (nI ((x0 + (lwN (xq >>> ((nI 6) &&& 31)) 5)) % 61))), wAr E ae 54 e2].flatten) X 41 rfl (16 + ((8 * g) + i)) (ix_nI (by omega) (by decide)) rfl dL_surveys_278 ?_
                        refine g_aload_n X 5 dL_surveys_279 rfl ?_
                        refine g_bipush (v := (nI 32)) X dL_surveys_280 rfl ?_
                        refine g_iload X 1 dL_surveys_282 rfl ?_
                        refine g_iaddN X dL_surveys_284 ?_
                        refine g_iload X 0 dL_surveys_285 rfl ?_
                        refine g_if_eq (tgt := 313) X dL_surveys_287 (by decide) (fun c_287 => absurd c_287 (by decide)) (fun c_287 => ?_)
                        refine g_aload_n X 5 dL_surveys_290 rfl ?_
                        refine g_bipush (v := (nI 32)) X dL_surveys_291 rfl ?_
                        refine g_iload X 10 dL_surveys_293 rfl ?_
                        refine g_iaddN X dL_surveys_295 ?_
                        refine g_iald X 41 rfl (32 + i) (ix_nI (by omega) (by decide)) dL_surveys_296 ?_
                        rw [upd_n _ _ (by omega), upd_n _ _ (by omega)]
                        obtain ⟨y0, hy0, ey0⟩ := (hSJ.2.1 i (by omega)).2.2
                        rw [ey0]
                        refine g_iload X 2 dL_surveys_297 rfl ?_
                        refine g_bipush (v := (nI 12)) X dL_surveys_299 rfl ?_
                        refine g_ishr X dL_surveys_301 ?_
                        refine g_iconst (v := (nI 5)) X dL_surveys_302 rfl ?_
                        have lb303 := lwN_lt (xq >>> ((nI 12) &&& 31)) (n := 5) (by omega)
                        refine g_callSP (st2 := [.int (nI (lwN (xq >>> ((nI 12) &&& 31)) 5)), .int (nI y0), .int (nI (32 + ((8 * g) + i))), .ref ad]) (ws' := [wTS E O, wRd E (O 2) u, wTx E (O 1) w2, wTw E (O 3 0) (O 4) (O 5) (tR v) (tN v), wSv E (O 4) (tA v), wSv E (O 5) (tB v), wTw E (O 6 0) (O 7) (O 8) (tR dv) (tN dv), wSv E (O 7) (tA dv), wSv E (O 8) (tB dv), wSh E (O 11) f, wPo E (O 9) (O 17) 8 oa, wPo E (O 10) (O 18) 2 ok, wAr E ad 48 (upd (upd d2 ((8 * g) + i) (nI (lwN (xq >>> ((nI 2) &&& 31)) 4))) (16 + ((8 * g) + i)) (nI ((x0 + (lwN (xq >>> ((nI 6) &&& 31)) 5)) % 61))), wAr E ae 54 e2].flatten) (wr := [wTS E O, wRd E (O 2) u, wTx E (O 1) w2, wTw E (O 3 0) (O 4) (O 5) (tR v) (tN v), wSv E (O 4) (tA v), wSv E (O 5) (tB v), wTw E (O 6 0) (O 7) (O 8) (tR dv) (tN dv), wSv E (O 7) (tA dv), wSv E (O 8) (tB dv), wSh E (O 11) f, wPo E (O 9) (O 17) 8 oa, wPo E (O 10) (O 18) 2 ok, wAr E ad 48 (upd (upd d2 ((8 * g) + i) (nI (lwN (xq >>> ((nI 2) &&& 31)) 4))) (16 + ((8 * g) + i)) (nI ((x0 + (lwN (xq >>> ((nI 6) &&& 31)) 5)) % 61))), wAr E ae 54 e2].flatten) X (c_L_low E (xq >>> ((nI 12) &&& 31)) 5 (by decide) (by decide)) cs_L_25 rfl (List.Perm.refl _) rfl (List.Perm.refl _) rfl rfl (Nat.le_of_ble_eq_true rfl) dL_surveys_303 rfl ?_
                        refine g_iaddN X dL_surveys_306 ?_
                        refine g_bipush (v := (nI 61)) X dL_surveys_307 rfl ?_
                        have l5y := lwN_lt (xq >>> (nI 12 &&& 31)) (n := 5) (by decide)
                        refine g_iremN X (by omega) (by omega) (by omega) dL_surveys_309 ?_
                        refine g_goto (tgt := 323) X dL_surveys_310 (by decide) ?_
                        have hY : (y0 + (lwN (xq >>> ((nI 12) &&& 31)) 5)) % 61 ≤ 60 := by omega
                        refine g_iast (ws' := [wTS E O, wRd E (O 2) u, wTx E (O 1) w2, wTw E (O 3 0) (O 4) (O 5) (tR v) (tN v), wSv E (O 4) (tA v), wSv E (O 5) (tB v), wTw E (O 6 0) (O 7) (O 8) (tR dv) (tN dv), wSv E (O 7) (tA dv), wSv E (O 8) (tB dv), wSh E (O 11) f, wPo E (O 9) (O 17) 8 oa, wPo E (O 10) (O 18) 2 ok, wAr E ad 48 (upd (upd (upd d2 ((8 * g) + i) (nI (lwN (xq >>> ((nI 2) &&& 31)) 4))) (16 + ((8 * g) + i)) (nI ((x0 + (lwN (xq >>> ((nI 6) &&& 31)) 5)) % 61))) (32 + ((8 * g) + i)) (nI ((y0 + (lwN (xq >>> ((nI 12) &&& 31)) 5)) % 61))), wAr E ae 54 e2].flatten) X 41 rfl (32 + ((8 * g) + i)) (ix_nI (by omega) (by decide)) rfl dL_surveys_323 ?_
                        refine g_aload_n X 3 dL_surveys_324 rfl ?_
                        refine g_iload X 9 dL_surveys_325 rfl ?_
                        refine g_if_ne (tgt := 335) X dL_surveys_327 (by decide) (fun c_327 => ?_) (fun c_327 => absurd (show g = 0 from n_eq (by omega) (by omega) c_327) (by omega))
                        obtain rfl : g = 1 := by omega
                        refine g_bipush (v := (nI 98)) X dL_surveys_335 rfl ?_
                        refine g_aload_n X 5 dL_surveys_337 rfl ?_
                        refine g_iload X 1 dL_surveys_338 rfl ?_
                        refine g_iald X 41 rfl ((8 * 1) + i) (ix_nI (by omega) (by decide)) dL_surveys_340 ?_
                        rw [upd_n _ _ (by omega), upd_n _ _ (by omega), upd_s]
                        refine g_aload_n X 5 dL_surveys_341 rfl ?_
                        refine g_bipush (v := (nI 16)) X dL_surveys_342 rfl ?_
                        refine g_iload X 1 dL_surveys_344 rfl ?_
                        refine g_iaddN X dL_surveys_346 ?_
                        refine g_iald X 41 rfl (16 + ((8 * 1) + i)) (ix_nI (by omega) (by decide)) dL_surveys_347 ?_
                        rw [upd_n _ _ (by omega), upd_s]
                        refine g_aload_n X 5 dL_surveys_348 rfl ?_
                        refine g_bipush (v := (nI 32)) X dL_surveys_349 rfl ?_
                        refine g_iload X 1 dL_surveys_351 rfl ?_
                        refine g_iaddN X dL_surveys_353 ?_
                        refine g_iald X 41 rfl (32 + ((8 * 1) + i)) (ix_nI (by omega) (by decide)) dL_surveys_354 ?_
                        rw [upd_s]
                        refine g_callS (st2 := []) (S' := [wTS E O, wRd E (O 2) u, wTx E (O 1) (itW w2 98 (lwN (xq >>> ((nI 2) &&& 31)) 4) ((x0 + (lwN (xq >>> ((nI 6) &&& 31)) 5)) % 61) ((y0 + (lwN (xq >>> ((nI 12) &&& 31)) 5)) % 61)), wTw E (O 3 0) (O 4) (O 5) (tR v) (tN v), wSv E (O 4) (tA v), wSv E (O 5) (tB v), wTw E (O 6 0) (O 7) (O 8) (tR dv) (tN dv), wSv E (O 7) (tA dv), wSv E (O 8) (tB dv), wSh E (O 11) f, wPo E (O 9) (O 17) 8 oa, wPo E (O 10) (O 18) 2 ok, wAr E ad 48 (upd (upd (upd d2 ((8 * 1) + i) (nI (lwN (xq >>> ((nI 2) &&& 31)) 4))) (16 + ((8 * 1) + i)) (nI ((x0 + (lwN (xq >>> ((nI 6) &&& 31)) 5)) % 61))) (32 + ((8 * 1) + i)) (nI ((y0 + (lwN (xq >>> ((nI 12) &&& 31)) 5)) % 61))), wAr E ae 54 e2]) X (c_L_item E O w2 98 (lwN (xq >>> ((nI 2) &&& 31)) 4) ((x0 + (lwN (xq >>> ((nI 6) &&& 31)) 5)) % 61) ((y0 + (lwN (xq >>> ((nI 12) &&& 31)) 5)) % 61) (Nat.le_of_lt hSJ.w) (by first | assumption | omega | exact Nat.zero_le _) (by first | assumption | omega | exact Nat.zero_le _) (by first | assumption | omega | exact Nat.zero_le _)) cs_L_33 rfl [0, 2] [1, 3, 4, 5, 6, 7, 8, 9, 10, 11, 12, 13] 14 rfl rfl (by decide) [wRd E (O 2) u, wTw E (O 3 0) (O 4) (O 5) (tR v) (tN v), wSv E (O 4) (tA v), wSv E (O 5) (tB v), wTw E (O 6 0) (O 7) (O 8) (tR dv) (tN dv), wSv E (O 7) (tA dv), wSv E (O 8) (tB dv), wSh E (O 11) f, wPo E (O 9) (O 17) 8 oa, wPo E (O 10) (O 18) 2 ok, wAr E ad 48 (upd (upd (upd d2 ((8 * 1) + i) (nI (lwN (xq >>> ((nI 2) &&& 31)) 4))) (16 + ((8 * 1) + i)) (nI ((x0 + (lwN (xq >>> ((nI 6) &&& 31)) 5)) % 61))) (32 + ((8 * 1) + i)) (nI ((y0 + (lwN (xq >>> ((nI 12) &&& 31)) 5)) % 61))), wAr E ae 54 e2] rfl rfl rfl rfl (by simp only [List.map_cons, List.map_nil, fsAr, fsPo, fsRd, fsSh, fsSv, fsTS, fsTw, fsTx]) rfl rfl (Nat.le_of_ble_eq_true rfl) dL_surveys_355 rfl ?_
                        refine g_iincN (lv' := [(7, .int (nI (i + 1))), (10, .int (nI 1)), (9, .int (nI ((8 * 1) + i))), (8, .int xq), (0, .ref (O 0 0)), (1, .ref b), (2, .ref ad), (3, .ref ae), (4, .int (celV L xs 0)), (5, .int (nI wd)), (6, .int (nI 1))]) X 10 dL_surveys_358 rfl (by decide) rfl ?_
                        refine g_goto (tgt := 138) X dL_surveys_361 (by decide) ?_
                        refine GG.lv [4, 5, 6, 7, 8, 9, 10, 0] rfl ?_
                        exact ih_138 (i + 1) (itW w2 98 (lwN (xq >>> ((nI 2) &&& 31)) 4) ((x0 + (lwN (xq >>> ((nI 6) &&& 31)) 5)) % 61) ((y0 + (lwN (xq >>> ((nI 12) &&& 31)) 5)) % 61)) (upd (upd (upd d2 ((8 * 1) + i) (nI (lwN (xq >>> ((nI 2) &&& 31)) 4))) (16 + ((8 * 1) + i)) (nI ((x0 + (lwN (xq >>> ((nI 6) &&& 31)) 5)) % 61))) (32 + ((8 * 1) + i)) (nI ((y0 + (lwN (xq >>> ((nI 12) &&& 31)) 5)) % 61))) (upN mm2 1 (i + 1)) (by omega) (upN_s _ _ _) (by have h := si_meet hSJ (g := 1) (by omega) (by omega) hK hX hY; rw [hmi] at h; exact h) (fun z hz => by rw [upN_n _ _ (by omega)]; exact hl2 z hz) (fun z h1 h2 => by rw [upN_n _ _ (by omega)]; exact hh2 z h1 h2) (by omega) (nI (i + 1)) (by rfl)
                · have f_c_185 : 0 < lwN xq 3 := n_nle (by omega) (by omega) c_185
                  have fn_c_185 := Nat.not_le.mpr f_c_185
                  refine g_iconst (v := (nI 0)) X dL_surveys_188 rfl ?_
                  refine g_goto (tgt := 200) X dL_surveys_189 (by decide) ?_
                  have hK : 0 ≤ 3 := by omega
                  refine g_iast (ws' := [wTS E O, wRd E (O 2) u, wTx E (O 1) w2, wTw E (O 3 0) (O 4) (O 5) (tR v) (tN v), wSv E (O 4) (tA v), wSv E (O 5) (tB v), wTw E (O 6 0) (O 7) (O 8) (tR dv) (tN dv), wSv E (O 7) (tA dv), wSv E (O 8) (tB dv), wSh E (O 11) f, wPo E (O 9) (O 17) 8 oa, wPo E (O 10) (O 18) 2 ok, wAr E ad 48 (upd d2 ((8 * g) + i) (nI 0)), wAr E ae 54 e2].flatten) X 41 rfl ((8 * g) + i) (ix_nI (by omega) (by decide)) rfl dL_surveys_200 ?_
                  refine g_iload X 8 dL_surveys_201 rfl ?_
                  refine g_iconst (v := (nI 1)) X dL_surveys_203 rfl ?_
                  refine g_icmp_ne (tgt := 231) X dL_surveys_204 (by decide) (fun c_204 => ?_) (fun c_204 => ?_)
                  · have f_c_204 : ¬ g = 1 := n_ne (by omega) (by omega) c_204
                    refine g_iconst (v := (nI 0)) X dL_surveys_231 rfl ?_
                    refine g_istore (lv' := [(10, .int (nI 0)), (9, .int (nI ((8 * g) + i))), (8, .int xq), (0, .ref (O 0 0)), (1, .ref b), (2, .ref ad), (3, .ref ae), (4, .int (celV L xs 0)), (5, .int (nI wd)), (6, .int (nI g)), (7, .int (nI i))]) X dL_surveys_232 (by decide) rfl ?_
                    refine g_aload_n X 5 dL_surveys_234 rfl ?_
                    refine g_bipush (v := (nI 16)) X dL_surveys_235 rfl ?_
                    refine g_iload X 1 dL_surveys_237 rfl ?_
                    refine g_iaddN X dL_surveys_239 ?_
                    refine g_iload X 0 dL_surveys_240 rfl ?_
                    refine g_if_eq (tgt := 268) X dL_surveys_242 (by decide) (fun c_242 => ?_) (fun c_242 => absurd c_242 (by decide))
                    refine g_iload X 2 dL_surveys_268 rfl ?_
                    refine g_bipush (v := (nI 6)) X dL_surveys_270 rfl ?_
                    refine g_ishr X dL_surveys_272 ?_
                    refine g_iload X 8 dL_surveys_273 rfl ?_
                    have lb275 := lwN_lt (xq >>> ((nI 6) &&& 31)) (n := wd) (by omega)
                    refine g_callSP (st2 := [.int (nI (lwN (xq >>> ((nI 6) &&& 31)) wd)), .int (nI (16 + ((8 * g) + i))), .ref ad]) (ws' := [wTS E O, wRd E (O 2) u, wTx E (O 1) w2, wTw E (O 3 0) (O 4) (O 5) (tR v) (tN v), wSv E (O 4) (tA v), wSv E (O 5) (tB v), wTw E (O 6 0) (O 7) (O 8) (tR dv) (tN dv), wSv E (O 7) (tA dv), wSv E (O 8) (tB dv), wSh E (O 11) f, wPo E (O 9) (O 17) 8 oa, wPo E (O 10) (O 18) 2 ok, wAr E ad 48 (upd d2 ((8 * g) + i) (nI 0)), wAr E ae 54 e2].flatten) (wr := [wTS E O, wRd E (O 2) u, wTx E (O 1) w2, wTw E (O 3 0) (O 4) (O 5) (tR v) (tN v), wSv E (O 4) (tA v), wSv E (O 5) (tB v), wTw E (O 6 0) (O 7) (O 8) (tR dv) (tN dv), wSv E (O 7) (tA dv), wSv E (O 8) (tB dv), wSh E (O 11) f, wPo E (O 9) (O 17) 8 oa, wPo E (O 10) (O 18) 2 ok, wAr E ad 48 (upd d2 ((8 * g) + i) (nI 0)), wAr E ae 54 e2].flatten) X (c_L_low E (xq >>> ((nI 6) &&& 31)) wd hwd1 (by omega)) cs_L_25 rfl (List.Perm.refl _) rfl (List.Perm.refl _) rfl rfl (Nat.le_of_ble_eq_true rfl) dL_surveys_275 rfl ?_
                    have hX : lwN (xq >>> ((nI 6) &&& 31)) wd ≤ 60 := by have := lwN_lt (xq >>> ((nI 6) &&& 31)) (n := wd) (by omega); omega
                    refine g_iast (ws' := [wTS E O, wRd E (O 2) u, wTx E (O 1) w2, wTw E (O 3 0) (O 4) (O 5) (tR v) (tN v), wSv E (O 4) (tA v), wSv E (O 5) (tB v), wTw E (O 6 0) (O 7) (O 8) (tR dv) (tN dv), wSv E (O 7) (tA dv), wSv E (O 8) (tB dv), wSh E (O 11) f, wPo E (O 9) (O 17) 8 oa, wPo E (O 10) (O 18) 2 ok, wAr E ad 48 (upd (upd d2 ((8 * g) + i) (nI 0)) (16 + ((8 * g) + i)) (nI (lwN (xq >>> ((nI 6) &&& 31)) wd))), wAr E ae 54 e2].flatten) X 41 rfl (16 + ((8 * g) + i)) (ix_nI (by omega) (by decide)) rfl dL_surveys_278 ?_
                    refine g_aload_n X 5 dL_surveys_279 rfl ?_
                    refine g_bipush (v := (nI 32)) X dL_surveys_280 rfl ?_
                    refine g_iload X 1 dL_surveys_282 rfl ?_
                    refine g_iaddN X dL_surveys_284 ?_
                    refine g_iload X 0 dL_surveys_285 rfl ?_
                    refine g_if_eq (tgt := 313) X dL_surveys_287 (by decide) (fun c_287 => ?_) (fun c_287 => absurd c_287 (by decide))
                    refine g_iload X 2 dL_surveys_313 rfl ?_
                    refine g_bipush (v := (nI 12)) X dL_surveys_315 rfl ?_
                    refine g_ishr X dL_surveys_317 ?_
                    refine g_iload X 8 dL_surveys_318 rfl ?_
                    have lb320 := lwN_lt (xq >>> ((nI 12) &&& 31)) (n := wd) (by omega)
                    refine g_callSP (st2 := [.int (nI (lwN (xq >>> ((nI 12) &&& 31)) wd)), .int (nI (32 + ((8 * g) + i))), .ref ad]) (ws' := [wTS E O, wRd E (O 2) u, wTx E (O 1) w2, wTw E (O 3 0) (O 4) (O 5) (tR v) (tN v), wSv E (O 4) (tA v), wSv E (O 5) (tB v), wTw E (O 6 0) (O 7) (O 8) (tR dv) (tN dv), wSv E (O 7) (tA dv), wSv E (O 8) (tB dv), wSh E (O 11) f, wPo E (O 9) (O 17) 8 oa, wPo E (O 10) (O 18) 2 ok, wAr E ad 48 (upd (upd d2 ((8 * g) + i) (nI 0)) (16 + ((8 * g) + i)) (nI (lwN (xq >>> ((nI 6) &&& 31)) wd))), wAr E ae 54 e2].flatten) (wr := [wTS E O, wRd E (O 2) u, wTx E (O 1) w2, wTw E (O 3 0) (O 4) (O 5) (tR v) (tN v), wSv E (O 4) (tA v), wSv E (O 5) (tB v), wTw E (O 6 0) (O 7) (O 8) (tR dv) (tN dv), wSv E (O 7) (tA dv), wSv E (O 8) (tB dv), wSh E (O 11) f, wPo E (O 9) (O 17) 8 oa, wPo E (O 10) (O 18) 2 ok, wAr E ad 48 (upd (upd d2 ((8 * g) + i) (nI 0)) (16 + ((8 * g) + i)) (nI (lwN (xq >>> ((nI 6) &&& 31)) wd))), wAr E ae 54 e2].flatten) X (c_L_low E (xq >>> ((nI 12) &&& 31)) wd hwd1 (by omega)) cs_L_25 rfl (List.Perm.refl _) rfl (List.Perm.refl _) rfl rfl (Nat.le_of_ble_eq_true rfl) dL_surveys_320 rfl ?_
                    have hY : lwN (xq >>> ((nI 12) &&& 31)) wd ≤ 60 := by have := lwN_lt (xq >>> ((nI 12) &&& 31)) (n := wd) (by omega); omega
                    refine g_iast (ws' := [wTS E O, wRd E (O 2) u, wTx E (O 1) w2, wTw E (O 3 0) (O 4) (O 5) (tR v) (tN v), wSv E (O 4) (tA v), wSv E (O 5) (tB v), wTw E (O 6 0) (O 7) (O 8) (tR dv) (tN dv), wSv E (O 7) (tA dv), wSv E (O 8) (tB dv), wSh E (O 11) f, wPo E (O 9) (O 17) 8 oa, wPo E (O 10) (O 18) 2 ok, wAr E ad 48 (upd (upd (upd d2 ((8 * g) + i) (nI 0)) (16 + ((8 * g) + i)) (nI (lwN (xq >>> ((nI 6) &&& 31)) wd))) (32 + ((8 * g) + i)) (nI (lwN (xq >>> ((nI 12) &&& 31)) wd))), wAr E ae 54 e2].flatten) X 41 rfl (32 + ((8 * g) + i)) (ix_nI (by omega) (by decide)) rfl dL_surveys_323 ?_
                    refine g_aload_n X 3 dL_surveys_324 rfl ?_
                    refine g_iload X 9 dL_surveys_325 rfl ?_
                    refine g_if_ne (tgt := 335) X dL_surveys_327 (by decide) (fun c_327 => absurd (show nI g = 0 by rw [show g = 0 by omega]; rfl) c_327) (fun c_327 => ?_)
                    obtain rfl : g = 0 := by omega
                    refine g_bipush (v := (nI 97)) X dL_surveys_330 rfl ?_
                    refine g_goto (tgt := 337) X dL_surveys_332 (by decide) ?_
                    refine g_aload_n X 5 dL_surveys_337 rfl ?_
                    refine g_iload X 1 dL_surveys_338 rfl ?_
                    refine g_iald X 41 rfl ((8 * 0) + i) (ix_nI (by omega) (by decide)) dL_surveys_340 ?_
                    rw [upd_n _ _ (by omega), upd_n _ _ (by omega), upd_s]
                    refine g_aload_n X 5 dL_surveys_341 rfl ?_
                    refine g_bipush (v := (nI 16)) X dL_surveys_342 rfl ?_
                    refine g_iload X 1 dL_surveys_344 rfl ?_
                    refine g_iaddN X dL_surveys_346 ?_
                    refine g_iald X 41 rfl (16 + ((8 * 0) + i)) (ix_nI (by omega) (by decide)) dL_surveys_347 ?_
                    rw [upd_n _ _ (by omega), upd_s]
                    refine g_aload_n X 5 dL_surveys_348 rfl ?_
                    refine g_bipush (v := (nI 32)) X dL_surveys_349 rfl ?_
                    refine g_iload X 1 dL_surveys_351 rfl ?_
                    refine g_iaddN X dL_surveys_353 ?_
                    refine g_iald X 41 rfl (32 + ((8 * 0) + i)) (ix_nI (by omega) (by decide)) dL_surveys_354 ?_
                    rw [upd_s]
                    refine g_callS (st2 := []) (S' := [wTS E O, wRd E (O 2) u, wTx E (O 1) (itW w2 97 0 (lwN (xq >>> ((nI 6) &&& 31)) wd) (lwN (xq >>> ((nI 12) &&& 31)) wd)), wTw E (O 3 0) (O 4) (O 5) (tR v) (tN v), wSv E (O 4) (tA v), wSv E (O 5) (tB v), wTw E (O 6 0) (O 7) (O 8) (tR dv) (tN dv), wSv E (O 7) (tA dv), wSv E (O 8) (tB dv), wSh E (O 11) f, wPo E (O 9) (O 17) 8 oa, wPo E (O 10) (O 18) 2 ok, wAr E ad 48 (upd (upd (upd d2 ((8 * 0) + i) (nI 0)) (16 + ((8 * 0) + i)) (nI (lwN (xq >>> ((nI 6) &&& 31)) wd))) (32 + ((8 * 0) + i)) (nI (lwN (xq >>> ((nI 12) &&& 31)) wd))), wAr E ae 54 e2]) X (c_L_item E O w2 97 0 (lwN (xq >>> ((nI 6) &&& 31)) wd) (lwN (xq >>> ((nI 12) &&& 31)) wd) (Nat.le_of_lt hSJ.w) (by first | assumption | omega | exact Nat.zero_le _) (by first | assumption | omega | exact Nat.zero_le _) (by first | assumption | omega | exact Nat.zero_le _)) cs_L_33 rfl [0, 2] [1, 3, 4, 5, 6, 7, 8, 9, 10, 11, 12, 13] 14 rfl rfl (by decide) [wRd E (O 2) u, wTw E (O 3 0) (O 4) (O 5) (tR v) (tN v), wSv E (O 4) (tA v), wSv E (O 5) (tB v), wTw E (O 6 0) (O 7) (O 8) (tR dv) (tN dv), wSv E (O 7) (tA dv), wSv E (O 8) (tB dv), wSh E (O 11) f, wPo E (O 9) (O 17) 8 oa, wPo E (O 10) (O 18) 2 ok, wAr E ad 48 (upd (upd (upd d2 ((8 * 0) + i) (nI 0)) (16 + ((8 * 0) + i)) (nI (lwN (xq >>> ((nI 6) &&& 31)) wd))) (32 + ((8 * 0) + i)) (nI (lwN (xq >>> ((nI 12) &&& 31)) wd))), wAr E ae 54 e2] rfl rfl rfl rfl (by simp only [List.map_cons, List.map_nil, fsAr, fsPo, fsRd, fsSh, fsSv, fsTS, fsTw, fsTx]) rfl rfl (Nat.le_of_ble_eq_true rfl) dL_surveys_355 rfl ?_
                    refine g_iincN (lv' := [(7, .int (nI (i + 1))), (10, .int (nI 0)), (9, .int (nI ((8 * 0) + i))), (8, .int xq), (0, .ref (O 0 0)), (1, .ref b), (2, .ref ad), (3, .ref ae), (4, .int (celV L xs 0)), (5, .int (nI wd)), (6, .int (nI 0))]) X 10 dL_surveys_358 rfl (by decide) rfl ?_
                    refine g_goto (tgt := 138) X dL_surveys_361 (by decide) ?_
                    refine GG.lv [4, 5, 6, 7, 8, 9, 10, 0] rfl ?_
                    exact ih_138 (i + 1) (itW w2 97 0 (lwN (xq >>> ((nI 6) &&& 31)) wd) (lwN (xq >>> ((nI 12) &&& 31)) wd)) (upd (upd (upd d2 ((8 * 0) + i) (nI 0)) (16 + ((8 * 0) + i)) (nI (lwN (xq >>> ((nI 6) &&& 31)) wd))) (32 + ((8 * 0) + i)) (nI (lwN (xq >>> ((nI 12) &&& 31)) wd))) (upN mm2 0 (i + 1)) (by omega) (upN_s _ _ _) (by have h := si_meet hSJ (g := 0) (by omega) (by omega) hK hX hY; rw [hmi] at h; exact h) (fun z hz => by rw [upN_n _ _ (by omega)]; exact hl2 z hz) (fun z h1 h2 => by rw [upN_n _ _ (by omega)]; exact hh2 z h1 h2) (by omega) (nI (i + 1)) (by rfl)
                  · have f_c_204 : g = 1 := n_eq (by omega) (by omega) c_204
                    refine g_iload X 9 dL_surveys_207 rfl ?_
                    refine g_aload_n X 5 dL_surveys_209 rfl ?_
                    refine g_bipush (v := (nI 48)) X dL_surveys_210 rfl ?_
                    refine g_iald X 42 rfl 48 (ix_nI (by omega) (by decide)) dL_surveys_212 ?_
                    have hm60 := (hSI.2.2.2.2.2 0 (by decide)).1
                    have h480 : e2 48 = nI (mm1 0) := (hfar 0 (by omega)).trans (hlow 0 (by omega)).2
                    rw [h480]
                    refine g_icmp_ge (tgt := 231) X dL_surveys_213 (by decide) (fun c_213 => ?_) (fun c_213 => ?_)
                    · have f_c_213 : mm1 0 ≤ i := n_le (by omega) (by omega) c_213
                      have fn_c_213 := Nat.not_lt.mpr f_c_213
                      refine g_iconst (v := (nI 0)) X dL_surveys_231 rfl ?_
                      refine g_istore (lv' := [(10, .int (nI 0)), (9, .int (nI ((8 * g) + i))), (8, .int xq), (0, .ref (O 0 0)), (1, .ref b), (2, .ref ad), (3, .ref ae), (4, .int (celV L xs 0)), (5, .int (nI wd)), (6, .int (nI g)), (7, .int (nI i))]) X dL_surveys_232 (by decide) rfl ?_
                      refine g_aload_n X 5 dL_surveys_234 rfl ?_
                      refine g_bipush (v := (nI 16)) X dL_surveys_235 rfl ?_
                      refine g_iload X 1 dL_surveys_237 rfl ?_
                      refine g_iaddN X dL_surveys_239 ?_
                      refine g_iload X 0 dL_surveys_240 rfl ?_
                      refine g_if_eq (tgt := 268) X dL_surveys_242 (by decide) (fun c_242 => ?_) (fun c_242 => absurd c_242 (by decide))
                      refine g_iload X 2 dL_surveys_268 rfl ?_
                      refine g_bipush (v := (nI 6)) X dL_surveys_270 rfl ?_
                      refine g_ishr X dL_surveys_272 ?_
                      refine g_iload X 8 dL_surveys_273 rfl ?_
                      have lb275 := lwN_lt (xq >>> ((nI 6) &&& 31)) (n := wd) (by omega)
                      refine g_callSP (st2 := [.int (nI (lwN (xq >>> ((nI 6) &&& 31)) wd)), .int (nI (16 + ((8 * g) + i))), .ref ad]) (ws' := [wTS E O, wRd E (O 2) u, wTx E (O 1) w2, wTw E (O 3 0) (O 4) (O 5) (tR v) (tN v), wSv E (O 4) (tA v), wSv E (O 5) (tB v), wTw E (O 6 0) (O 7) (O 8) (tR dv) (tN dv), wSv E (O 7) (tA dv), wSv E (O 8) (tB dv), wSh E (O 11) f, wPo E (O 9) (O 17) 8 oa, wPo E (O 10) (O 18) 2 ok, wAr E ad 48 (upd d2 ((8 * g) + i) (nI 0)), wAr E ae 54 e2].flatten) (wr := [wTS E O, wRd E (O 2) u, wTx E (O 1) w2, wTw E (O 3 0) (O 4) (O 5) (tR v) (tN v), wSv E (O 4) (tA v), wSv E (O 5) (tB v), wTw E (O 6 0) (O 7) (O 8) (tR dv) (tN dv), wSv E (O 7) (tA dv), wSv E (O 8) (tB dv), wSh E (O 11) f, wPo E (O 9) (O 17) 8 oa, wPo E (O 10) (O 18) 2 ok, wAr E ad 48 (upd d2 ((8 * g) + i) (nI 0)), wAr E ae 54 e2].flatten) X (c_L_low E (xq >>> ((nI 6) &&& 31)) wd hwd1 (by omega)) cs_L_25 rfl (List.Perm.refl _) rfl (List.Perm.refl _) rfl rfl (Nat.le_of_ble_eq_true rfl) dL_surveys_275 rfl ?_
                      have hX : lwN (xq >>> ((nI 6) &&& 31)) wd ≤ 60 := by have := lwN_lt (xq >>> ((nI 6) &&& 31)) (n := wd) (by omega); omega
                      refine g_iast (ws' := [wTS E O, wRd E (O 2) u, wTx E (O 1) w2, wTw E (O 3 0) (O 4) (O 5) (tR v) (tN v), wSv E (O 4) (tA v), wSv E (O 5) (tB v), wTw E (O 6 0) (O 7) (O 8) (tR dv) (tN dv), wSv E (O 7) (tA dv), wSv E (O 8) (tB dv), wSh E (O 11) f, wPo E (O 9) (O 17) 8 oa, wPo E (O 10) (O 18) 2 ok, wAr E ad 48 (upd (upd d2 ((8 * g) + i) (nI 0)) (16 + ((8 * g) + i)) (nI (lwN (xq >>> ((nI 6) &&& 31)) wd))), wAr E ae 54 e2].flatten) X 41 rfl (16 + ((8 * g) + i)) (ix_nI (by omega) (by decide)) rfl dL_surveys_278 ?_
                      refine g_aload_n X 5 dL_surveys_279 rfl ?_
                      refine g_bipush (v := (nI 32)) X dL_surveys_280 rfl ?_
                      refine g_iload X 1 dL_surveys_282 rfl ?_
                      refine g_iaddN X dL_surveys_284 ?_
                      refine g_iload X 0 dL_surveys_285 rfl ?_
                      refine g_if_eq (tgt := 313) X dL_surveys_287 (by decide) (fun c_287 => ?_) (fun c_287 => absurd c_287 (by decide))
                      refine g_iload X 2 dL_surveys_313 rfl ?_
                      refine g_bipush (v := (nI 12)) X dL_surveys_315 rfl ?_
                      refine g_ishr X dL_surveys_317 ?_
                      refine g_iload X 8 dL_surveys_318 rfl ?_
                      have lb320 := lwN_lt (xq >>> ((nI 12) &&& 31)) (n := wd) (by omega)
                      refine g_callSP (st2 := [.int (nI (lwN (xq >>> ((nI 12) &&& 31)) wd)), .int (nI (32 + ((8 * g) + i))), .ref ad]) (ws' := [wTS E O, wRd E (O 2) u, wTx E (O 1) w2, wTw E (O 3 0) (O 4) (O 5) (tR v) (tN v), wSv E (O 4) (tA v), wSv E (O 5) (tB v), wTw E (O 6 0) (O 7) (O 8) (tR dv) (tN dv), wSv E (O 7) (tA dv), wSv E (O 8) (tB dv), wSh E (O 11) f, wPo E (O 9) (O 17) 8 oa, wPo E (O 10) (O 18) 2 ok, wAr E ad 48 (upd (upd d2 ((8 * g) + i) (nI 0)) (16 + ((8 * g) + i)) (nI (lwN (xq >>> ((nI 6) &&& 31)) wd))), wAr E ae 54 e2].flatten) (wr := [wTS E O, wRd E (O 2) u, wTx E (O 1) w2, wTw E (O 3 0) (O 4) (O 5) (tR v) (tN v), wSv E (O 4) (tA v), wSv E (O 5) (tB v), wTw E (O 6 0) (O 7) (O 8) (tR dv) (tN dv), wSv E (O 7) (tA dv), wSv E (O 8) (tB dv), wSh E (O 11) f, wPo E (O 9) (O 17) 8 oa, wPo E (O 10) (O 18) 2 ok, wAr E ad 48 (upd (upd d2 ((8 * g) + i) (nI 0)) (16 + ((8 * g) + i)) (nI (lwN (xq >>> ((nI 6) &&& 31)) wd))), wAr E ae 54 e2].flatten) X (c_L_low E (xq >>> ((nI 12) &&& 31)) wd hwd1 (by omega)) cs_L_25 rfl (List.Perm.refl _) rfl (List.Perm.refl _) rfl rfl (Nat.le_of_ble_eq_true rfl) dL_surveys_320 rfl ?_
                      have hY : lwN (xq >>> ((nI 12) &&& 31)) wd ≤ 60 := by have := lwN_lt (xq >>> ((nI 12) &&& 31)) (n := wd) (by omega); omega
                      refine g_iast (ws' := [wTS E O, wRd E (O 2) u, wTx E (O 1) w2, wTw E (O 3 0) (O 4) (O 5) (tR v) (tN v), wSv E (O 4) (tA v), wSv E (O 5) (tB v), wTw E (O 6 0) (O 7) (O 8) (tR dv) (tN dv), wSv E (O 7) (tA dv), wSv E (O 8) (tB dv), wSh E (O 11) f, wPo E (O 9) (O 17) 8 oa, wPo E (O 10) (O 18) 2 ok, wAr E ad 48 (upd (upd (upd d2 ((8 * g) + i) (nI 0)) (16 + ((8 * g) + i)) (nI (lwN (xq >>> ((nI 6) &&& 31)) wd))) (32 + ((8 * g) + i)) (nI (lwN (xq >>> ((nI 12) &&& 31)) wd))), wAr E ae 54 e2].flatten) X 41 rfl (32 + ((8 * g) + i)) (ix_nI (by omega) (by decide)) rfl dL_surveys_323 ?_
                      refine g_aload_n X 3 dL_surveys_324 rfl ?_
                      refine g_iload X 9 dL_surveys_325 rfl ?_
                      refine g_if_ne (tgt := 335) X dL_surveys_327 (by decide) (fun c_327 => ?_) (fun c_327 => absurd (show g = 0 from n_eq (by omega) (by omega) c_327) (by omega))
                      obtain rfl : g = 1 := by omega
                      refine g_bipush (v := (nI 98)) X dL_surveys_335 rfl ?_
                      refine g_aload_n X 5 dL_surveys_337 rfl ?_
                      refine g_iload X 1 dL_surveys_338 rfl ?_
                      refine g_iald X 41 rfl ((8 * 1) + i) (ix_nI (by omega) (by decide)) dL_surveys_340 ?_
                      rw [upd_n _ _ (by omega), upd_n _ _ (by omega), upd_s]
                      refine g_aload_n X 5 dL_surveys_341 rfl ?_
                      refine g_bipush (v := (nI 16)) X dL_surveys_342 rfl ?_
                      refine g_iload X 1 dL_surveys_344 rfl ?_
                      refine g_iaddN X dL_surveys_346 ?_
                      refine g_iald X 41 rfl (16 + ((8 * 1) + i)) (ix_nI (by omega) (by decide)) dL_surveys_347 ?_
                      rw [upd_n _ _ (by omega), upd_s]
                      refine g_aload_n X 5 dL_surveys_348 rfl ?_
                      refine g_bipush (v := (nI 32)) X dL_surveys_349 rfl ?_
                      refine g_iload X 1 dL_surveys_351 rfl ?_
                      refine g_iaddN X dL_surveys_353 ?_
                      refine g_iald X 41 rfl (32 + ((8 * 1) + i)) (ix_nI (by omega) (by decide)) dL_surveys_354 ?_
                      rw [upd_s]
                      refine g_callS (st2 := []) (S' := [wTS E O, wRd E (O 2) u, wTx E (O 1) (itW w2 98 0 (lwN (xq >>> ((nI 6) &&& 31)) wd) (lwN (xq >>> ((nI 12) &&& 31)) wd)), wTw E (O 3 0) (O 4) (O 5) (tR v) (tN v), wSv E (O 4) (tA v), wSv E (O 5) (tB v), wTw E (O 6 0) (O 7) (O 8) (tR dv) (tN dv), wSv E (O 7) (tA dv), wSv E (O 8) (tB dv), wSh E (O 11) f, wPo E (O 9) (O 17) 8 oa, wPo E (O 10) (O 18) 2 ok, wAr E ad 48 (upd (upd (upd d2 ((8 * 1) + i) (nI 0)) (16 + ((8 * 1) + i)) (nI (lwN (xq >>> ((nI 6) &&& 31)) wd))) (32 + ((8 * 1) + i)) (nI (lwN (xq >>> ((nI 12) &&& 31)) wd))), wAr E ae 54 e2]) X (c_L_item E O w2 98 0 (lwN (xq >>> ((nI 6) &&& 31)) wd) (lwN (xq >>> ((nI 12) &&& 31)) wd) (Nat.le_of_lt hSJ.w) (by first | assumption | omega | exact Nat.zero_le _) (by first | assumption | omega | exact Nat.zero_le _) (by first | assumption | omega | exact Nat.zero_le _)) cs_L_33 rfl [0, 2] [1, 3, 4, 5, 6, 7, 8, 9, 10, 11, 12, 13] 14 rfl rfl (by decide) [wRd E (O 2) u, wTw E (O 3 0) (O 4) (O 5) (tR v) (tN v), wSv E (O 4) (tA v), wSv E (O 5) (tB v), wTw E (O 6 0) (O 7) (O 8) (tR dv) (tN dv), wSv E (O 7) (tA dv), wSv E (O 8) (tB dv), wSh E (O 11) f, wPo E (O 9) (O 17) 8 oa, wPo E (O 10) (O 18) 2 ok, wAr E ad 48 (upd (upd (upd d2 ((8 * 1) + i) (nI 0)) (16 + ((8 * 1) + i)) (nI (lwN (xq >>> ((nI 6) &&& 31)) wd))) (32 + ((8 * 1) + i)) (nI (lwN (xq >>> ((nI 12) &&& 31)) wd))), wAr E ae 54 e2] rfl rfl rfl rfl (by simp only [List.map_cons, List.map_nil, fsAr, fsPo, fsRd, fsSh, fsSv, fsTS, fsTw, fsTx]) rfl rfl (Nat.le_of_ble_eq_true rfl) dL_surveys_355 rfl ?_
                      refine g_iincN (lv' := [(7, .int (nI (i + 1))), (10, .int (nI 0)), (9, .int (nI ((8 * 1) + i))), (8, .int xq), (0, .ref (O 0 0)), (1, .ref b), (2, .ref ad), (3, .ref ae), (4, .int (celV L xs 0)), (5, .int (nI wd)), (6, .int (nI 1))]) X 10 dL_surveys_358 rfl (by decide) rfl ?_
                      refine g_goto (tgt := 138) X dL_surveys_361 (by decide) ?_
                      refine GG.lv [4, 5, 6, 7, 8, 9, 10, 0] rfl ?_
                      exact ih_138 (i + 1) (itW w2 98 0 (lwN (xq >>> ((nI 6) &&& 31)) wd) (lwN (xq >>> ((nI 12) &&& 31)) wd)) (upd (upd (upd d2 ((8 * 1) + i) (nI 0)) (16 + ((8 * 1) + i)) (nI (lwN (xq >>> ((nI 6) &&& 31)) wd))) (32 + ((8 * 1) + i)) (nI (lwN (xq >>> ((nI 12) &&& 31)) wd))) (upN mm2 1 (i + 1)) (by omega) (upN_s _ _ _) (by have h := si_meet hSJ (g := 1) (by omega) (by omega) hK hX hY; rw [hmi] at h; exact h) (fun z hz => by rw [upN_n _ _ (by omega)]; exact hl2 z hz) (fun z h1 h2 => by rw [upN_n _ _ (by omega)]; exact hh2 z h1 h2) (by omega) (nI (i + 1)) (by rfl)
                    · have f_c_213 : i < mm1 0 := n_nle (by omega) (by omega) c_213
                      have fn_c_213 := Nat.not_le.mpr f_c_213
                      refine g_iload X 1 dL_surveys_216 rfl ?_
                      refine g_iconst (v := (nI 4)) X dL_surveys_218 rfl ?_
                      refine g_ishr X dL_surveys_219 ?_
                      refine g_iconst (v := (nI 3)) X dL_surveys_220 rfl ?_
                      have lb221 := lwN_lt (xq >>> ((nI 4) &&& 31)) (n := 3) (by omega)
                      refine g_callSP (st2 := [.int (nI (lwN (xq >>> ((nI 4) &&& 31)) 3))]) (ws' := [wTS E O, wRd E (O 2) u, wTx E (O 1) w2, wTw E (O 3 0) (O 4) (O 5) (tR v) (tN v), wSv E (O 4) (tA v), wSv E (O 5) (tB v), wTw E (O 6 0) (O 7) (O 8) (tR dv) (tN dv), wSv E (O 7) (tA dv), wSv E (O 8) (tB dv), wSh E (O 11) f, wPo E (O 9) (O 17) 8 oa, wPo E (O 10) (O 18) 2 ok, wAr E ad 48 (upd d2 ((8 * g) + i) (nI 0)), wAr E ae 54 e2].flatten) (wr := [wTS E O, wRd E (O 2) u, wTx E (O 1) w2, wTw E (O 3 0) (O 4) (O 5) (tR v) (tN v), wSv E (O 4) (tA v), wSv E (O 5) (tB v), wTw E (O 6 0) (O 7) (O 8) (tR dv) (tN dv), wSv E (O 7) (tA dv), wSv E (O 8) (tB dv), wSh E (O 11) f, wPo E (O 9) (O 17) 8 oa, wPo E (O 10) (O 18) 2 ok, wAr E ad 48 (upd d2 ((8 * g) + i) (nI 0)), wAr E ae 54 e2].flatten) X (c_L_low E (xq >>> ((nI 4) &&& 31)) 3 (by decide) (by decide)) cs_L_25 rfl (List.Perm.refl _) rfl (List.Perm.refl _) rfl rfl (Nat.le_of_ble_eq_true rfl) dL_surveys_221 rfl ?_
                      refine g_if_le (tgt := 231) X dL_surveys_224 (by decide) (fun c_224 => ?_) (fun c_224 => ?_)
                      · have f_c_224 : lwN (xq >>> ((nI 4) &&& 31)) 3 ≤ 0 := n_le (by omega) (by omega) c_224
                        have fn_c_224 := Nat.not_lt.mpr f_c_224
                        refine g_iconst (v := (nI 0)) X dL_surveys_231 rfl ?_
                        refine g_istore (lv' := [(10, .int (nI 0)), (9, .int (nI ((8 * g) + i))), (8, .int xq), (0, .ref (O 0 0)), (1, .ref b), (2, .ref ad), (3, .ref ae), (4, .int (celV L xs 0)), (5, .int (nI wd)), (6, .int (nI g)), (7, .int (nI i))]) X dL_surveys_232 (by decide) rfl ?_
                        refine g_aload_n X 5 dL_surveys_234 rfl ?_
                        refine g_bipush (v := (nI 16)) X dL_surveys_235 rfl ?_
                        refine g_iload X 1 dL_surveys_237 rfl ?_
                        refine g_iaddN X dL_surveys_239 ?_
                        refine g_iload X 0 dL_surveys_240 rfl ?_
                        refine g_if_eq (tgt := 268) X dL_surveys_242 (by decide) (fun c_242 => ?_) (fun c_242 => absurd c_242 (by decide))
                        refine g_iload X 2 dL_surveys_268 rfl ?_
                        refine g_bipush (v := (nI 6)) X dL_surveys_270 rfl ?_
                        refine g_ishr X dL_surveys_272 ?_
                        refine g_iload X 8 dL_surveys_273 rfl ?_
                        have lb275 := lwN_lt (xq >>> ((nI 6) &&& 31)) (n := wd) (by omega)
                        refine g_callSP (st2 := [.int (nI (lwN (xq >>> ((nI 6) &&& 31)) wd)), .int (nI (16 + ((8 * g) + i))), .ref ad]) (ws' := [wTS E O, wRd E (O 2) u, wTx E (O 1) w2, wTw E (O 3 0) (O 4) (O 5) (tR v) (tN v), wSv E (O 4) (tA v), wSv E (O 5) (tB v), wTw E (O 6 0) (O 7) (O 8) (tR dv) (tN dv), wSv E (O 7) (tA dv), wSv E (O 8) (tB dv), wSh E (O 11) f, wPo E (O 9) (O 17) 8 oa, wPo E (O 10) (O 18) 2 ok, wAr E ad 48 (upd d2 ((8 * g) + i) (nI 0)), wAr E ae 54 e2].flatten) (wr := [wTS E O, wRd E (O 2) u, wTx E (O 1) w2, wTw E (O 3 0) (O 4) (O 5) (tR v) (tN v), wSv E (O 4) (tA v), wSv E (O 5) (tB v), wTw E (O 6 0) (O 7) (O 8) (tR dv) (tN dv), wSv E (O 7) (tA dv), wSv E (O 8) (tB dv), wSh E (O 11) f, wPo E (O 9) (O 17) 8 oa, wPo E (O 10) (O 18) 2 ok, wAr E ad 48 (upd d2 ((8 * g) + i) (nI 0)), wAr E ae 54 e2].flatten) X (c_L_low E (xq >>> ((nI 6) &&& 31)) wd hwd1 (by omega)) cs_L_25 rfl (List.Perm.refl _) rfl (List.Perm.refl _) rfl rfl (Nat.le_of_ble_eq_true rfl) dL_surveys_275 rfl ?_
                        have hX : lwN (xq >>> ((nI 6) &&& 31)) wd ≤ 60 := by have := lwN_lt (xq >>> ((nI 6) &&& 31)) (n := wd) (by omega); omega
                        refine g_iast (ws' := [wTS E O, wRd E (O 2) u, wTx E (O 1) w2, wTw E (O 3 0) (O 4) (O 5) (tR v) (tN v), wSv E (O 4) (tA v), wSv E (O 5) (tB v), wTw E (O 6 0) (O 7) (O 8) (tR dv) (tN dv), wSv E (O 7) (tA dv), wSv E (O 8) (tB dv), wSh E (O 11) f, wPo E (O 9) (O 17) 8 oa, wPo E (O 10) (O 18) 2 ok, wAr E ad 48 (upd (upd d2 ((8 * g) + i) (nI 0)) (16 + ((8 * g) + i)) (nI (lwN (xq >>> ((nI 6) &&& 31)) wd))), wAr E ae 54 e2].flatten) X 41 rfl (16 + ((8 * g) + i)) (ix_nI (by omega) (by decide)) rfl dL_surveys_278 ?_
                        refine g_aload_n X 5 dL_surveys_279 rfl ?_
                        refine g_bipush (v := (nI 32)) X dL_surveys_280 rfl ?_
                        refine g_iload X 1 dL_surveys_282 rfl ?_
                        refine g_iaddN X dL_surveys_284 ?_
                        refine g_iload X 0 dL_surveys_285 rfl ?_
                        refine g_if_eq (tgt := 313) X dL_surveys_287 (by decide) (fun c_287 => ?_) (fun c_287 => absurd c_287 (by decide))
                        refine g_iload X 2 dL_surveys_313 rfl ?_
                        refine g_bipush (v := (nI 12)) X dL_surveys_315 rfl ?_
                        refine g_ishr X dL_surveys_317 ?_
                        refine g_iload X 8 dL_surveys_318 rfl ?_
                        have lb320 := lwN_lt (xq >>> ((nI 12) &&& 31)) (n := wd) (by omega)
                        refine g_callSP (st2 := [.int (nI (lwN (xq >>> ((nI 12) &&& 31)) wd)), .int (nI (32 + ((8 * g) + i))), .ref ad]) (ws' := [wTS E O, wRd E (O 2) u, wTx E (O 1) w2, wTw E (O 3 0) (O 4) (O 5) (tR v) (tN v), wSv E (O 4) (tA v), wSv E (O 5) (tB v), wTw E (O 6 0) (O 7) (O 8) (tR dv) (tN dv), wSv E (O 7) (tA dv), wSv E (O 8) (tB dv), wSh E (O 11) f, wPo E (O 9) (O 17) 8 oa, wPo E (O 10) (O 18) 2 ok, wAr E ad 48 (upd (upd d2 ((8 * g) + i) (nI 0)) (16 + ((8 * g) + i)) (nI (lwN (xq >>> ((nI 6) &&& 31)) wd))), wAr E ae 54 e2].flatten) (wr := [wTS E O, wRd E (O 2) u, wTx E (O 1) w2, wTw E (O 3 0) (O 4) (O 5) (tR v) (tN v), wSv E (O 4) (tA v), wSv E (O 5) (tB v), wTw E (O 6 0) (O 7) (O 8) (tR dv) (tN dv), wSv E (O 7) (tA dv), wSv E (O 8) (tB dv), wSh E (O 11) f, wPo E (O 9) (O 17) 8 oa, wPo E (O 10) (O 18) 2 ok, wAr E ad 48 (upd (upd d2 ((8 * g) + i) (nI 0)) (16 + ((8 * g) + i)) (nI (lwN (xq >>> ((nI 6) &&& 31)) wd))), wAr E ae 54 e2].flatten) X (c_L_low E (xq >>> ((nI 12) &&& 31)) wd hwd1 (by omega)) cs_L_25 rfl (List.Perm.refl _) rfl (List.Perm.refl _) rfl rfl (Nat.le_of_ble_eq_true rfl) dL_surveys_320 rfl ?_
                        have hY : lwN (xq >>> ((nI 12) &&& 31)) wd ≤ 60 := by have := lwN_lt (xq >>> ((nI 12) &&& 31)) (n := wd) (by omega); omega
                        refine g_iast (ws' := [wTS E O, wRd E (O 2) u, wTx E (O 1) w2, wTw E (O 3 0) (O 4) (O 5) (tR v) (tN v), wSv E (O 4) (tA v), wSv E (O 5) (tB v), wTw E (O 6 0) (O 7) (O 8) (tR dv) (tN dv), wSv E (O 7) (tA dv), wSv E (O 8) (tB dv), wSh E (O 11) f, wPo E (O 9) (O 17) 8 oa, wPo E (O 10) (O 18) 2 ok, wAr E ad 48 (upd (upd (upd d2 ((8 * g) + i) (nI 0)) (16 + ((8 * g) + i)) (nI (lwN (xq >>> ((nI 6) &&& 31)) wd))) (32 + ((8 * g) + i)) (nI (lwN (xq >>> ((nI 12) &&& 31)) wd))), wAr E ae 54 e2].flatten) X 41 rfl (32 + ((8 * g) + i)) (ix_nI (by omega) (by decide)) rfl dL_surveys_323 ?_
                        refine g_aload_n X 3 dL_surveys_324 rfl ?_
                        refine g_iload X 9 dL_surveys_325 rfl ?_
                        refine g_if_ne (tgt := 335) X dL_surveys_327 (by decide) (fun c_327 => ?_) (fun c_327 => absurd (show g = 0 from n_eq (by omega) (by omega) c_327) (by omega))
                        obtain rfl : g = 1 := by omega
                        refine g_bipush (v := (nI 98)) X dL_surveys_335 rfl ?_
                        refine g_aload_n X 5 dL_surveys_337 rfl ?_
                        refine g_iload X 1 dL_surveys_338 rfl ?_
                        refine g_iald X 41 rfl ((8 * 1) + i) (ix_nI (by omega) (by decide)) dL_surveys_340 ?_
                        rw [upd_n _ _ (by omega), upd_n _ _ (by omega), upd_s]
                        refine g_aload_n X 5 dL_surveys_341 rfl ?_
                        refine g_bipush (v := (nI 16)) X dL_surveys_342 rfl ?_
                        refine g_iload X 1 dL_surveys_344 rfl ?_
                        refine g_iaddN X dL_surveys_346 ?_
                        refine g_iald X 41 rfl (16 + ((8 * 1) + i)) (ix_nI (by omega) (by decide)) dL_surveys_347 ?_
                        rw [upd_n _ _ (by omega), upd_s]
                        refine g_aload_n X 5 dL_surveys_348 rfl ?_
                        refine g_bipush (v := (nI 32)) X dL_surveys_349 rfl ?_
                        refine g_iload X 1 dL_surveys_351 rfl ?_
                        refine g_iaddN X dL_surveys_353 ?_
                        refine g_iald X 41 rfl (32 + ((8 * 1) + i)) (ix_nI (by omega) (by decide)) dL_surveys_354 ?_
                        rw [upd_s]
                        refine g_callS (st2 := []) (S' := [wTS E O, wRd E (O 2) u, wTx E (O 1) (itW w2 98 0 (lwN (xq >>> ((nI 6) &&& 31)) wd) (lwN (xq >>> ((nI 12) &&& 31)) wd)), wTw E (O 3 0) (O 4) (O 5) (tR v) (tN v), wSv E (O 4) (tA v), wSv E (O 5) (tB v), wTw E (O 6 0) (O 7) (O 8) (tR dv) (tN dv), wSv E (O 7) (tA dv), wSv E (O 8) (tB dv), wSh E (O 11) f, wPo E (O 9) (O 17) 8 oa, wPo E (O 10) (O 18) 2 ok, wAr E ad 48 (upd (upd (upd d2 ((8 * 1) + i) (nI 0)) (16 + ((8 * 1) + i)) (nI (lwN (xq >>> ((nI 6) &&& 31)) wd))) (32 + ((8 * 1) + i)) (nI (lwN (xq >>> ((nI 12) &&& 31)) wd))), wAr E ae 54 e2]) X (c_L_item E O w2 98 0 (lwN (xq >>> ((nI 6) &&& 31)) wd) (lwN (xq >>> ((nI 12) &&& 31)) wd) (Nat.le_of_lt hSJ.w) (by first | assumption | omega | exact Nat.zero_le _) (by first | assumption | omega | exact Nat.zero_le _) (by first | assumption | omega | exact Nat.zero_le _)) cs_L_33 rfl [0, 2] [1, 3, 4, 5, 6, 7, 8, 9, 10, 11, 12, 13] 14 rfl rfl (by decide) [wRd E (O 2) u, wTw E (O 3 0) (O 4) (O 5) (tR v) (tN v), wSv E (O 4) (tA v), wSv E (O 5) (tB v), wTw E (O 6 0) (O 7) (O 8) (tR dv) (tN dv), wSv E (O 7) (tA dv), wSv E (O 8) (tB dv), wSh E (O 11) f, wPo E (O 9) (O 17) 8 oa, wPo E (O 10) (O 18) 2 ok, wAr E ad 48 (upd (upd (upd d2 ((8 * 1) + i) (nI 0)) (16 + ((8 * 1) + i)) (nI (lwN (xq >>> ((nI 6) &&& 31)) wd))) (32 + ((8 * 1) + i)) (nI (lwN (xq >>> ((nI 12) &&& 31)) wd))), wAr E ae 54 e2] rfl rfl rfl rfl (by simp only [List.map_cons, List.map_nil, fsAr, fsPo, fsRd, fsSh, fsSv, fsTS, fsTw, fsTx]) rfl rfl (Nat.le_of_ble_eq_true rfl) dL_surveys_355 rfl ?_
                        refine g_iincN (lv' := [(7, .int (nI (i + 1))), (10, .int (nI 0)), (9, .int (nI ((8 * 1) + i))), (8, .int xq), (0, .ref (O 0 0)), (1, .ref b), (2, .ref ad), (3, .ref ae), (4, .int (celV L xs 0)), (5, .int (nI wd)), (6, .int (nI 1))]) X 10 dL_surveys_358 rfl (by decide) rfl ?_
                        refine g_goto (tgt := 138) X dL_surveys_361 (by decide) ?_
                        refine GG.lv [4, 5, 6, 7, 8, 9, 10, 0] rfl ?_
                        exact ih_138 (i + 1) (itW w2 98 0 (lwN (xq >>> ((nI 6) &&& 31)) wd) (lwN (xq >>> ((nI 12) &&& 31)) wd)) (upd (upd (upd d2 ((8 * 1) + i) (nI 0)) (16 + ((8 * 1) + i)) (nI (lwN (xq >>> ((nI 6) &&& 31)) wd))) (32 + ((8 * 1) + i)) (nI (lwN (xq >>> ((nI 12) &&& 31)) wd))) (upN mm2 1 (i + 1)) (by omega) (upN_s _ _ _) (by have h := si_meet hSJ (g := 1) (by omega) (by omega) hK hX hY; rw [hmi] at h; exact h) (fun z hz => by rw [upN_n _ _ (by omega)]; exact hl2 z hz) (fun z h1 h2 => by rw [upN_n _ _ (by omega)]; exact hh2 z h1 h2) (by omega) (nI (i + 1)) (by rfl)
                      · have f_c_224 : 0 < lwN (xq >>> ((nI 4) &&& 31)) 3 := n_nle (by omega) (by omega) c_224
                        have fn_c_224 := Nat.not_le.mpr f_c_224
                        refine g_iconst (v := (nI 1)) X dL_surveys_227 rfl ?_
                        refine g_goto (tgt := 232) X dL_surveys_228 (by decide) ?_
                        refine g_istore (lv' := [(10, .int (nI 1)), (9, .int (nI ((8 * g) + i))), (8, .int xq), (0, .ref (O 0 0)), (1, .ref b), (2, .ref ad), (3, .ref ae), (4, .int (celV L xs 0)), (5, .int (nI wd)), (6, .int (nI g)), (7, .int (nI i))]) X dL_surveys_232 (by decide) rfl ?_
                        refine g_aload_n X 5 dL_surveys_234 rfl ?_
                        refine g_bipush (v := (nI 16)) X dL_surveys_235 rfl ?_
                        refine g_iload X 1 dL_surveys_237 rfl ?_
                        refine g_iaddN X dL_surveys_239 ?_
                        refine g_iload X 0 dL_surveys_240 rfl ?_
                        refine g_if_eq (tgt := 268) X dL_surveys_242 (by decide) (fun c_242 => absurd c_242 (by decide)) (fun c_242 => ?_)
                        refine g_aload_n X 5 dL_surveys_245 rfl ?_
                        refine g_bipush (v := (nI 16)) X dL_surveys_246 rfl ?_
                        refine g_iload X 10 dL_surveys_248 rfl ?_
                        refine g_iaddN X dL_surveys_250 ?_
                        refine g_iald X 41 rfl (16 + i) (ix_nI (by omega) (by decide)) dL_surveys_251 ?_
                        rw [upd_n _ _ (by omega)]
                        obtain ⟨x0, hx0, ex0⟩ := (hSJ.2.1 i (by omega)).2.1
                        rw [ex0]
                        refine g_iload X 2 dL_surveys_252 rfl ?_
                        refine g_bipush (v := (nI 6)) X dL_surveys_254 rfl ?_
                        refine g_ishr X dL_surveys_256 ?_
                        refine g_iconst (v := (nI 5)) X dL_surveys_257 rfl ?_
                        have lb258 := lwN_lt (xq >>> ((nI 6) &&& 31)) (n := 5) (by omega)
                        refine g_callSP (st2 := [.int (nI (lwN (xq >>> ((nI 6) &&& 31)) 5)), .int (nI x0), .int (nI (16 + ((8 * g) + i))), .ref ad]) (ws' := [wTS E O, wRd E (O 2) u, wTx E (O 1) w2, wTw E (O 3 0) (O 4) (O 5) (tR v) (tN v), wSv E (O 4) (tA v), wSv E (O 5) (tB v), wTw E (O 6 0) (O 7) (O 8) (tR dv) (tN dv), wSv E (O 7) (tA dv), wSv E (O 8) (tB dv), wSh E (O 11) f, wPo E (O 9) (O 17) 8 oa, wPo E (O 10) (O 18) 2 ok, wAr E ad 48 (upd d2 ((8 * g) + i) (nI 0)), wAr E ae 54 e2].flatten) (wr := [wTS E O, wRd E (O 2) u, wTx E (O 1) w2, wTw E (O 3 0) (O 4) (O 5) (tR v) (tN v), wSv E (O 4) (tA v), wSv E (O 5) (tB v), wTw E (O 6 0) (O 7) (O 8) (tR dv) (tN dv), wSv E (O 7) (tA dv), wSv E (O 8) (tB dv), wSh E (O 11) f, wPo E (O 9) (O 17) 8 oa, wPo E (O 10) (O 18) 2 ok, wAr E ad 48 (upd d2 ((8 * g) + i) (nI 0)), wAr E ae 54 e2].flatten) X (c_L_low E (xq >>> ((nI 6) &&& 31)) 5 (by decide) (by decide)) cs_L_25 rfl (List.Perm.refl _) rfl (List.Perm.refl _) rfl rfl (Nat.le_of_ble_eq_true rfl) dL_surveys_258 rfl ?_
                        refine g_iaddN X dL_surveys_261 ?_
                        refine g_bipush (v := (nI 61)) X dL_surveys_262 rfl ?_
                        have l5x := lwN_lt (xq >>> (nI 6 &&& 31)) (n := 5) (by decide)
                        refine g_iremN X (by omega) (by omega) (by omega) dL_surveys_264 ?_
                        refine g_goto (tgt := 278) X dL_surveys_265 (by decide) ?_
                        have hX : (x0 + (lwN (xq >>> ((nI 6) &&& 31)) 5)) % 61 ≤ 60 := by omega
                        refine g_iast (ws' := [wTS E O, wRd E (O 2) u, wTx E (O 1) w2, wTw E (O 3 0) (O 4) (O 5) (tR v) (tN v), wSv E (O 4) (tA v), wSv E (O 5) (tB v), wTw E (O 6 0) (O 7) (O 8) (tR dv) (tN dv), wSv E (O 7) (tA dv), wSv E (O 8) (tB dv), wSh E (O 11) f, wPo E (O 9) (O 17) 8 oa, wPo E (O 10) (O 18) 2 ok, wAr E ad 48 (upd (upd d2 ((8 * g) + i) (nI 0)) (16 + ((8 * g) + i)) (nI ((x0 + (lwN (xq >>> ((nI 6) &&& 31)) 5)) % 61))), wAr E ae 54 e2].flatten) X 41 rfl (16 + ((8 * g) + i)) (ix_nI (by omega) (by decide)) rfl dL_surveys_278 ?_
                        refine g_aload_n X 5 dL_surveys_279 rfl ?_
                        refine g_bipush (v := (nI 32)) X dL_surveys_280 rfl ?_
                        refine g_iload X 1 dL_surveys_282 rfl ?_
                        refine g_iaddN X dL_surveys_284 ?_
                        refine g_iload X 0 dL_surveys_285 rfl ?_
                        refine g_if_eq (tgt := 313) X dL_surveys_287 (by decide) (fun c_287 => absurd c_287 (by decide)) (fun c_287 => ?_)
                        refine g_aload_n X 5 dL_surveys_290 rfl ?_
                        refine g_bipush (v := (nI 32)) X dL_surveys_291 rfl ?_
                        refine g_iload X 10 dL_surveys_293 rfl ?_
                        refine g_iaddN X dL_surveys_295 ?_
                        refine g_iald X 41 rfl (32 + i) (ix_nI (by omega) (by decide)) dL_surveys_296 ?_
                        rw [upd_n _ _ (by omega), upd_n _ _ (by omega)]
                        obtain ⟨y0, hy0, ey0⟩ := (hSJ.2.1 i (by omega)).2.2
                        rw [ey0]
                        refine g_iload X 2 dL_surveys_297 rfl ?_
                        refine g_bipush (v := (nI 12)) X dL_surveys_299 rfl ?_
                        refine g_ishr X dL_surveys_301 ?_
                        refine g_iconst (v := (nI 5)) X dL_surveys_302 rfl ?_
                        have lb303 := lwN_lt (xq >>> ((nI 12) &&& 31)) (n := 5) (by omega)
                        refine g_callSP (st2 := [.int (nI (lwN (xq >>> ((nI 12) &&& 31)) 5)), .int (nI y0), .int (nI (32 + ((8 * g) + i))), .ref ad]) (ws' := [wTS E O, wRd E (O 2) u, wTx E (O 1) w2, wTw E (O 3 0) (O 4) (O 5) (tR v) (tN v), wSv E (O 4) (tA v), wSv E (O 5) (tB v), wTw E (O 6 0) (O 7) (O 8) (tR dv) (tN dv), wSv E (O 7) (tA dv), wSv E (O 8) (tB dv), wSh E (O 11) f, wPo E (O 9) (O 17) 8 oa, wPo E (O 10) (O 18) 2 ok, wAr E ad 48 (upd (upd d2 ((8 * g) + i) (nI 0)) (16 + ((8 * g) + i)) (nI ((x0 + (lwN (xq >>> ((nI 6) &&& 31)) 5)) % 61))), wAr E ae 54 e2].flatten) (wr := [wTS E O, wRd E (O 2) u, wTx E (O 1) w2, wTw E (O 3 0) (O 4) (O 5) (tR v) (tN v), wSv E (O 4) (tA v), wSv E (O 5) (tB v), wTw E (O 6 0) (O 7) (O 8) (tR dv) (tN dv), wSv E (O 7) (tA dv), wSv E (O 8) (tB dv), wSh E (O 11) f, wPo E (O 9) (O 17) 8 oa, wPo E (O 10) (O 18) 2 ok, wAr E ad 48 (upd (upd d2 ((8 * g) + i) (nI 0)) (16 + ((8 * g) + i)) (nI ((x0 + (lwN (xq >>> ((nI 6) &&& 31)) 5)) % 61))), wAr E ae 54 e2].flatten) X (c_L_low E (xq >>> ((nI 12) &&& 31)) 5 (by decide) (by decide)) cs_L_25 rfl (List.Perm.refl _) rfl (List.Perm.refl _) rfl rfl (Nat.le_of_ble_eq_true rfl) dL_surveys_303 rfl ?_
                        refine g_iaddN X dL_surveys_306 ?_
                        refine g_bipush (v := (nI 61)) X dL_surveys_307 rfl ?_
                        have l5y := lwN_lt (xq >>> (nI 12 &&& 31)) (n := 5) (by decide)
                        refine g_iremN X (by omega) (by omega) (by omega) dL_surveys_309 ?_
                        refine g_goto (tgt := 323) X dL_surveys_310 (by decide) ?_
                        have hY : (y0 + (lwN (xq >>> ((nI 12) &&& 31)) 5)) % 61 ≤ 60 := by omega
                        refine g_iast (ws' := [wTS E O, wRd E (O 2) u, wTx E (O 1) w2, wTw E (O 3 0) (O 4) (O 5) (tR v) (tN v), wSv E (O 4) (tA v), wSv E (O 5) (tB v), wTw E (O 6 0) (O 7) (O 8) (tR dv) (tN dv), wSv E (O 7) (tA dv), wSv E (O 8) (tB dv), wSh E (O 11) f, wPo E (O 9) (O 17) 8 oa, wPo E (O 10) (O 18) 2 ok, wAr E ad 48 (upd (upd (upd d2 ((8 * g) + i) (nI 0)) (16 + ((8 * g) + i)) (nI ((x0 + (lwN (xq >>> ((nI 6) &&& 31)) 5)) % 61))) (32 + ((8 * g) + i)) (nI ((y0 + (lwN (xq >>> ((nI 12) &&& 31)) 5)) % 61))), wAr E ae 54 e2].flatten) X 41 rfl (32 + ((8 * g) + i)) (ix_nI (by omega) (by decide)) rfl dL_surveys_323 ?_
                        refine g_aload_n X 3 dL_surveys_324 rfl ?_
                        refine g_iload X 9 dL_surveys_325 rfl ?_
                        refine g_if_ne (tgt := 335) X dL_surveys_327 (by decide) (fun c_327 => ?_) (fun c_327 => absurd (show g = 0 from n_eq (by omega) (by omega) c_327) (by omega))
                        obtain rfl : g = 1 := by omega
                        refine g_bipush (v := (nI 98)) X dL_surveys_335 rfl ?_
                        refine g_aload_n X 5 dL_surveys_337 rfl ?_
                        refine g_iload X 1 dL_surveys_338 rfl ?_
                        refine g_iald X 41 rfl ((8 * 1) + i) (ix_nI (by omega) (by decide)) dL_surveys_340 ?_
                        rw [upd_n _ _ (by omega), upd_n _ _ (by omega), upd_s]
                        refine g_aload_n X 5 dL_surveys_341 rfl ?_
                        refine g_bipush (v := (nI 16)) X dL_surveys_342 rfl ?_
                        refine g_iload X 1 dL_surveys_344 rfl ?_
                        refine g_iaddN X dL_surveys_346 ?_
                        refine g_iald X 41 rfl (16 + ((8 * 1) + i)) (ix_nI (by omega) (by decide)) dL_surveys_347 ?_
                        rw [upd_n _ _ (by omega), upd_s]
                        refine g_aload_n X 5 dL_surveys_348 rfl ?_
                        refine g_bipush (v := (nI 32)) X dL_surveys_349 rfl ?_
                        refine g_iload X 1 dL_surveys_351 rfl ?_
                        refine g_iaddN X dL_surveys_353 ?_
                        refine g_iald X 41 rfl (32 + ((8 * 1) + i)) (ix_nI (by omega) (by decide)) dL_surveys_354 ?_
                        rw [upd_s]
                        refine g_callS (st2 := []) (S' := [wTS E O, wRd E (O 2) u, wTx E (O 1) (itW w2 98 0 ((x0 + (lwN (xq >>> ((nI 6) &&& 31)) 5)) % 61) ((y0 + (lwN (xq >>> ((nI 12) &&& 31)) 5)) % 61)), wTw E (O 3 0) (O 4) (O 5) (tR v) (tN v), wSv E (O 4) (tA v), wSv E (O 5) (tB v), wTw E (O 6 0) (O 7) (O 8) (tR dv) (tN dv), wSv E (O 7) (tA dv), wSv E (O 8) (tB dv), wSh E (O 11) f, wPo E (O 9) (O 17) 8 oa, wPo E (O 10) (O 18) 2 ok, wAr E ad 48 (upd (upd (upd d2 ((8 * 1) + i) (nI 0)) (16 + ((8 * 1) + i)) (nI ((x0 + (lwN (xq >>> ((nI 6) &&& 31)) 5)) % 61))) (32 + ((8 * 1) + i)) (nI ((y0 + (lwN (xq >>> ((nI 12) &&& 31)) 5)) % 61))), wAr E ae 54 e2]) X (c_L_item E O w2 98 0 ((x0 + (lwN (xq >>> ((nI 6) &&& 31)) 5)) % 61) ((y0 + (lwN (xq >>> ((nI 12) &&& 31)) 5)) % 61) (Nat.le_of_lt hSJ.w) (by first | assumption | omega | exact Nat.zero_le _) (by first | assumption | omega | exact Nat.zero_le _) (by first | assumption | omega | exact Nat.zero_le _)) cs_L_33 rfl [0, 2] [1, 3, 4, 5, 6, 7, 8, 9, 10, 11, 12, 13] 14 rfl rfl (by decide) [wRd E (O 2) u, wTw E (O 3 0) (O 4) (O 5) (tR v) (tN v), wSv E (O 4) (tA v), wSv E (O 5) (tB v), wTw E (O 6 0) (O 7) (O 8) (tR dv) (tN dv), wSv E (O 7) (tA dv), wSv E (O 8) (tB dv), wSh E (O 11) f, wPo E (O 9) (O 17) 8 oa, wPo E (O 10) (O 18) 2 ok, wAr E ad 48 (upd (upd (upd d2 ((8 * 1) + i) (nI 0)) (16 + ((8 * 1) + i)) (nI ((x0 + (lwN (xq >>> ((nI 6) &&& 31)) 5)) % 61))) (32 + ((8 * 1) + i)) (nI ((y0 + (lwN (xq >>> ((nI 12) &&& 31)) 5)) % 61))), wAr E ae 54 e2] rfl rfl rfl rfl (by simp only [List.map_cons, List.map_nil, fsAr, fsPo, fsRd, fsSh, fsSv, fsTS, fsTw, fsTx]) rfl rfl (Nat.le_of_ble_eq_true rfl) dL_surveys_355 rfl ?_
                        refine g_iincN (lv' := [(7, .int (nI (i + 1))), (10, .int (nI 1)), (9, .int (nI ((8 * 1) + i))), (8, .int xq), (0, .ref (O 0 0)), (1, .ref b), (2, .ref ad), (3, .ref ae), (4, .int (celV L xs 0)), (5, .int (nI wd)), (6, .int (nI 1))]) X 10 dL_surveys_358 rfl (by decide) rfl ?_
                        refine g_goto (tgt := 138) X dL_surveys_361 (by decide) ?_
                        refine GG.lv [4, 5, 6, 7, 8, 9, 10, 0] rfl ?_
                        exact ih_138 (i + 1) (itW w2 98 0 ((x0 + (lwN (xq >>> ((nI 6) &&& 31)) 5)) % 61) ((y0 + (lwN (xq >>> ((nI 12) &&& 31)) 5)) % 61)) (upd (upd (upd d2 ((8 * 1) + i) (nI 0)) (16 + ((8 * 1) + i)) (nI ((x0 + (lwN (xq >>> ((nI 6) &&& 31)) 5)) % 61))) (32 + ((8 * 1) + i)) (nI ((y0 + (lwN (xq >>> ((nI 12) &&& 31)) 5)) % 61))) (upN mm2 1 (i + 1)) (by omega) (upN_s _ _ _) (by have h := si_meet hSJ (g := 1) (by omega) (by omega) hK hX hY; rw [hmi] at h; exact h) (fun z hz => by rw [upN_n _ _ (by omega)]; exact hl2 z hz) (fun z h1 h2 => by rw [upN_n _ _ (by omega)]; exact hh2 z h1 h2) (by omega) (nI (i + 1)) (by rfl)
          refine GG.lv [1, 2, 3, 4, 5, 6, 7, 0] rfl ?_
          exact L_138 (n + 1) 0 w1 d1 mm1 (by omega) (hz.1) (hS2) (fun z _ => rfl) (fun z h1 h2 => (hhigh z h1 (by omega)).1) (by omega) (nI 0) (by rfl)
    refine GG.lv [1, 2, 3, 4, 5, 6, 0] rfl ?_
    exact L_105 (3) 0 wD d e0 (fun _ => 0) (fun _ => 0) (by omega) (by rw [← ewD, ← ewC, ← ewB, ← ewA]; exact si_start w hok0 h52 h53 hR1 hR2 hN3 h50 h51) (fun z hz => absurd hz (Nat.not_lt_zero z)) (fun z _ _ => ⟨rfl, rfl⟩) (by omega) (nI 0) (by rfl)
  refine g_iload X 0 dL_surveys_42 rfl ?_
  refine g_bipush (v := (nI 8)) X dL_surveys_44 rfl ?_
  refine g_ishr X dL_surveys_46 ?_
  refine g_iconst (v := (nI 3)) X dL_surveys_47 rfl ?_
  have lb48 := lwN_lt ((celV L xs 0) >>> ((nI 8) &&& 31)) (n := 3) (by omega)
  refine g_callSP (st2 := [.int (nI (lwN ((celV L xs 0) >>> ((nI 8) &&& 31)) 3))]) (ws' := [wTS E O, wRd E (O 2) u, wTx E (O 1) w, wTw E (O 3 0) (O 4) (O 5) (tR v) (tN v), wSv E (O 4) (tA v), wSv E (O 5) (tB v), wTw E (O 6 0) (O 7) (O 8) (tR dv) (tN dv), wSv E (O 7) (tA dv), wSv E (O 8) (tB dv), wSh E (O 11) f, wPo E (O 9) (O 17) 8 oa, wPo E (O 10) (O 18) 2 ok, wAr E ad 48 d, wAr E ae 54 e0].flatten) (wr := [wTS E O, wRd E (O 2) u, wTx E (O 1) w, wTw E (O 3 0) (O 4) (O 5) (tR v) (tN v), wSv E (O 4) (tA v), wSv E (O 5) (tB v), wTw E (O 6 0) (O 7) (O 8) (tR dv) (tN dv), wSv E (O 7) (tA dv), wSv E (O 8) (tB dv), wSh E (O 11) f, wPo E (O 9) (O 17) 8 oa, wPo E (O 10) (O 18) 2 ok, wAr E ad 48 d, wAr E ae 54 e0].flatten) X (c_L_low E ((celV L xs 0) >>> ((nI 8) &&& 31)) 3 (by decide) (by decide)) cs_L_25 rfl (List.Perm.refl _) rfl (List.Perm.refl _) rfl rfl (Nat.le_of_ble_eq_true rfl) dL_surveys_48 rfl ?_
  refine g_if_ne (tgt := 59) X dL_surveys_51 (by decide) (fun c_51 => ?_) (fun c_51 => ?_)
  · have f_c_51 : ¬ lwN ((celV L xs 0) >>> ((nI 8) &&& 31)) 3 = 0 := n_ne (by omega) (by omega) c_51
    refine g_bipush (v := (nI 20)) X dL_surveys_59 rfl ?_
    refine g_istore (lv' := [(5, .int (nI 20)), (4, .int (celV L xs 0)), (0, .ref (O 0 0)), (1, .ref b), (2, .ref ad), (3, .ref ae)]) X dL_surveys_61 (by decide) rfl ?_
    refine GG.lv [2, 3, 4, 5, 1, 0] rfl ?_
    exact J_63 20 (by omega) (by omega)
  · have f_c_51 : lwN ((celV L xs 0) >>> ((nI 8) &&& 31)) 3 = 0 := n_eq (by omega) (by omega) c_51
    refine g_bipush (v := (nI 61)) X dL_surveys_54 rfl ?_
    refine g_goto (tgt := 61) X dL_surveys_56 (by decide) ?_
    refine g_istore (lv' := [(5, .int (nI 61)), (4, .int (celV L xs 0)), (0, .ref (O 0 0)), (1, .ref b), (2, .ref ad), (3, .ref ae)]) X dL_surveys_61 (by decide) rfl ?_
    refine GG.lv [2, 3, 4, 5, 1, 0] rfl ?_
    exact J_63 61 (by omega) (by omega)
