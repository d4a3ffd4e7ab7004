/-! ===== small rows for the law's own walk ===== -/
theorem cq_0 (v : TV) (oa ok : PO) (w : TXT) (f : Nat → Int32) : coV v oa ok w f (nI 0) = nI (sM (tA v)) := rfl
theorem cq_1 (v : TV) (oa ok : PO) (w : TXT) (f : Nat → Int32) : coV v oa ok w f (nI 1) = nI (sM (tB v)) := rfl
theorem cq_2 (v : TV) (oa ok : PO) (w : TXT) (f : Nat → Int32) : coV v oa ok w f (nI 2) = nI (sS (tA v)) := rfl
theorem cq_4 (v : TV) (oa ok : PO) (w : TXT) (f : Nat → Int32) : coV v oa ok w f (nI 4) = tR v := rfl
theorem cq_5 (v : TV) (oa ok : PO) (w : TXT) (f : Nat → Int32) : coV v oa ok w f (nI 5) = nI (tN v) := rfl
theorem cq_6 (v : TV) (oa ok : PO) (w : TXT) (f : Nat → Int32) : coV v oa ok w f (nI 6) = nI oa.2 := rfl
theorem cq_9 (v : TV) (oa ok : PO) (w : TXT) (f : Nat → Int32) : coV v oa ok w f (nI 9) = nI (cntB (fun k => decide (¬ f k = -4)) 12) := rfl
theorem dis_eq {v : TV} {d e : Nat → Int32} (h : DE v d e) {i k : Nat} (hi : i < sM (tA v)) (hk : k < sM (tB v)) : disI d i (8 + k) = sqD v i k := by
  obtain ⟨-, a1, a2⟩ := h.px (G := 0) (by decide) (show i < mmV v 0 from hi)
  obtain ⟨-, b1, b2⟩ := h.px (G := 1) (by decide) (show k < mmV v 1 from hk)
  have a1 : sX (tA v) i = d (16 + i) := a1.trans (by rw [show 16 + (8 * 0 + i) = 16 + i by omega])
  have a2 : sY (tA v) i = d (32 + i) := a2.trans (by rw [show 32 + (8 * 0 + i) = 32 + i by omega])
  have b1 : sX (tB v) k = d (16 + (8 + k)) := b1.trans (by rw [show 16 + (8 * 1 + k) = 16 + (8 + k) by omega])
  have b2 : sY (tB v) k = d (32 + (8 + k)) := b2.trans (by rw [show 32 + (8 * 1 + k) = 32 + (8 + k) by omega])
  unfold disI sqD
  rw [a1, a2, b1, b2]
theorem mtC_t {f : Nat → Int32} {i : Nat} (h : ¬ f i = -1) : nI (mtC f i + 1) = nI (mtC f (i + 1)) := congrArg nI (cntB_t (decide_eq_true h))
theorem mtC_f {f : Nat → Int32} {i : Nat} (h : f i = -1) : nI (mtC f i + 0) = nI (mtC f (i + 1)) := congrArg nI (cntB_f (decide_eq_false (fun n => n h)))
theorem toC_t {v : TV} {k : Nat} (h : 0 < (cW v k).2) : nI (toC v k + 1) = nI (toC v (k + 1)) := congrArg nI (cntB_t (p := fun k => decide (0 < (cW v k).2)) (decide_eq_true h))
theorem toC_f {v : TV} {k : Nat} (h : (cW v k).2 = 0) : nI (toC v k + 0) = nI (toC v (k + 1)) := congrArg nI (cntB_f (p := fun k => decide (0 < (cW v k).2)) (decide_eq_false (by omega)))
theorem lone_t {M : Nat → Int32} {i : Nat} (hi : i < 8) (h : M i = -1) : loneI M i ||| (nI 1 <<< (nI i &&& 31)) = loneI M (i + 1) := by
  show _ = if mtI M (nI i) = -1 then _ else _
  rw [mtI_at hi, if_pos h]
theorem lone_f {M : Nat → Int32} {i : Nat} (hi : i < 8) (h : ¬ M i = -1) : loneI M i ||| nI 0 = loneI M (i + 1) := by
  show _ = if mtI M (nI i) = -1 then _ else _
  rw [mtI_at hi, if_neg h, nI_0]
  simp
theorem nam_0 {v : TV} (h : RV v) {k : Nat} (hk : k < sS (tA v)) (hw : (cW v k).2 = 0) : aNam v (nI k) = sNm (tA v) k := by
  rw [nam_at h hk]
  by_cases c : sNm (tA v) k = 0
  · rw [if_pos c, c, cml_0 hw]
    exact nI_0
  · rw [if_neg c]
theorem nam_n {v : TV} (h : RV v) {k : Nat} (hk : k < sS (tA v)) (hn : ¬ sNm (tA v) k = 0) : aNam v (nI k) = sNm (tA v) k := by rw [nam_at h hk, if_neg hn]
theorem nam_1 {v : TV} (h : RV v) {k : Nat} (hk : k < sS (tA v)) (hw : (cW v k).2 = 1) (hn : sNm (tA v) k = 0) : aNam v (nI k) = nmW (tB v) (cW v k) 0 := by rw [nam_at h hk, if_pos hn, cml_1 hw]
def nmJ (v : TV) (k j : Nat) : Int32 := if j = 0 then nI 0 else nmW (tB v) (cW v k) (j - 1)
theorem nmJ_0 (v : TV) (k : Nat) : nI 0 = nmJ v k 0 := (if_pos rfl).symm
theorem nmJ_s (v : TV) (k j : Nat) : nmW (tB v) (cW v k) j = nmJ v k (j + 1) := (if_neg (Nat.succ_ne_zero j)).symm
theorem nmJ_1 {v : TV} {k j : Nat} (h : j = 1) : nmW (tB v) (cW v k) 0 = nmJ v k j := by subst h; exact nmJ_s v k 0
theorem push2 {ok : PO} (h : ok.2 = 0) (tk : Nat → TV) (v : TV) : (pushO 2 ok).2 = 1 ∧ ∃ x, pushT 2 ok tk v ((pushO 2 ok).1 0) = tCopy v x := by
  obtain ⟨r, n⟩ := ok
  have h : n = 0 := h
  subst h
  exact ⟨rfl, _, upT_s tk (r 0) _⟩
theorem push8_1 {oa : PO} (h : oa.2 = 0) (ta : Nat → TV) (v : TV) : (pushO 8 oa).2 = 1 ∧ (pushO 8 oa).1 = oa.1 ∧ pushT 8 oa ta v = upT ta (oa.1 0) (tCopy v (ta (oa.1 0))) := by
  obtain ⟨r, n⟩ := oa
  have h : n = 0 := h
  subst h
  exact ⟨rfl, rfl, rfl⟩
theorem push8_2 {oa : PO} (h : oa.2 = 1) (ta : Nat → TV) (v : TV) : (pushO 8 oa).2 = 2 ∧ (pushO 8 oa).1 = oa.1 ∧ pushT 8 oa ta v = upT ta (oa.1 1) (tCopy v (ta (oa.1 1))) := by
  obtain ⟨r, n⟩ := oa
  have h : n = 1 := h
  subst h
  exact ⟨rfl, rfl, rfl⟩
theorem me_x {v : TV} (h : okT v) {i : Nat} (hi : i < sM (tA v)) : meetV v (nI 0) (nI i) (nI 1) = sX (tA v) i := by
  have h8 := h.1.1
  unfold meetV
  rw [if_pos (by rw [hasM_d h (by decide) (by omega)]; exact decide_eq_true (show i < mmV v 0 from hi)), if_neg (show ¬ nI 1 = nI 0 by decide), if_pos rfl, svOf_0, nI_clamp (by omega)]
theorem ng_eq {a : Nat} (h : a < 2 ^ 31) {x : Int32} (hx : x.toInt < 0) : ¬ nI a = x := fun q => by
  have := congrArg Int32.toInt q
  rw [nI_toInt h] at this
  omega
theorem ng_le {a : Nat} (h : a < 2 ^ 31) {x : Int32} (hx : x.toInt < 0) : ¬ nI a ≤ x := fun q => by
  rw [i_le, nI_toInt h] at q
  omega
theorem ng_lt {a : Nat} (h : a < 2 ^ 31) {x : Int32} (hx : x.toInt < 0) : ¬ nI a < x := fun q => by
  rw [i_lt, nI_toInt h] at q
  omega
theorem gn_le {a : Nat} (h : a < 2 ^ 31) {x : Int32} (hx : x.toInt < 0) : x ≤ nI a := by
  rw [i_le, nI_toInt h]
  omega
theorem gn_lt {a : Nat} (h : a < 2 ^ 31) {x : Int32} (hx : x.toInt < 0) : x < nI a := by
  rw [i_lt, nI_toInt h]
  omega
/-! ===== the law: reading its rows; some acts ===== -/
section LK
variable {E : GE} {μ : MD} {Γ : GC} {cells slots : Nat} {lv : List (Nat × Value)} {pc idx : Nat} {rest : List Value} {O : Nat → Nat → Nat} {Q : Nat → Nat → Nat → Nat} {ad ae : Nat} {v : TV} {w : TXT} {f : Nat → Int32} {oa : PO} {ok : PO} {ta : Nat → TV} {tk : Nat → TV} {d : Nat → Int32} {e : Nat → Int32} {z : ScrT}
theorem k_dld (X : CX E μ Γ) {j : Nat} (hj : j < 48) (dd : decode μ.2.1 pc = .ok (.iaload, 1)) (k : GG E μ Γ cells slots (wL E O Q ad ae v w f oa ok ta tk d e z) lv (pc + 1) (.int (d j) :: rest)) : GG E μ Γ cells slots (wL E O Q ad ae v w f oa ok ta tk d e z) lv pc (.int (nI j) :: .ref ad :: rest) := by
  obtain ⟨dv, u, P, B, C, M, N, f0, g0, wv, uv⟩ := z
  obtain ⟨q0, h0⟩ := List.getElem?_of_mem (List.mem_flatten.mpr ⟨wAr E ad 48 d, List.mem_of_getElem? (l := [wTS E O, wTw E (O 3 0) (O 4) (O 5) (tR v) (tN v), wSv E (O 4) (tA v), wSv E (O 5) (tB v), wTw E (O 6 0) (O 7) (O 8) (tR dv) (tN dv), wSv E (O 7) (tA dv), wSv E (O 8) (tB dv), wTx E (O 1) w, wRd E (O 2) u, wSh E (O 11) f, wPo E (O 9) (O 17) 8 oa, wPt E (O 17) (Q 0) (Q 1) 8 ta, wPo E (O 10) (O 18) 2 ok, wPt E (O 18) (Q 2) (Q 3) 2 tk, wMo E (O 12) (O 13) (O 14) P, wRw E (O 13) B, wRw E (O 14) C, wAr E (O 12 3) 8 M, wAr E (O 12 4) 8 N, wAr E (O 12 5) 8 f0, wAr E (O 12 6) 8 g0, wWy E (O 15) wv, wTr E (O 16 0) uv, wAr E ad 48 d, wAr E ae 54 e]) (i := 23) rfl, List.mem_singleton.mpr rfl⟩)
  exact g_iald X q0 h0 j (ix_nI hj (by decide)) dd k
theorem k_eld (X : CX E μ Γ) {j : Nat} (hj : j < 54) (dd : decode μ.2.1 pc = .ok (.iaload, 1)) (k : GG E μ Γ cells slots (wL E O Q ad ae v w f oa ok ta tk d e z) lv (pc + 1) (.int (e j) :: rest)) : GG E μ Γ cells slots (wL E O Q ad ae v w f oa ok ta tk d e z) lv pc (.int (nI j) :: .ref ae :: rest) := by
  obtain ⟨dv, u, P, B, C, M, N, f0, g0, wv, uv⟩ := z
  obtain ⟨q0, h0⟩ := List.getElem?_of_mem (List.mem_flatten.mpr ⟨wAr E ae 54 e, List.mem_of_getElem? (l := [wTS E O, wTw E (O 3 0) (O 4) (O 5) (tR v) (tN v), wSv E (O 4) (tA v), wSv E (O 5) (tB v), wTw E (O 6 0) (O 7) (O 8) (tR dv) (tN dv), wSv E (O 7) (tA dv), wSv E (O 8) (tB dv), wTx E (O 1) w, wRd E (O 2) u, wSh E (O 11) f, wPo E (O 9) (O 17) 8 oa, wPt E (O 17) (Q 0) (Q 1) 8 ta, wPo E (O 10) (O 18) 2 ok, wPt E (O 18) (Q 2) (Q 3) 2 tk, wMo E (O 12) (O 13) (O 14) P, wRw E (O 13) B, wRw E (O 14) C, wAr E (O 12 3) 8 M, wAr E (O 12 4) 8 N, wAr E (O 12 5) 8 f0, wAr E (O 12 6) 8 g0, wWy E (O 15) wv, wTr E (O 16 0) uv, wAr E ad 48 d, wAr E ae 54 e]) (i := 24) rfl, List.mem_singleton.mpr rfl⟩)
  exact g_iald X q0 h0 j (ix_nI hj (by decide)) dd k
set_option maxHeartbeats 4000000 in
set_option maxRecDepth 100000 in
theorem k_some (X : CX E μ Γ) {b L : Nat} {xs : Nat → Int32} (Z : SC Γ b L xs) (hL : L < 2 ^ 31) {m : Nat} (hm : m ≤ 1000) (hd : DE v d e) (ho : ordO 8 oa) (hs : SSite μ.1.cls idx m_L_some 6) (hR : rmOK m_L_some μ = true) (hcat : (rest.map fun v => v.category).sum ≤ 8) (dd : decode μ.2.1 pc = .ok (.invokestatic idx, 3))
    (k : ∀ (v1 : TV) (oa1 : PO) (ta1 : Nat → TV) (d1 e1 : Nat → Int32), DE v1 d1 e1 → ordO 8 oa1 → GG E μ Γ cells slots (wL E O Q ad ae v1 w f oa1 ok ta1 tk d1 e1 z) lv (pc + 3) (.int (nI 1) :: rest)) (hcs : cells ≤ μ.2.2.2.2.cells ∧ slots ≤ μ.2.2.2.2.slots) : GG E μ Γ cells slots (wL E O Q ad ae v w f oa ok ta tk d e z) lv pc (.ref ae :: .ref ad :: .int (nI 4) :: .int (nI m) :: .ref b :: .ref (O 0 0) :: rest) := by
  obtain ⟨dv, u, P, B, C, M, N, f0, g0, wv, uv⟩ := z
  have hp := sgP_perm (S := [wTS E O, wTw E (O 3 0) (O 4) (O 5) (tR v) (tN v), wSv E (O 4) (tA v), wSv E (O 5) (tB v), wTw E (O 6 0) (O 7) (O 8) (tR dv) (tN dv), wSv E (O 7) (tA dv), wSv E (O 8) (tB dv), wTx E (O 1) w, wRd E (O 2) u, wSh E (O 11) f, wPo E (O 9) (O 17) 8 oa, wPt E (O 17) (Q 0) (Q 1) 8 ta, wPo E (O 10) (O 18) 2 ok, wPt E (O 18) (Q 2) (Q 3) 2 tk, wMo E (O 12) (O 13) (O 14) P, wRw E (O 13) B, wRw E (O 14) C, wAr E (O 12 3) 8 M, wAr E (O 12 4) 8 N, wAr E (O 12 5) 8 f0, wAr E (O 12 6) 8 g0, wWy E (O 15) wv, wTr E (O 16 0) uv, wAr E ad 48 d, wAr E ae 54 e]) (is := [0, 1, 2, 3, 10, 11, 23, 24]) (js := [4, 5, 6, 7, 8, 9, 12, 13, 14, 15, 16, 17, 18, 19, 20, 21, 22]) (n := 25) rfl (by decide +kernel)
  refine g_callXP (wc := [wTS E O, wTw E (O 3 0) (O 4) (O 5) (tR v) (tN v), wSv E (O 4) (tA v), wSv E (O 5) (tB v), wPo E (O 9) (O 17) 8 oa, wPt E (O 17) (Q 0) (Q 1) 8 ta, wAr E ad 48 d, wAr E ae 54 e].flatten) (wr := [wTw E (O 6 0) (O 7) (O 8) (tR dv) (tN dv), wSv E (O 7) (tA dv), wSv E (O 8) (tB dv), wTx E (O 1) w, wRd E (O 2) u, wSh E (O 11) f, wPo E (O 10) (O 18) 2 ok, wPt E (O 18) (Q 2) (Q 3) 2 tk, wMo E (O 12) (O 13) (O 14) P, wRw E (O 13) B, wRw E (O 14) C, wAr E (O 12 3) 8 M, wAr E (O 12 4) 8 N, wAr E (O 12 5) 8 f0, wAr E (O 12 6) 8 g0, wWy E (O 15) wv, wTr E (O 16 0) uv].flatten) (As := [.ref (O 0 0), .ref b, .int (nI m), .int (nI 4), .ref ad, .ref ae]) (rest := rest) X Z (c_L_some E b L xs hL O Q v oa ta ad d ae e m hm hd ho) hs hR hp rfl rfl hcat dd hcs (fun r w' h => ?_)
  obtain ⟨rfl, v1, oa1, ta1, d1, e1, h1, h2, rfl⟩ := h
  have hp2 := sgP_perm (S := [wTS E O, wTw E (O 3 0) (O 4) (O 5) (tR v1) (tN v1), wSv E (O 4) (tA v1), wSv E (O 5) (tB v1), wTw E (O 6 0) (O 7) (O 8) (tR dv) (tN dv), wSv E (O 7) (tA dv), wSv E (O 8) (tB dv), wTx E (O 1) w, wRd E (O 2) u, wSh E (O 11) f, wPo E (O 9) (O 17) 8 oa1, wPt E (O 17) (Q 0) (Q 1) 8 ta1, wPo E (O 10) (O 18) 2 ok, wPt E (O 18) (Q 2) (Q 3) 2 tk, wMo E (O 12) (O 13) (O 14) P, wRw E (O 13) B, wRw E (O 14) C, wAr E (O 12 3) 8 M, wAr E (O 12 4) 8 N, wAr E (O 12 5) 8 f0, wAr E (O 12 6) 8 g0, wWy E (O 15) wv, wTr E (O 16 0) uv, wAr E ad 48 d1, wAr E ae 54 e1]) (is := [0, 1, 2, 3, 10, 11, 23, 24]) (js := [4, 5, 6, 7, 8, 9, 12, 13, 14, 15, 16, 17, 18, 19, 20, 21, 22]) (n := 25) rfl (by decide +kernel)
  exact GG.perm (List.perm_append_comm.trans hp2.symm) (k v1 oa1 ta1 d1 e1 h1 h2)
end LK
