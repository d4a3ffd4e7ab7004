/-! ===== the first towns are read from the text ===== -/
theorem g_ldcS {E : GE} {μ : MD} {Γ : GC} {cells slots : Nat} {lv : List (Nat × Value)} {pc : Nat} {rest : List Value} {ws : va_W} (X : CX E μ Γ) {qs : Nat × Nat} (Z : EX qs Γ.2.2.2.2.2.2.2.2.1 Γ.2.2.1) (hc : μ.1.cls = "TwoSurveys") (d : decode μ.2.1 pc = .ok (.ldc_w 264, 3))
    (k : GG E μ Γ cells slots ws lv (pc + 3) (.ref qs.1 :: rest)) : GG E μ Γ cells slots ws lv pc rest := by
  intro H locs ls hP hD hS hl T hT X0
  obtain ⟨t, a1, b1⟩ := k H locs ls hP hD hS hl T hT X0
  have ho := X.1.2.2.2.1
  rw [hc] at ho
  exact ⟨t, X0.ldcStringW X.1.1 ho (text := stT) (a := qs.1) Z.2.2.2.1.1 Z.2.2.2.1.2 (g := F0 Γ.2.2.2.1 pc ls rest) rfl (by rw [X.1.2.1]; exact d) t a1, b1⟩
theorem GG.drop {E : GE} {μ : MD} {Γ : GC} {cells slots : Nat} {lv : List (Nat × Value)} {pc : Nat} {st : List Value} {wj ws : va_W} (k : GG E μ Γ cells slots ws lv pc st) : GG E μ Γ cells slots (wj ++ ws) lv pc st := by
  intro H locs ls hP hD hS hl
  have hd := va_D_iff.mp hD
  rw [List.map_append] at hd
  exact k H locs ls (va_P_iff.mpr (fun q hq => va_P_iff.mp hP q (List.mem_append_right _ hq))) (va_D_iff.mpr ⟨(List.nodup_append.mp hd.1).2.1, fun q hq => hd.2 q (List.mem_append_right _ hq)⟩) hS hl
def stW : Nat → (Nat → Int32) × Nat
  | 0 => (zf, 0)
  | k + 1 => txAdd (stW k) (stC k)
theorem stW_2 : ∀ k, k ≤ 190 → (stW k).2 = k
  | 0, _ => rfl
  | k + 1, h => by
    have ih := stW_2 k (by omega)
    show (txAdd (stW k) (stC k)).2 = k + 1
    unfold txAdd
    rw [if_pos (by omega)]
    show (stW k).2 + 1 = k + 1
    omega
def stR : Int32 × Nat × (Nat → Int32) × TV := rdAll (txAt (stW 190)) (stW 190).2 200 0 zf (tClear tv0)
def stV : TV := stR.2.2.2
def StR (E : GE) (v : Option Value) (w : va_W) : Prop := ∃ (t : Nat) (a b : Nat → Nat), v = some (.ref t) ∧ w = wTo3 E t a b stV
set_option maxHeartbeats 4000000 in
set_option maxRecDepth 100000 in
theorem st_loop (E : GE) (q : Nat × Nat) (Γ : GC) (X : CX E n_X9_startTowns Γ) (Z : EX q Γ.2.2.2.2.2.2.2.2.1 Γ.2.2.1) (hx : RN E n_X9_startTowns Γ (StR E)) (a : Nat → Nat) :
    ∀ (n k : Nat), k ≤ 190 → 190 - k < n → GG E n_X9_startTowns Γ 2 202 ([wTx E a (stW k)].flatten) [(1, .int (nI k)), (0, .ref (a 0))] 10 [] := by
  intro n
  induction n with
  | zero => intro k h1 h2; exact absurd h2 (Nat.not_lt_zero _)
  | succ n ih =>
    intro k h1 h2
    have e2 := stW_2 k h1
    refine g_iload_n X 0 dX9_startTowns_10 rfl ?_
    refine g_ldcS X Z rfl dX9_startTowns_11 ?_
    refine g_callNV X Z (As := []) (rest := [.int (nI k)]) (c_length E q) zs_ln rfl rfl rfl rfl (Nat.le_of_ble_eq_true rfl) dX9_startTowns_14 ⟨Nat.le_of_ble_eq_true rfl, Nat.le_of_ble_eq_true rfl⟩ ?_
    refine g_icmp_ge (tgt := 38) X dX9_startTowns_17 (by decide) (fun c => ?_) (fun c => ?_)
    · have ek : k = 190 := by have := n_le (by omega) (by omega) c; omega
      subst ek
      refine g_new (S := [wTx E a (stW 190)]) X nw_X9_23 (Nat.le_of_ble_eq_true rfl) (Nat.le_of_ble_eq_true rfl) dX9_startTowns_38 (fun t => ?_)
      refine g_dup X dX9_startTowns_41 rfl ?_
      refine g_callI (S := [wTx E a (stW 190), wOb t 6 [.null, .null, .int 0, .int 0]]) (C := [wOb t 6 [.null, .null, .int 0, .int 0]]) (R := [wTx E a (stW 190)]) (As := []) (rest := [.ref t]) X Z (c_X6_init E q t) is_X9_25 rfl [1] [0] 2 rfl (by decide) rfl rfl rfl rfl (Nat.le_of_ble_eq_true rfl) dX9_startTowns_42 ⟨Nat.le_of_ble_eq_true rfl, Nat.le_of_ble_eq_true rfl⟩ (fun v w hw => ?_)
      obtain ⟨rfl, ta, tb, hp⟩ := hw
      refine GG.perm (ws' := [wTx E a (stW 190), wTo3 E t ta tb tv0].flatten) (pm_app (R := [wTx E a (stW 190)]) hp (by simp only [List.flatten_cons, List.flatten_nil, List.append_nil, List.append_assoc])) ?_
      refine g_astore_n (lv' := [(1, .ref t), (0, .ref (a 0))]) X dX9_startTowns_45 (by decide) rfl ?_
      refine g_new (S := [wTx E a (stW 190), wTo3 E t ta tb tv0]) X nw_X9_16 (Nat.le_of_ble_eq_true rfl) (Nat.le_of_ble_eq_true rfl) dX9_startTowns_46 (fun r => ?_)
      refine g_dup X dX9_startTowns_49 rfl ?_
      refine g_callI (S := [wTx E a (stW 190), wTo3 E t ta tb tv0, wOb r 2 [.null, .int 0]]) (C := [wOb r 2 [.null, .int 0]]) (R := [wTx E a (stW 190), wTo3 E t ta tb tv0]) (As := []) (rest := [.ref r]) X Z (c_X2_init E q r) is_X9_18 rfl [2] [0, 1] 3 rfl (by decide) rfl rfl rfl rfl (Nat.le_of_ble_eq_true rfl) dX9_startTowns_50 ⟨Nat.le_of_ble_eq_true rfl, Nat.le_of_ble_eq_true rfl⟩ (fun v w hw => ?_)
      obtain ⟨rfl, c2, rfl, hp2⟩ := hw
      refine GG.perm (ws' := [wTx E a (stW 190), wTw E t ta tb (tR tv0) (tN tv0), wSv E ta (tA tv0), wSv E tb (tB tv0), wRd E c2 (zf, 0)].flatten) (pm_app (R := [wTx E a (stW 190), wTo3 E t ta tb tv0]) hp2 (by simp only [wTo3, List.flatten_cons, List.flatten_nil, List.append_nil, List.append_assoc])) ?_
      refine g_aload_n X 1 dX9_startTowns_53 rfl ?_
      refine g_aload_n X 0 dX9_startTowns_54 rfl ?_
      refine g_callV (S' := [wTx E a (stW 190), wTw E t ta tb (tR stV) (tN stV), wSv E ta (tA stV), wSv E tb (tB stV), wRd E c2 (stR.2.2.1, stR.2.1)]) (st2 := [.int stR.1]) (q0 := 0) X (c_X2_read E c2 (zf, 0) a (stW 190) t ta tb tv0 (by rw [e2]; decide)) cs_X9_88 rfl [4, 0, 1, 2, 3] [] 5 rfl rfl (by decide) [] rfl rfl rfl rfl (by simp only [List.map_cons, List.map_nil, fsTx, fsTw, fsSv, fsRd]) rfl rfl rfl rfl (Nat.le_of_ble_eq_true rfl) dX9_startTowns_55 rfl ?_ ⟨Nat.le_of_ble_eq_true rfl, Nat.le_of_ble_eq_true rfl⟩
      refine g_pop X dX9_startTowns_58 rfl ?_
      refine g_aload_n X 0 dX9_startTowns_59 rfl ?_
      refine GG.perm (ws' := (wTx E a (stW 190) ++ wRd E c2 (stR.2.2.1, stR.2.1)) ++ wTo3 E t ta tb stV) ((sg_re (S' := [wTx E a (stW 190), wRd E c2 (stR.2.2.1, stR.2.1), wTw E t ta tb (tR stV) (tN stV), wSv E ta (tA stV), wSv E tb (tB stV)]) [0, 4, 1, 2, 3] 5 rfl (by decide) rfl).trans (List.Perm.of_eq (by simp only [wTo3, List.flatten_cons, List.flatten_nil, List.append_nil, List.append_assoc]))) ?_
      refine GG.drop ?_
      exact g_aretN X hx rfl (List.Perm.refl _) ⟨t, ta, tb, rfl, rfl⟩ ⟨Nat.le_of_ble_eq_true rfl, Nat.le_of_ble_eq_true rfl⟩ dX9_startTowns_60
    · have hk := n_nle (by omega) (by omega) c
      refine g_aload_n X 1 dX9_startTowns_20 rfl ?_
      refine g_ldcS X Z rfl dX9_startTowns_21 ?_
      refine g_iload_n X 0 dX9_startTowns_24 rfl ?_
      refine g_callNV X Z (As := [.int (nI k)]) (rest := [.ref (a 0)]) (c_charAt E q k hk) zs_ch rfl rfl rfl rfl (Nat.le_of_ble_eq_true rfl) dX9_startTowns_25 ⟨Nat.le_of_ble_eq_true rfl, Nat.le_of_ble_eq_true rfl⟩ ?_
      refine g_callV (S' := [wTx E a (stW (k + 1))]) (st2 := [.int (b2i (decide ((stW k).2 < 200)))]) (q0 := 0) X (c_X5_add E a (stW k) (stC k) (by omega)) cs_X9_77 rfl [0] [] 1 rfl rfl (by decide) [] rfl rfl rfl rfl (by simp only [List.map_cons, List.map_nil, fsTx]) rfl rfl rfl rfl (Nat.le_of_ble_eq_true rfl) dX9_startTowns_28 rfl ?_ ⟨Nat.le_of_ble_eq_true rfl, Nat.le_of_ble_eq_true rfl⟩
      refine g_pop X dX9_startTowns_31 rfl ?_
      refine g_iincN (lv' := [(1, .int (nI (k + 1))), (0, .ref (a 0))]) X 0 dX9_startTowns_32 rfl (by decide) rfl ?_
      refine g_goto (tgt := 10) X dX9_startTowns_35 (by decide) ?_
      exact ih (k + 1) hk (by omega)
set_option maxHeartbeats 4000000 in
set_option maxRecDepth 100000 in
theorem c_X9_startTowns (E : GE) (q : Nat × Nat) : CN E q n_X9_startTowns [] [] (StR E) := by
  refine CN.intro (by decide +kernel) (Nat.le_of_ble_eq_true rfl) (fun Γ X Z hx => ?_)
  refine GG.lv [] (lv' := []) rfl ?_
  refine g_new (S := []) X nw_X9_7 (Nat.le_of_ble_eq_true rfl) (Nat.le_of_ble_eq_true rfl) dX9_startTowns_0 (fun x => ?_)
  refine g_dup X dX9_startTowns_3 rfl ?_
  refine g_callI (S := [wOb x 5 [.null, .int 0]]) (C := [wOb x 5 [.null, .int 0]]) (R := []) (As := []) (rest := [.ref x]) X Z (c_X5_init E q x) is_X9_9 rfl [0] [] 1 rfl (by decide) rfl rfl rfl rfl (Nat.le_of_ble_eq_true rfl) dX9_startTowns_4 ⟨Nat.le_of_ble_eq_true rfl, Nat.le_of_ble_eq_true rfl⟩ (fun v w hw => ?_)
  obtain ⟨rfl, a, rfl, hp⟩ := hw
  refine GG.perm (ws' := [wTx E a (stW 0)].flatten) (pm_app (R := []) hp (by simp only [List.flatten_cons, List.flatten_nil, List.append_nil, List.nil_append]; rfl)) ?_
  refine g_astore_n (lv' := [(0, .ref (a 0))]) X dX9_startTowns_7 (by decide) rfl ?_
  refine g_iconst (v := nI 0) X dX9_startTowns_8 rfl ?_
  refine g_istore_n (lv' := [(1, .int (nI 0)), (0, .ref (a 0))]) X dX9_startTowns_9 (by decide) rfl ?_
  exact st_loop E q Γ X Z hx a 191 0 (by decide) (by decide)
theorem g_callSN {E : GE} {μ : MD} {Γ : GC} {cells slots : Nat} {lv : List (Nat × Value)} {pc : Nat} {rest : List Value} (X : CX E μ Γ) {qs : Nat × Nat} (Z : EX qs Γ.2.2.2.2.2.2.2.2.1 Γ.2.2.1) {S : List va_W} {ν : MD} {As : List Value} {Rn : Option Value → va_W → Prop} {idx n : Nat} {st : List Value} (hM : CN E qs ν As [] Rn) (hs : SSite μ.1.cls idx ν n) (hR : rmK ν μ = true)
    (hst : st = As.reverse ++ rest) (hn : As.length = n) (hcat : (rest.map fun v => v.category).sum ≤ 8) (d : decode μ.2.1 pc = .ok (.invokestatic idx, 3)) (hcs : cells + ν.2.2.2.2.cells ≤ μ.2.2.2.2.cells ∧ slots + ν.2.2.2.2.slots ≤ μ.2.2.2.2.slots)
    (k : ∀ (v : Option Value) (w' : va_W), Rn v w' → GG E μ Γ (cells + ν.2.2.2.2.cells) (slots + ν.2.2.2.2.slots) (S ++ [w']).flatten lv (pc + 3) (v.toList ++ rest)) : GG E μ Γ cells slots S.flatten lv pc st := by
  obtain ⟨hR3, hR4⟩ := rmK_sp hR
  intro H locs ls hP hD hS hl
  have hPc : va_P E.2.1 vwCl [] H := fun k q hk => by simp at hk
  have hFc : ∀ q, va_A [] H.size q → Γ.2.2.2.2.2.2.2.2.1 q := va_free hD hS X.2.2.1 [] rfl
  refine run_goN (va_runS ⟨X.1.1, X.1.2.1, X.1.2.2.1, X.1.2.2.2.1, X.1.2.2.2.2⟩ (hM H.size) (va_cwS n X.1.2.2.2.2 hs.1 rfl rfl rfl hs.2 ⟨hR3, hR4⟩) ⟨CNp.blind, fun U hU hW => ⟨rfl, ⟨by rw [hU], by rw [hU]; exact hPc, EV.warm hW X.2.1, va_D.sub hD [] rfl rfl |>.weaken (fun _ _ _ _ => trivial)⟩, EX.go hW (fun a h1 h2 => by rw [hU]; exact hS.2.1 a h1 h2) hFc Z⟩⟩ rfl hn hl.1 hst (lv_room hcat) d hcs) hS (fun q _ h => hFc q h) hFc (fun H1 locs1 v w' hRn hP1 hD1 hz hk hS1 => ?_)
  obtain ⟨hP', hD'⟩ := va_after2 (wc := []) hP hD hk hFc hP1 hD1
  exact k v w' hRn H1 locs1 ls (by rw [sg_push]; exact hP') (by rw [sg_push]; exact hD') hS1 hl
