/-! ===== acts: the same told and done ===== -/
abbrev tK (x : Int32) : Nat := lwN x 8
abbrev tG (x : Int32) : Nat := lwN (x >>> (nI 3 &&& 31)) 2
abbrev tI (x : Int32) : Nat := lwN (x >>> (nI 4 &&& 31)) 9
abbrev tJ (x : Int32) : Nat := lwN (x >>> (nI 8 &&& 31)) 9
abbrev tQ (x : Int32) : Nat := lwN (x >>> (nI 12 &&& 31)) 11
abbrev tXa (x : Int32) : Nat := lwN (x >>> (nI 8 &&& 31)) 64
abbrev tXb (x : Int32) : Nat := lwN (x >>> (nI 14 &&& 31)) 64
abbrev tC (x : Int32) : Nat := lwN (x >>> (nI 8 &&& 31)) 5
abbrev tT (x : Int32) : Nat := lwN (x >>> (nI 8 &&& 31)) 22
/-- by the draw's parts -/
def kV (v : TV) (K G I J Q A B C T : Nat) : Int32 :=
  if K < 2 then mvV v (nI G) (nI I) (nI A) (nI B) else if K = 2 then rnV v (nI G) (nI I) (nI C) else if K = 3 then nmV v (nI G) (nI I) (nI Q)
  else if K < 6 then jnV v (nI G) (nI I) (nI J) (nI Q) else if K = 6 then ctV v (nI G) (nI I) else if G = 0 then tnV v (nI G) (nI T) else tnV v (nI G) (nI C)
def kB (v : TV) (K G I J Q A B C T : Nat) : Bool :=
  if K < 2 then mvB v (nI G) (nI I) (nI A) (nI B) else if K = 2 then rnB v (nI G) (nI I) (nI C) else if K = 3 then nmB v (nI G) (nI I) (nI Q)
  else if K < 6 then jnB v (nI G) (nI I) (nI J) (nI Q) else if K = 6 then hasS v (nI G) (nI I) else if G = 0 then tnB v (nI G) (nI T) else tnB v (nI G) (nI C)
def kT (v : TV) (K G I J Q A B C T : Nat) : TV :=
  if K < 2 then (if mvB v (nI G) (nI I) (nI A) (nI B) then tPut v (nI G) (svPut (svOf v (nI G)) (nI I).toNatClampNeg (nI A) (nI B)) else v)
  else if K = 2 then (if rnB v (nI G) (nI I) (nI C) then tPut v (nI G) (svKind (svOf v (nI G)) (nI I).toNatClampNeg (nI C)) else v)
  else if K = 3 then (if nmB v (nI G) (nI I) (nI Q) then tPut v (nI G) (svName (svOf v (nI G)) (nI I).toNatClampNeg (nI Q)) else v)
  else if K < 6 then (if jnB v (nI G) (nI I) (nI J) (nI Q) then tPut v (nI G) (svAddS (svOf v (nI G)) (nI I) (nI J) (nI Q)) else v)
  else if K = 6 then (if hasS v (nI G) (nI I) then tPut v (nI G) (svDrop (svOf v (nI G)) (nI I).toNatClampNeg) else v)
  else if G = 0 then tnT v (nI G) (nI T) else tnT v (nI G) (nI C)
def aV (v : TV) (d e : Nat → Int32) (K G I J Q A B C T : Nat) : Int32 :=
  if K < 2 then (if I < mmV v G ∧ A ≤ 60 ∧ B ≤ 60 then (if d (16 + (8 * G + I)) = nI A ∧ d (32 + (8 * G + I)) = nI B then -2 else nI 1) else -1)
  else if K = 4 ∨ K = 5 then (if I < mmV v G ∧ J < mmV v G ∧ ¬ I = J ∧ Q ≤ 9 then (if stL e G (nI I) (nI J) (ssV v G) < 0 ∧ ¬ ssV v G = 8 then nI (ssV v G + 1) else if ssV v G = 8 ∧ stL e G (nI I) (nI J) (ssV v G) < 0 then -3 else -2) else -1)
  else if K = 6 then (if I < ssV v G then nI (ssV v G - 1) else -1)
  else if K = 2 then (if I < mmV v G ∧ C ≤ 3 then (if d (8 * G + I) = nI C then -2 else d (8 * G + I)) else -1)
  else if K = 3 then (if I < ssV v G ∧ Q ≤ 9 then (if e (32 + (8 * G + I)) = nI Q then -2 else e (32 + (8 * G + I))) else -1)
  else if G = 0 then (if 1 ≤ T ∧ T ≤ 20 then (if e (52 + G) = nI T then -2 else e (52 + G)) else -1)
  else (if C ≤ 3 then (if e (52 + G) = nI C then -2 else e (52 + G)) else -1)
def aD (v : TV) (d : Nat → Int32) (K G I A B C : Nat) : Nat → Int32 :=
  if K < 2 then (if I < mmV v G ∧ A ≤ 60 ∧ B ≤ 60 then upd (upd d (16 + (8 * G + I)) (nI A)) (32 + (8 * G + I)) (nI B) else d)
  else if K = 2 then (if I < mmV v G ∧ C < 4 then upd d (8 * G + I) (nI C) else d) else d
def aE (v : TV) (e : Nat → Int32) (K G I J Q C T : Nat) : Nat → Int32 :=
  if K < 2 then e
  else if K = 4 ∨ K = 5 then (if I < mmV v G ∧ J < mmV v G ∧ ¬ I = J ∧ Q ≤ 9 then (if stL e G (nI I) (nI J) (ssV v G) < 0 ∧ ¬ ssV v G = 8 then jnE e G (ssV v G) (nI I) (nI J) (nI Q) else e) else e)
  else if K = 6 then (if I < ssV v G then ctE e G (ssV v G) I else e)
  else if K = 2 then e
  else if K = 3 then (if I < ssV v G ∧ Q ≤ 9 then upd e (32 + (8 * G + I)) (nI Q) else e)
  else if G = 0 then upd e (52 + G) (if 1 ≤ T ∧ T ≤ 20 then nI T else e (52 + G))
  else upd e (52 + G) (if C ≤ 3 then nI C else e (52 + G))
theorem inR_d {x lo hi : Nat} (hx : x < 2 ^ 31) (hl : lo < 2 ^ 31) (hh : hi < 2 ^ 31) : inR (nI x) (nI lo) (nI hi) = decide (lo ≤ x ∧ x ≤ hi) := by
  unfold inR
  have a1 : (¬ nI x < nI lo) ↔ lo ≤ x := by rw [nI_ltI hx hl]; omega
  have a2 : (¬ nI hi < nI x) ↔ x ≤ hi := by rw [nI_ltI hh hx]; omega
  by_cases c : lo ≤ x ∧ x ≤ hi
  · rw [decide_eq_true c]; exact decide_eq_true ⟨a1.mpr c.1, a2.mpr c.2⟩
  · rw [decide_eq_false c]; exact decide_eq_false (fun q => c ⟨a1.mp q.1, a2.mp q.2⟩)
theorem upd_self {f : Nat → Int32} {k : Nat} {x : Int32} (h : f k = x) : upd f k x = f := by
  funext i
  by_cases q : i = k
  · subst q; rw [upd_s]; exact h.symm
  · rw [upd_n _ _ q]
section ACT
variable {v : TV} {d e : Nat → Int32} {G I J Q A B C T : Nat}
theorem DE.px (h : DE v d e) (hG : G < 2) (hI : I < mmV v G) : sKd (svG v G) I = d (8 * G + I) ∧ sX (svG v G) I = d (16 + (8 * G + I)) ∧ sY (svG v G) I = d (32 + (8 * G + I)) := (h.rel hG).2.2.1 I (by rw [mm_sv]; exact hI)
theorem DE.pn (h : DE v d e) (hG : G < 2) (hI : I < ssV v G) : sU (svG v G) I = e (8 * G + I) ∧ sV (svG v G) I = e (16 + (8 * G + I)) ∧ sNm (svG v G) I = e (32 + (8 * G + I)) := (h.rel hG).2.2.2 I (by rw [ss_sv]; exact hI)
theorem act_mv (h : DE v d e) (hG : G < 2) (hI : I < 9) (hA : A < 64) (hB : B < 64) :
    mvV v (nI G) (nI I) (nI A) (nI B) = (if I < mmV v G ∧ A ≤ 60 ∧ B ≤ 60 then (if d (16 + (8 * G + I)) = nI A ∧ d (32 + (8 * G + I)) = nI B then -2 else nI 1) else -1) ∧
    DE (if mvB v (nI G) (nI I) (nI A) (nI B) then tPut v (nI G) (svPut (svOf v (nI G)) (nI I).toNatClampNeg (nI A) (nI B)) else v) (if I < mmV v G ∧ A ≤ 60 ∧ B ≤ 60 then upd (upd d (16 + (8 * G + I)) (nI A)) (32 + (8 * G + I)) (nI B) else d) e := by
  have hc : (nI I).toNatClampNeg = I := nI_clamp (by omega)
  have e1 : mvA v (nI G) (nI I) (nI A) (nI B) = decide (I < mmV v G ∧ A ≤ 60 ∧ B ≤ 60) := by
    unfold mvA
    rw [hasM_d h.ok hG (by omega), inR_d (by omega) (by omega) (by omega), inR_d (by omega) (by omega) (by omega)]
    by_cases q : I < mmV v G ∧ A ≤ 60 ∧ B ≤ 60
    · simp [q.1, q.2.1, q.2.2]
    · rw [decide_eq_false q]
      simp only [Bool.and_eq_false_iff, decide_eq_false_iff_not]
      omega
  have e2 : mvB v (nI G) (nI I) (nI A) (nI B) = (decide (I < mmV v G ∧ A ≤ 60 ∧ B ≤ 60) && decide (¬ (sX (svG v G) I = nI A ∧ sY (svG v G) I = nI B))) := by
    unfold mvB
    rw [e1, hc, svOf_g v hG]
  unfold mvV
  rw [e1, e2, hc, svOf_g v hG]
  by_cases q : I < mmV v G ∧ A ≤ 60 ∧ B ≤ 60
  · have hp := h.px hG q.1
    rw [hp.2.1, hp.2.2, decide_eq_true q, if_pos rfl, if_pos q, if_pos q, Bool.true_and]
    by_cases p : d (16 + (8 * G + I)) = nI A ∧ d (32 + (8 * G + I)) = nI B
    · rw [decide_eq_false (fun n => n p), if_pos p]
      refine ⟨rfl, ?_⟩
      rw [upd_self p.1, upd_self p.2]
      exact h
    · rw [decide_eq_true p, if_neg p]
      exact ⟨rfl, de_move h hG q.1 q.2.1 q.2.2⟩
  · rw [decide_eq_false q, if_neg q, if_neg q]
    exact ⟨rfl, h⟩
theorem act_rn (h : DE v d e) (hG : G < 2) (hI : I < 9) (hC : C < 5) :
    rnV v (nI G) (nI I) (nI C) = (if I < mmV v G ∧ C ≤ 3 then (if d (8 * G + I) = nI C then -2 else d (8 * G + I)) else -1) ∧
    DE (if rnB v (nI G) (nI I) (nI C) then tPut v (nI G) (svKind (svOf v (nI G)) (nI I).toNatClampNeg (nI C)) else v) (if I < mmV v G ∧ C < 4 then upd d (8 * G + I) (nI C) else d) e := by
  have hc : (nI I).toNatClampNeg = I := nI_clamp (by omega)
  have e1 : rnA v (nI G) (nI I) (nI C) = decide (I < mmV v G ∧ C ≤ 3) := by
    unfold rnA
    rw [hasM_d h.ok hG (by omega), inR_d (by omega) (by omega) (by omega)]
    by_cases q : I < mmV v G ∧ C ≤ 3
    · simp [q.1, q.2]
    · rw [decide_eq_false q]
      simp only [Bool.and_eq_false_iff, decide_eq_false_iff_not]
      omega
  have e2 : rnB v (nI G) (nI I) (nI C) = (decide (I < mmV v G ∧ C ≤ 3) && decide (¬ sKd (svG v G) I = nI C)) := by
    unfold rnB
    rw [e1, hc, svOf_g v hG]
  unfold rnV
  rw [e1, e2, hc, svOf_g v hG]
  by_cases q : I < mmV v G ∧ C ≤ 3
  · have hp := h.px hG q.1
    rw [hp.1, decide_eq_true q, if_pos rfl, if_pos q, if_pos (show I < mmV v G ∧ C < 4 by omega), Bool.true_and]
    by_cases p : d (8 * G + I) = nI C
    · rw [decide_eq_false (fun n => n p), if_pos p]
      refine ⟨rfl, ?_⟩
      rw [upd_self p]
      exact h
    · rw [decide_eq_true p, if_neg p]
      exact ⟨rfl, de_kind h hG q.1 q.2⟩
  · rw [decide_eq_false q, if_neg q, if_neg (show ¬ (I < mmV v G ∧ C < 4) by omega)]
    exact ⟨rfl, h⟩
theorem act_nm (h : DE v d e) (hG : G < 2) (hI : I < 9) (hQ : Q < 11) :
    nmV v (nI G) (nI I) (nI Q) = (if I < ssV v G ∧ Q ≤ 9 then (if e (32 + (8 * G + I)) = nI Q then -2 else e (32 + (8 * G + I))) else -1) ∧
    DE (if nmB v (nI G) (nI I) (nI Q) then tPut v (nI G) (svName (svOf v (nI G)) (nI I).toNatClampNeg (nI Q)) else v) d (if I < ssV v G ∧ Q ≤ 9 then upd e (32 + (8 * G + I)) (nI Q) else e) := by
  have hc : (nI I).toNatClampNeg = I := nI_clamp (by omega)
  have e1 : nmA v (nI G) (nI I) (nI Q) = decide (I < ssV v G ∧ Q ≤ 9) := by
    unfold nmA
    rw [hasS_d h.ok hG (by omega), inR_d (by omega) (by omega) (by omega)]
    by_cases q : I < ssV v G ∧ Q ≤ 9
    · simp [q.1, q.2]
    · rw [decide_eq_false q]
      simp only [Bool.and_eq_false_iff, decide_eq_false_iff_not]
      omega
  have e2 : nmB v (nI G) (nI I) (nI Q) = (decide (I < ssV v G ∧ Q ≤ 9) && decide (¬ sNm (svG v G) I = nI Q)) := by
    unfold nmB
    rw [e1, hc, svOf_g v hG]
  unfold nmV
  rw [e1, e2, hc, svOf_g v hG]
  by_cases q : I < ssV v G ∧ Q ≤ 9
  · have hp := h.pn hG q.1
    rw [hp.2.2, decide_eq_true q, if_pos rfl, if_pos q, if_pos q, Bool.true_and]
    by_cases p : e (32 + (8 * G + I)) = nI Q
    · rw [decide_eq_false (fun n => n p), if_pos p]
      refine ⟨rfl, ?_⟩
      rw [upd_self p]
      exact h
    · rw [decide_eq_true p, if_neg p]
      exact ⟨rfl, de_name h hG q.1 (nI Q)⟩
  · rw [decide_eq_false q, if_neg q, if_neg q]
    exact ⟨rfl, h⟩
theorem nI_inj {a b : Nat} (ha : a < 2 ^ 31) (hb : b < 2 ^ 31) : (nI a = nI b) = (a = b) := propext (nI_eq ha hb)
theorem act_jn (h : DE v d e) (hG : G < 2) (hI : I < 9) (hJ : J < 9) (hQ : Q < 11) :
    jnV v (nI G) (nI I) (nI J) (nI Q) = (if I < mmV v G ∧ J < mmV v G ∧ ¬ I = J ∧ Q ≤ 9 then (if stL e G (nI I) (nI J) (ssV v G) < 0 ∧ ¬ ssV v G = 8 then nI (ssV v G + 1) else if ssV v G = 8 ∧ stL e G (nI I) (nI J) (ssV v G) < 0 then -3 else -2) else -1) ∧
    DE (if jnB v (nI G) (nI I) (nI J) (nI Q) then tPut v (nI G) (svAddS (svOf v (nI G)) (nI I) (nI J) (nI Q)) else v) d (if I < mmV v G ∧ J < mmV v G ∧ ¬ I = J ∧ Q ≤ 9 then (if stL e G (nI I) (nI J) (ssV v G) < 0 ∧ ¬ ssV v G = 8 then jnE e G (ssV v G) (nI I) (nI J) (nI Q) else e) else e) := by
  have h8 := h.ok.ss G
  have m8 := h.ok.mm G
  have e1 : jnA v (nI G) (nI I) (nI J) (nI Q) = decide (I < mmV v G ∧ J < mmV v G ∧ ¬ I = J ∧ Q ≤ 9) := by
    have e0 : decide (¬ nI I = nI J) = decide (¬ I = J) := by simp only [nI_inj (show I < 2 ^ 31 by omega) (show J < 2 ^ 31 by omega)]
    unfold jnA
    rw [hasM_d h.ok hG (by omega), hasM_d h.ok hG (by omega), inR_d (by omega) (by omega) (by omega), e0]
    by_cases q : I < mmV v G ∧ J < mmV v G ∧ ¬ I = J ∧ Q ≤ 9
    · simp [q.1, q.2.1, q.2.2.1, q.2.2.2]
    · rw [decide_eq_false q]
      simp only [Bool.and_eq_false_iff, decide_eq_false_iff_not]
      omega
  have e2 : jnB v (nI G) (nI I) (nI J) (nI Q) = (decide (I < mmV v G ∧ J < mmV v G ∧ ¬ I = J ∧ Q ≤ 9) && (decide (oI (sbF (svG v G) (nI I) (nI J)) = -1) && decide (ssV v G < 8))) := by
    unfold jnB
    rw [e1, svOf_g v hG, ss_sv]
  have eV : jnV v (nI G) (nI I) (nI J) (nI Q) = (if decide (I < mmV v G ∧ J < mmV v G ∧ ¬ I = J ∧ Q ≤ 9) = true then (if oI (sbF (svG v G) (nI I) (nI J)) = -1 then (if ssV v G < 8 then nI (sS (svAddS (svG v G) (nI I) (nI J) (nI Q))) else -3) else -2) else -1) := by
    unfold jnV
    rw [e1, svOf_g v hG, ss_sv]
  rw [eV, e2, svOf_g v hG]
  obtain ⟨s1, s2⟩ := stL_iff h hG (nI I) (nI J)
  by_cases q : I < mmV v G ∧ J < mmV v G ∧ ¬ I = J ∧ Q ≤ 9
  · rw [decide_eq_true q, if_pos q, if_pos q, Bool.true_and]
    by_cases p : stL e G (nI I) (nI J) (ssV v G) < 0
    · have o1 := s1.mpr p
      by_cases c : ssV v G = 8
      · rw [decide_eq_false (show ¬ ssV v G < 8 by omega), Bool.and_false]
        rw [if_neg (show ¬ (stL e G (nI I) (nI J) (ssV v G) < 0 ∧ ¬ ssV v G = 8) from fun n => n.2 c), if_neg (show ¬ (stL e G (nI I) (nI J) (ssV v G) < 0 ∧ ¬ ssV v G = 8) from fun n => n.2 c), if_pos (show ssV v G = 8 ∧ stL e G (nI I) (nI J) (ssV v G) < 0 from ⟨c, p⟩)]
        refine ⟨?_, ?_⟩
        · rw [if_pos rfl, if_pos o1, if_neg (show ¬ ssV v G < 8 by omega)]
        · rw [if_neg (by decide)]
          exact h
      · have hadd : addSok (svG v G) (nI I) (nI J) (nI Q) = true := by
          have e0 : decide (¬ nI I = nI J) = true := decide_eq_true (fun n => q.2.2.1 (n_eq (by omega) (by omega) n))
          unfold addSok
          rw [ss_sv, mm_sv, decide_eq_true (show ssV v G < 8 by omega), hasN_t q.1 (by omega), hasN_t q.2.1 (by omega), e0, decide_eq_true o1, inR_t ⟨Nat.zero_le _, q.2.2.2⟩ (by omega)]
          rfl
        rw [decide_eq_true o1, decide_eq_true (show ssV v G < 8 by omega), if_pos (show stL e G (nI I) (nI J) (ssV v G) < 0 ∧ ¬ ssV v G = 8 from ⟨p, c⟩), if_pos (show stL e G (nI I) (nI J) (ssV v G) < 0 ∧ ¬ ssV v G = 8 from ⟨p, c⟩)]
        refine ⟨?_, ?_⟩
        · rw [if_pos rfl, if_pos o1, if_pos (show ssV v G < 8 by omega)]
          unfold svAddS
          rw [if_pos hadd]
          show nI (sS (svG v G) + 1) = _
          rw [ss_sv]
        · rw [if_pos (by decide)]
          exact de_join h hG hadd
    · have o1 : ¬ oI (sbF (svG v G) (nI I) (nI J)) = -1 := fun n => p (s1.mp n)
      rw [decide_eq_false o1, Bool.false_and, if_neg (show ¬ (stL e G (nI I) (nI J) (ssV v G) < 0 ∧ ¬ ssV v G = 8) from fun n => p n.1), if_neg (show ¬ (stL e G (nI I) (nI J) (ssV v G) < 0 ∧ ¬ ssV v G = 8) from fun n => p n.1), if_neg (show ¬ (ssV v G = 8 ∧ stL e G (nI I) (nI J) (ssV v G) < 0) from fun n => p n.2)]
      refine ⟨?_, ?_⟩
      · rw [if_pos rfl, if_neg o1]
      · rw [if_neg (by decide)]
        exact h
  · rw [decide_eq_false q, if_neg q, if_neg q, Bool.false_and]
    exact ⟨rfl, h⟩
theorem act_ct (h : DE v d e) (hG : G < 2) (hI : I < 9) :
    ctV v (nI G) (nI I) = (if I < ssV v G then nI (ssV v G - 1) else -1) ∧
    DE (if hasS v (nI G) (nI I) then tPut v (nI G) (svDrop (svOf v (nI G)) (nI I).toNatClampNeg) else v) d (if I < ssV v G then ctE e G (ssV v G) I else e) := by
  have hc : (nI I).toNatClampNeg = I := nI_clamp (by omega)
  unfold ctV
  rw [hasS_d h.ok hG (by omega), hc, svOf_g v hG, ss_sv]
  by_cases q : I < ssV v G
  · rw [decide_eq_true q, if_pos q, if_pos q]
    exact ⟨rfl, de_cut h hG q⟩
  · rw [decide_eq_false q, if_neg q, if_neg q]
    exact ⟨rfl, h⟩
theorem act_t0 (h : DE v d e) (hT : T < 22) :
    tnV v (nI 0) (nI T) = (if 1 ≤ T ∧ T ≤ 20 then (if e (52 + 0) = nI T then -2 else e (52 + 0)) else -1) ∧ DE (tnT v (nI 0) (nI T)) d (upd e (52 + 0) (if 1 ≤ T ∧ T ≤ 20 then nI T else e (52 + 0))) := by
  have hr : tR v = e 52 := h.1.1.1
  have e1 : tnA (nI 0) (nI T) = decide (1 ≤ T ∧ T ≤ 20) := by
    unfold tnA
    rw [inR_d (by omega) (by omega) (by omega), if_pos (by decide), inR_d (by omega) (by omega) (by omega)]
    simp
  have e2 : tnB v (nI 0) (nI T) = (decide (1 ≤ T ∧ T ≤ 20) && decide (¬ tR v = nI T)) := by
    unfold tnB
    rw [e1, if_pos (by decide)]
  unfold tnV tnT
  rw [e1, e2, if_pos (show nI 0 = 0 by decide), if_pos (show nI 0 = 0 by decide), hr]
  by_cases q : 1 ≤ T ∧ T ≤ 20
  · rw [decide_eq_true q, if_pos rfl, if_pos q, if_pos q, Bool.true_and]
    by_cases p : e 52 = nI T
    · rw [decide_eq_false (fun n => n p), if_pos p]
      refine ⟨rfl, ?_⟩
      rw [upd_self p]
      exact h
    · rw [decide_eq_true p, if_neg p]
      refine ⟨rfl, ?_⟩
      unfold tSetR
      rw [inR_t q (by decide), if_pos rfl, if_pos rfl]
      exact de_R h q.1 q.2
  · rw [decide_eq_false q, if_neg q, if_neg q]
    refine ⟨rfl, ?_⟩
    rw [upd_self rfl]
    exact h
theorem act_t1 (h : DE v d e) (hC : C < 5) :
    tnV v (nI 1) (nI C) = (if C ≤ 3 then (if e (52 + 1) = nI C then -2 else e (52 + 1)) else -1) ∧ DE (tnT v (nI 1) (nI C)) d (upd e (52 + 1) (if C ≤ 3 then nI C else e (52 + 1))) := by
  have hr : nI (tN v) = e 53 := h.2.2.1.symm
  have e1 : tnA (nI 1) (nI C) = decide (C ≤ 3) := by
    unfold tnA
    rw [inR_d (by omega) (by omega) (by omega), if_neg (by decide), inR_d (by omega) (by omega) (by omega)]
    simp
  have e2 : tnB v (nI 1) (nI C) = (decide (C ≤ 3) && decide (¬ nI (tN v) = nI C)) := by
    unfold tnB
    rw [e1, if_neg (by decide)]
  unfold tnV tnT
  rw [e1, e2, if_neg (show ¬ nI 1 = 0 by decide), if_neg (show ¬ nI 1 = 0 by decide), hr]
  by_cases q : C ≤ 3
  · rw [decide_eq_true q, if_pos rfl, if_pos q, if_pos q, Bool.true_and]
    by_cases p : e 53 = nI C
    · rw [decide_eq_false (fun n => n p), if_pos p]
      refine ⟨rfl, ?_⟩
      rw [upd_self p]
      exact h
    · rw [decide_eq_true p, if_neg p]
      refine ⟨rfl, ?_⟩
      unfold tSetN
      rw [inR_t ⟨Nat.zero_le _, q⟩ (by decide), if_pos rfl, if_pos rfl, nI_clamp (by omega)]
      exact de_N h q
  · rw [decide_eq_false q, if_neg q, if_neg q]
    refine ⟨rfl, ?_⟩
    rw [upd_self rfl]
    exact h
theorem act_all {K : Nat} (h : DE v d e) (hK : K < 8) (hG : G < 2) (hI : I < 9) (hJ : J < 9) (hQ : Q < 11) (hA : A < 64) (hB : B < 64) (hC : C < 5) (hT : T < 22) :
    kV v K G I J Q A B C T = aV v d e K G I J Q A B C T ∧ DE (kT v K G I J Q A B C T) (aD v d K G I A B C) (aE v e K G I J Q C T) := by
  unfold kV aV kT aD aE
  by_cases k1 : K < 2
  · simp only [if_pos k1]
    exact act_mv h hG hI hA hB
  simp only [if_neg k1]
  by_cases k2 : K = 2
  · subst k2
    exact act_rn h hG hI hC
  simp only [if_neg k2]
  by_cases k3 : K = 3
  · subst k3
    exact act_nm h hG hI hQ
  by_cases k4 : K < 6
  · simp only [if_neg k3, if_pos k4, if_pos (show K = 4 ∨ K = 5 by omega)]
    exact act_jn h hG hI hJ hQ
  simp only [if_neg k3, if_neg k4, if_neg (show ¬ (K = 4 ∨ K = 5) by omega)]
  by_cases k6 : K = 6
  · simp only [if_pos k6]
    exact act_ct h hG hI
  simp only [if_neg k6]
  by_cases g0 : G = 0
  · subst g0
    simp only [if_true]
    exact act_t0 h hT
  · simp only [if_neg g0]
    obtain rfl : G = 1 := by omega
    exact act_t1 h hC
end ACT
