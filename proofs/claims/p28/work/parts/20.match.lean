/-! ===== matching: rows of rows; what its methods answer ===== -/
def wMo (E : GE) (m rb rc : Nat → Nat) (P : Nat) : va_W := [(m 0, .inr (0, [.ref (m 1), .ref (m 2), .ref (m 3), .ref (m 4), .ref (m 5), .ref (m 6), .int (nI P)])), (m 1, .inl (E.2.2 2, 8, .inr (.inr (.inr (.inr (fun j => some (rb j))))))), (m 2, .inl (E.2.2 2, 8, .inr (.inr (.inr (.inr (fun j => some (rc j)))))))]
def rwC (E : GE) (rb : Nat → Nat) (B : Nat → Nat → Int32) (i : Nat) : Nat × va_E := (rb i, .inl (E.2.2 0, 8, .inl (B i)))
def wRw (E : GE) (rb : Nat → Nat) (B : Nat → Nat → Int32) : va_W := (List.range 8).map (rwC E rb B)
theorem fsMo (E : GE) (m rb rc : Nat → Nat) (P : Nat) : (wMo E m rb rc P).map Prod.fst = [m 0, m 1, m 2] := rfl
theorem fsRw (E : GE) (rb : Nat → Nat) (B : Nat → Nat → Int32) : (wRw E rb B).map Prod.fst = (List.range 8).map rb := by
  unfold wRw
  rw [List.map_map]
  rfl
/-- row k is g now -/
def upR (B : Nat → Nat → Int32) (k : Nat) (g : Nat → Int32) : Nat → Nat → Int32 := fun i => if i = k then g else B i
theorem upR_s (B : Nat → Nat → Int32) (k : Nat) (g : Nat → Int32) : upR B k g k = g := if_pos rfl
theorem rw_mem {E : GE} {rb : Nat → Nat} {B : Nat → Nat → Int32} {k : Nat} (hk : k < 8) : rwC E rb B k ∈ wRw E rb B := List.mem_map.mpr ⟨k, List.mem_range.mpr hk, rfl⟩
theorem rw_perm (E : GE) (rb : Nat → Nat) (B : Nat → Nat → Int32) {k : Nat} (hk : k < 8) : (wRw E rb B).Perm (rwC E rb B k :: ((List.range 8).erase k).map (rwC E rb B)) :=
  (List.perm_cons_erase (List.mem_range.mpr hk)).map (rwC E rb B)
theorem rw_perm' (E : GE) (rb : Nat → Nat) (B : Nat → Nat → Int32) (g : Nat → Int32) {k : Nat} (hk : k < 8) : (wRw E rb (upR B k g)).Perm ((rb k, .inl (E.2.2 0, 8, .inl g)) :: ((List.range 8).erase k).map (rwC E rb B)) := by
  refine (rw_perm E rb (upR B k g) hk).trans ?_
  have e1 : rwC E rb (upR B k g) k = (rb k, .inl (E.2.2 0, 8, .inl g)) := by unfold rwC; rw [upR_s]
  have e2 : ((List.range 8).erase k).map (rwC E rb (upR B k g)) = ((List.range 8).erase k).map (rwC E rb B) := by
    apply List.map_congr_left
    intro i hi
    have hne : i ≠ k := fun q => by
      subst q
      exact (List.Nodup.not_mem_erase List.nodup_range) hi
    unfold rwC upR
    rw [if_neg hne]
  rw [e1, e2]
theorem sg_perm : ∀ (S : List va_W) (i : Nat) (g : va_W), S[i]? = some g → S.flatten.Perm (g ++ (S.eraseIdx i).flatten)
  | [], i, g, h => by simp at h
  | a :: S, 0, g, h => by
    cases h
    simp
  | a :: S, i + 1, g, h => by
    have h1 := sg_perm S i g (by simpa using h)
    simp only [List.flatten_cons, List.eraseIdx_cons_succ]
    exact (h1.append_left a).trans (by rw [← List.append_assoc, ← List.append_assoc]; exact List.Perm.append_right _ List.perm_append_comm)
theorem sg_set : ∀ (S : List va_W) (i : Nat) (g g' : va_W), S[i]? = some g → (S.set i g')[i]? = some g' ∧ (S.set i g').eraseIdx i = S.eraseIdx i
  | [], i, g, g', h => by simp at h
  | a :: S, 0, g, g', h => ⟨rfl, rfl⟩
  | a :: S, i + 1, g, g', h => by
    have h1 := sg_set S i g g' (by simpa using h)
    exact ⟨by simpa using h1.1, by simpa using h1.2⟩
theorem GG.perm {E : GE} {μ : MD} {Γ : GC} {cells slots : Nat} {ws ws' : va_W} {lv : List (Nat × Value)} {pc : Nat} {st : List Value} (hp : ws.Perm ws') (k : GG E μ Γ cells slots ws' lv pc st) : GG E μ Γ cells slots ws lv pc st :=
  fun H locs ls hP hD hS hl => k H locs ls (va_P_perm hp hP) (va_D_perm hp hD) hS hl
section GGW
variable {E : GE} {μ : MD} {Γ : GC} {cells slots : Nat} {lv : List (Nat × Value)} {pc : Nat} {rest : List Value}
theorem g_rald (X : CX E μ Γ) {S : List va_W} (i0 : Nat) {rb : Nat → Nat} {B : Nat → Nat → Int32} (hS : S[i0]? = some (wRw E rb B)) {k : Nat} (hk : k < 8) {i : Int32} (j : Nat) (hin : ix i j 8) (d : decode μ.2.1 pc = .ok (.iaload, 1))
    (kk : GG E μ Γ cells slots S.flatten lv (pc + 1) (.int (B k j) :: rest)) : GG E μ Γ cells slots S.flatten lv pc (.int i :: .ref (rb k) :: rest) := by
  obtain ⟨q0, h0⟩ := List.getElem?_of_mem (List.mem_flatten.mpr ⟨_, List.mem_of_getElem? hS, rw_mem (E := E) (rb := rb) (B := B) hk⟩)
  exact g_iald X q0 h0 j hin d kk
theorem g_rast (X : CX E μ Γ) {S S' : List va_W} (i0 : Nat) {rb : Nat → Nat} {B : Nat → Nat → Int32} (hS : S[i0]? = some (wRw E rb B)) {k : Nat} (hk : k < 8) {i x : Int32} (j : Nat) (hin : ix i j 8) (hS' : S.set i0 (wRw E rb (upR B k (upd (B k) j x))) = S') (d : decode μ.2.1 pc = .ok (.iastore, 1))
    (kk : GG E μ Γ cells slots S'.flatten lv (pc + 1) rest) : GG E μ Γ cells slots S.flatten lv pc (.int x :: .int i :: .ref (rb k) :: rest) := by
  subst hS'
  obtain ⟨h1, h2⟩ := sg_set S i0 _ (wRw E rb (upR B k (upd (B k) j x))) hS
  have p1 := (sg_perm S i0 _ hS).trans ((rw_perm E rb B hk).append_right _)
  have p2 := (sg_perm _ i0 _ h1).trans ((rw_perm' E rb B (upd (B k) j x) hk).append_right _)
  rw [h2] at p2
  exact GG.perm p1 (g_iast X 0 rfl j hin rfl d (GG.perm p2.symm kk))
/-- a row of one copied to a row of the other -/
theorem g_rcopy (X : CX E μ Γ) {S S' : List va_W} {idx : Nat} (hs : ASite μ.1.cls idx) (i0 i1 : Nat) {rb rc : Nat → Nat} {B C : Nat → Nat → Int32} (hS0 : S[i0]? = some (wRw E rb B)) (hS1 : S[i1]? = some (wRw E rc C)) {k : Nat} (hk : k < 8) {x : Int32} (hx : ix x 8 9) (hS' : S.set i1 (wRw E rc (upR C k (va_cpy (B k) (C k) 0 0 8))) = S')
    (hR : 1 ≤ μ.2.2.2.2.frames ∧ (rest.map fun v => v.category).sum + (nativeFrameWords "java/lang/System" "arraycopy" 5 + 11) ≤ μ.2.2.2.2.locals) (d : decode μ.2.1 pc = .ok (.invokestatic idx, 3))
    (kk : GG E μ Γ cells slots S'.flatten lv (pc + 3) rest) : GG E μ Γ cells slots S.flatten lv pc (.int x :: .int 0 :: .ref (rc k) :: .int 0 :: .ref (rb k) :: rest) := by
  subst hS'
  obtain ⟨h1, h2⟩ := sg_set S i1 _ (wRw E rc (upR C k (va_cpy (B k) (C k) 0 0 8))) hS1
  have p1 := (sg_perm S i1 _ hS1).trans ((rw_perm E rc C hk).append_right _)
  have p2 := (sg_perm _ i1 _ h1).trans ((rw_perm' E rc C (va_cpy (B k) (C k) 0 0 8) hk).append_right _)
  rw [h2] at p2
  have hm : rwC E rb B k ∈ S.flatten := List.mem_flatten.mpr ⟨_, List.mem_of_getElem? hS0, rw_mem hk⟩
  obtain ⟨q0, h0⟩ := List.getElem?_of_mem (p1.mem_iff.mp hm)
  exact GG.perm p1 (g_copy X hs q0 0 h0 rfl hx rfl hR d (GG.perm p2.symm kk))
end GGW
/-! pure words -/
def itR {σ : Type} (f : Nat → σ → σ) : Nat → σ → σ
  | 0, s => s
  | n + 1, s => f n (itR f n s)
/-- from lo on, up to hi -/
def itF {σ : Type} (f : Nat → σ → σ) (lo hi : Nat) (s : σ) : σ := itR (fun t => f (lo + t)) (hi - lo) s
theorem itF_0 {σ : Type} (f : Nat → σ → σ) (lo : Nat) (s : σ) : itF f lo lo s = s := by unfold itF; rw [Nat.sub_self]; rfl
theorem itF_s {σ : Type} (f : Nat → σ → σ) {lo k : Nat} (h : lo ≤ k) (s : σ) : itF f lo (k + 1) s = f k (itF f lo k s) := by
  unfold itF
  rw [show k + 1 - lo = (k - lo) + 1 by omega]
  show f (lo + (k - lo)) _ = _
  rw [show lo + (k - lo) = k by omega]
def sumI (f : Nat → Int32) : Nat → Int32
  | 0 => nI 0
  | n + 1 => sumI f n + f n
def maxI (f : Nat → Int32) : Nat → Int32
  | 0 => nI 0
  | n + 1 => if maxI f n < f n then f n else maxI f n
def gvI (K : Int32) (f : Nat → Int32) (n : Nat) : Int32 := if K = -1 then nI 0 else maxI f n
def bIn (C : Nat → Nat → Int32) (k l : Int32) : Int32 := if hasN 8 k && hasN 8 l then C k.toNatClampNeg l.toNatClampNeg else nI 0
def sup0 (v : TV) (C : Nat → Nat → Int32) (i j : Nat) : Int32 := sumI (fun s => gvI (svOther (tA v) s (nI i)) (fun t => bIn C (svOther (tA v) s (nI i)) (svOther (tB v) t (nI j))) (sS (tB v))) (sS (tA v))
def sup1 (v : TV) (C : Nat → Nat → Int32) (j i : Nat) : Int32 := sumI (fun s => gvI (svOther (tB v) s (nI j)) (fun t => bIn C (svOther (tA v) t (nI i)) (svOther (tB v) s (nI j))) (sS (tA v))) (sS (tB v))
def minV (x y : Int32) : Int32 := if y < x then y else x
def rch (v : TV) (i j : Nat) : Int32 := if reachV (tR v) (sKd (tB v) j) < reachV (tR v) (sKd (tA v) i) then reachV (tR v) (sKd (tB v) j) else reachV (tR v) (sKd (tA v) i)
def firstB (v : TV) (i j : Nat) : Int32 := if i < sM (tA v) ∧ j < sM (tB v) then (if sqD v i j ≤ rch v i j * rch v i j then (if nI 1 < tR v * tR v + nI 1 - sqD v i j then tR v * tR v + nI 1 - sqD v i j else nI 1) else nI 0) else nI 0
theorem hasN_lt {n j : Nat} (hn : n < 2 ^ 31) (hj : j < 2 ^ 31) (h : hasN n (nI j) = true) : j < n := by
  by_cases q : j < n
  · exact q
  · rw [hasN_f (Nat.le_of_not_lt q) hj] at h
    cases h
theorem hasN_ge {n j : Nat} (hn : n < 2 ^ 31) (h : hasN n (nI j) = false) : n ≤ j := by
  by_cases q : j < n
  · rw [hasN_t q hn] at h
    cases h
  · exact Nat.le_of_not_lt q
def fillB (F B : Nat → Nat → Int32) (i j : Nat) : Nat → Nat → Int32 := fun a b => if (a < i ∧ b < 8) ∨ (a = i ∧ b < j) then F a b else B a b
theorem fillB_0 (F B : Nat → Nat → Int32) : fillB F B 0 0 = B := by
  funext a b
  unfold fillB
  rw [if_neg (by omega)]
theorem fillB_row (F B : Nat → Nat → Int32) (i : Nat) : fillB F B i 8 = fillB F B (i + 1) 0 := by
  funext a b
  unfold fillB
  by_cases h : (a < i ∧ b < 8) ∨ (a = i ∧ b < 8)
  · rw [if_pos h, if_pos (by omega)]
  · rw [if_neg h, if_neg (by omega)]
theorem fillB_at (F B : Nat → Nat → Int32) (i j : Nat) : fillB F B i j i j = B i j := by
  unfold fillB
  rw [if_neg (by omega)]
theorem fillB_s (F B : Nat → Nat → Int32) {i j : Nat} (hj : j < 8) {x : Int32} (hx : x = F i j) : upR (fillB F B i j) i (upd (fillB F B i j i) j x) = fillB F B i (j + 1) := by
  subst hx
  funext a b
  unfold upR
  by_cases ha : a = i
  · subst ha
    rw [if_pos rfl]
    unfold upd
    by_cases hb : b = j
    · subst hb
      rw [if_pos rfl]
      unfold fillB
      rw [if_pos (by omega)]
    · rw [if_neg hb]
      unfold fillB
      by_cases h : (a < a ∧ b < 8) ∨ (a = a ∧ b < j)
      · rw [if_pos h, if_pos (by omega)]
      · rw [if_neg h, if_neg (by omega)]
  · rw [if_neg ha]
    unfold fillB
    by_cases h : (a < i ∧ b < 8) ∨ (a = i ∧ b < j)
    · rw [if_pos h, if_pos (by omega)]
    · rw [if_neg h, if_neg (by omega)]
theorem fillB_k (F B : Nat → Nat → Int32) {i j : Nat} (hx : F i j = B i j) : fillB F B i j = fillB F B i (j + 1) := by
  funext a b
  unfold fillB
  by_cases h : (a < i ∧ b < 8) ∨ (a = i ∧ b < j)
  · rw [if_pos h, if_pos (by omega)]
  · rw [if_neg h]
    by_cases h2 : (a < i ∧ b < 8) ∨ (a = i ∧ b < j + 1)
    · have ha : a = i := by omega
      have hb : b = j := by omega
      subst ha; subst hb
      rw [if_pos h2, hx]
    · rw [if_neg h2]
def cpyR (B C : Nat → Nat → Int32) (k : Nat) : Nat → Nat → Int32 := fun a => if a < k then va_cpy (B a) (C a) 0 0 8 else C a
theorem cpyR_0 (B C : Nat → Nat → Int32) : cpyR B C 0 = C := by
  funext a
  unfold cpyR
  rw [if_neg (by omega)]
theorem cpyR_s (B C : Nat → Nat → Int32) (k : Nat) : upR (cpyR B C k) k (va_cpy (B k) (cpyR B C k k) 0 0 8) = cpyR B C (k + 1) := by
  funext a
  unfold upR
  by_cases h : a = k
  · subst h
    rw [if_pos rfl]
    unfold cpyR
    rw [if_neg (by omega), if_pos (by omega)]
  · rw [if_neg h]
    unfold cpyR
    by_cases h2 : a < k
    · rw [if_pos h2, if_pos (by omega)]
    · rw [if_neg h2, if_neg (by omega)]
def impF (v : TV) (C B : Nat → Nat → Int32) (a b : Nat) : Int32 := if C a b ≤ 0 then B a b else C a b / nI 2 + (sup0 v C a b + sup1 v C b a) / nI 8
abbrev BC : Type := (Nat → Nat → Int32) × (Nat → Nat → Int32)
def impS (v : TV) (s : BC) : BC := (fillB (impF v (cpyR s.1 s.2 8) s.1) s.1 8 0, cpyR s.1 s.2 8)
def impN (v : TV) : Nat → BC → BC
  | 0, s => s
  | n + 1, s => impS v (impN v n s)
def belF (v : TV) (i j : Nat) : Int32 := nI 512 * firstB v i j
def belAll (v : TV) (s : BC) : BC := impN v (tN v) (fillB (belF v) s.1 8 0, s.2)
/-- the best pair that is free, as the rows are gone through: the belief, i, j -/
def bst (sw : Bool) (B : Nat → Nat → Int32) (f g : Nat → Int32) (a b : Nat) (s : Int32 × Nat × Nat) : Int32 × Nat × Nat :=
  if f (if sw then b else a) = -1 ∧ g (if sw then a else b) = -1 ∧ ¬ B (if sw then b else a) (if sw then a else b) ≤ s.1 then (B (if sw then b else a) (if sw then a else b), (if sw then b else a), (if sw then a else b)) else s
def bScan (sw : Bool) (B : Nat → Nat → Int32) (f g : Nat → Int32) (n : Nat) : Int32 × Nat × Nat := itR (fun a s => itR (bst sw B f g a) 8 s) n (nI 0, 0, 0)
theorem bst_lt {sw : Bool} {B : Nat → Nat → Int32} {f g : Nat → Int32} {a b : Nat} {s : Int32 × Nat × Nat} (ha : a < 8) (hb : b < 8) (hs : s.2.1 < 8 ∧ s.2.2 < 8) : (bst sw B f g a b s).2.1 < 8 ∧ (bst sw B f g a b s).2.2 < 8 := by
  unfold bst
  by_cases h : f (if sw then b else a) = -1 ∧ g (if sw then a else b) = -1 ∧ ¬ B (if sw then b else a) (if sw then a else b) ≤ s.1
  · rw [if_pos h]
    cases sw
    · exact ⟨ha, hb⟩
    · exact ⟨hb, ha⟩
  · rw [if_neg h]
    exact hs
theorem itR_inv {σ : Type} {P : σ → Prop} {f : Nat → σ → σ} : ∀ (n : Nat) (s : σ), P s → (∀ k s, k < n → P s → P (f k s)) → P (itR f n s)
  | 0, s, h, _ => h
  | n + 1, s, h, hf => hf n _ (Nat.lt_succ_self n) (itR_inv n s h (fun k s hk => hf k s (Nat.lt_succ_of_lt hk)))
theorem bScan_lt (sw : Bool) (B : Nat → Nat → Int32) (f g : Nat → Int32) {n : Nat} (hn : n ≤ 8) : (bScan sw B f g n).2.1 < 8 ∧ (bScan sw B f g n).2.2 < 8 :=
  itR_inv (P := fun s : Int32 × Nat × Nat => s.2.1 < 8 ∧ s.2.2 < 8) n _ ⟨by decide, by decide⟩ (fun k s hk hs => itR_inv (P := fun s : Int32 × Nat × Nat => s.2.1 < 8 ∧ s.2.2 < 8) 8 s hs (fun b s hb hs => bst_lt (by omega) hb hs))
def ngF (f : Nat → Int32) (k : Nat) : Nat → Int32 := fun i => if i < k then -1 else f i
theorem ngF_0 (f : Nat → Int32) : ngF f 0 = f := by
  funext i
  simp [ngF]
theorem ngF_s (f : Nat → Int32) (k : Nat) : upd (ngF f k) k (-1) = ngF f (k + 1) := by
  funext i
  unfold upd ngF
  by_cases e : i = k
  · subst e; simp
  · simp only [if_neg e]
    by_cases h : i < k
    · rw [if_pos h, if_pos (by omega)]
    · rw [if_neg h, if_neg (by omega)]
abbrev PU : Type := Nat × (Nat → Int32) × (Nat → Int32)
def puF (sw : Bool) (B : Nat → Nat → Int32) (f g : Nat → Int32) : Nat → Int32 := if (bScan sw B f g 8).1 = 0 then f else upd f (bScan sw B f g 8).2.1 (nI (bScan sw B f g 8).2.2)
def puG (sw : Bool) (B : Nat → Nat → Int32) (f g : Nat → Int32) : Nat → Int32 := if (bScan sw B f g 8).1 = 0 then g else upd g (bScan sw B f g 8).2.2 (nI (bScan sw B f g 8).2.1)
def pu (sw : Bool) (B : Nat → Nat → Int32) : Nat → Nat → (Nat → Int32) → (Nat → Int32) → PU
  | 0, k, f, g => (k, f, g)
  | m + 1, k, f, g => if (bScan sw B f g 8).1 = 0 then (k, f, g) else pu sw B m (k + 1) (puF sw B f g) (puG sw B f g)
def puAll (sw : Bool) (B : Nat → Nat → Int32) (f g : Nat → Int32) : PU := pu sw B 8 0 (ngF f 8) (ngF g 8)
/-- the mate of a number; -1 -/
def mtI (M : Nat → Int32) (i : Int32) : Int32 := if inR i (nI 0) (nI 7) then M i.toNatClampNeg else -1
def mtN (M : Nat → Int32) (a : Nat) : Nat := (mtI M (nI a)).toNatClampNeg
def okMt (n : Nat) (M : Nat → Int32) (a : Nat) : Prop := mtI M (nI a) = nI (mtN M a) ∧ mtN M a < n
def okMs (n : Nat) (M : Nat → Int32) : Prop := ∀ a, a < 8 → mtI M (nI a) = -1 ∨ okMt n M a
def loneI (M : Nat → Int32) : Nat → Int32
  | 0 => nI 0
  | n + 1 => if mtI M (nI n) = -1 then loneI M n ||| (nI 1 <<< (nI n &&& 31)) else loneI M n
def amB (M : Nat → Int32) (a b c : Nat) : Bool := decide (¬ mtI M (nI a) = -1) && (decide (¬ mtI M (nI b) = -1) && decide (¬ mtI M (nI c) = -1))
theorem amB_ok {n : Nat} {M : Nat → Int32} {a b c : Nat} (h : okMs n M) (ha : a < 8) (hb : b < 8) (hc : c < 8) (hm : amB M a b c = true) : okMt n M a ∧ okMt n M b ∧ okMt n M c := by
  simp only [amB, Bool.and_eq_true, decide_eq_true_eq] at hm
  exact ⟨(h a ha).resolve_left hm.1, (h b hb).resolve_left hm.2.1, (h c hc).resolve_left hm.2.2⟩
def trnB (v : TV) (M : Nat → Int32) (a b c : Nat) : Bool := decide (¬ svArea (tA v) a b c ≤ 0) && decide (svArea (tB v) (mtN M a) (mtN M b) (mtN M c) < 0) || decide (¬ 0 ≤ svArea (tA v) a b c) && decide (¬ svArea (tB v) (mtN M a) (mtN M b) (mtN M c) ≤ 0)
def tr1 (v : TV) (M : Nat → Int32) (a b c n : Nat) : Nat := if amB M a b c && trnB v M a b c then n + 1 else n
def tr2 (v : TV) (M : Nat → Int32) (a b n : Nat) : Nat := itF (tr1 v M a b) (b + 1) (sM (tA v)) n
def tr3 (v : TV) (M : Nat → Int32) (a n : Nat) : Nat := itF (tr2 v M a) (a + 1) (sM (tA v)) n
def trAll (v : TV) (M : Nat → Int32) : Nat := itR (tr3 v M) (sM (tA v)) 0
