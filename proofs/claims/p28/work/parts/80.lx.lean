/-! ===== methods that read the script: their contracts; small words of the law ===== -/
/-- the script lies at b, outside of A -/
def XS (b L : Nat) (xs : Nat → Int32) (A : Nat → Prop) (U : State) : Prop := va_X b L xs U U.heap ∧ b < U.heap.size ∧ ¬ A b
theorem XS.blind {b L : Nat} {xs : Nat → Int32} {A : Nat → Prop} {U : State} (g : JFrame) (mk : MethodId) (a : Array Value) (h : XS b L xs A U) : XS b L xs A (U.calling g mk a) :=
  ⟨va_X.moved (Vm.Alike.refl U.vm) h.1, h.2⟩
theorem XS.go {b L : Nat} {xs : Nat → Int32} {A A' : Nat → Prop} {s U : State} (hW : s.WarmedH U.vm) (hz : s.heap.size ≤ U.heap.size) (hk : ∀ a : Nat, a < s.heap.size → ¬ A a → U.heap[a]? = s.heap[a]?) (hA : ∀ a, A' a → A a) (h : XS b L xs A s) : XS b L xs A' U :=
  ⟨(va_X.moved hW.alike h.1).kept (hk b h.2.1 h.2.2), Nat.lt_of_lt_of_le h.2.1 hz, fun q => h.2.2 (hA b q)⟩
def CS (E : GE) (b L : Nat) (xs : Nat → Int32) (μ : MD) (av : List Value) (w : va_W) (R : Option Value → va_W → Prop) : Prop :=
  ∀ sz : Nat, Met E.1 μ.1 (.code μ.1 μ.2.1 μ.2.2.1 μ.2.2.2.1 :: TT) μ.2.2.2.2 (va_Pc av (fun U => CTp E w sz U ∧ XS b L xs (va_A w sz) U)) (CNq E R (va_A w sz)) 0 0 (va_A w sz)
def RS (E : GE) (μ : MD) (Γ : GC) (R : Option Value → va_W → Prop) : Prop :=
  Γ.2.2.2.2.2.2.2.2.2 = MQ Γ.2.2.2.2.2.1 (CNq E R Γ.2.2.2.2.2.2.2.2.1) Γ.2.2.2.2.1 Γ.2.2.1 0 0 Γ.2.2.2.2.2.2.2.2.1
def SC (Γ : GC) (b L : Nat) (xs : Nat → Int32) : Prop := XS b L xs Γ.2.2.2.2.2.2.2.2.1 Γ.2.2.1
theorem CS.intro {E : GE} {b L : Nat} {xs : Nat → Int32} {μ : MD} {av : List Value} {w : va_W} {R : Option Value → va_W → Prop} (hy : plainName μ.1.cls = true) (hlen : (lg_sl av).length ≤ μ.2.2.1)
    (body : ∀ Γ : GC, CX E μ Γ → SC Γ b L xs → RS E μ Γ R → GG E μ Γ 0 0 w (lv_args 0 av) 0 []) : CS E b L xs μ av w R := by
  intro sz
  refine Met.ofW (cc := μ.2.1) (maxL := μ.2.2.1) (ret := μ.2.2.2.1) hy rfl ?_
  intro p e s m args below meth c s₁ B hml hv
  obtain ⟨rfl, ⟨hsz, hP, hK, hD0⟩, hE⟩ := hv
  subst hsz
  have hts := atoms_spec (ws := Cond.code μ.1 μ.2.1 μ.2.2.1 μ.2.2.2.1 :: TT) B.pre
  rw [lg_entry_eq]
  exact body (p, e, s, m, av.toArray, below, meth, c, va_A w s.heap.size, MQ below (CNq E R (va_A w s.heap.size)) av.toArray s 0 0 (va_A w s.heap.size))
    ⟨⟨B.exec, B.bytes, hml, findClass_of_methodNamed B.named, fun w hw => hts w (List.mem_cons_of_mem _ hw)⟩, hK, fun q h => Or.inr h, B.returns, B.notSynchronized, (name_of_methodNamed B.named B.method).1⟩ hE rfl
    s.heap [] _ hP hD0.self va_S.rf (lv_entry av hlen)
theorem CSp.blind {E : GE} {b L : Nat} {xs : Nat → Int32} {w : va_W} {sz : Nat} {av : List Value} : FrameBlind (va_Pc av (fun U => CTp E w sz U ∧ XS b L xs (va_A w sz) U)) := fun a U g mk h => ⟨h.1, ⟨h.2.1.1, h.2.1.2.1, EV.blind g mk a h.2.1.2.2.1, h.2.1.2.2.2⟩, XS.blind g mk a h.2.2⟩
section GGX
variable {E : GE} {μ : MD} {Γ : GC} {cells slots : Nat} {ws : va_W} {lv : List (Nat × Value)} {pc : Nat} {rest : List Value}
theorem g_xld (X : CX E μ Γ) {b L : Nat} {xs : Nat → Int32} (hX : SC Γ b L xs) {n : Nat} (hn : n < L) (hL : L < 2 ^ 31) (d : decode μ.2.1 pc = .ok (.iaload, 1))
    (k : GG E μ Γ cells slots ws lv (pc + 1) (.int (xs n) :: rest)) : GG E μ Γ cells slots ws lv pc (.int (nI n) :: .ref b :: rest) := by
  have h : (nI n).toNatClampNeg = n := nI_clamp (by omega)
  exact fun H locs ls hP hD hS hl => va_sld X.1.1 X.1.2.1 hX.1 hX.2.1 hX.2.2 hS (vp_in_nI hn hL) d (by rw [h]; exact k H locs ls hP hD hS hl)
theorem g_xlen (X : CX E μ Γ) {b L : Nat} {xs : Nat → Int32} (hX : SC Γ b L xs) (d : decode μ.2.1 pc = .ok (.arraylength, 1))
    (k : GG E μ Γ cells slots ws lv (pc + 1) (.int (nI L) :: rest)) : GG E μ Γ cells slots ws lv pc (.ref b :: rest) :=
  fun H locs ls hP hD hS hl => va_slen X.1.1 X.1.2.1 hX.1 hX.2.1 hX.2.2 hS d (k H locs ls hP hD hS hl)
/-- the call of a method that reads the script -/
theorem g_callXP (X : CX E μ Γ) {b L : Nat} {xs : Nat → Int32} (Z : SC Γ b L xs) {ν : MD} {As : List Value} {wc wr : va_W} {Rn : Option Value → va_W → Prop} {idx n : Nat} {st : List Value} (hM : CS E b L xs ν As wc Rn) (hs : SSite μ.1.cls idx ν n) (hR : rmOK ν μ = true) (hp : ws.Perm (wc ++ wr))
    (hst : st = As.reverse ++ rest) (hn : As.length = n) (hcat : (rest.map fun v => v.category).sum ≤ 8) (d : decode μ.2.1 pc = .ok (.invokestatic idx, 3)) (hcs : cells ≤ μ.2.2.2.2.cells ∧ slots ≤ μ.2.2.2.2.slots)
    (k : ∀ (v : Option Value) (w' : va_W), Rn v w' → GG E μ Γ cells slots (wr ++ w') lv (pc + 3) (v.toList ++ rest)) : GG E μ Γ cells slots ws lv pc st := by
  obtain ⟨hR1, hR2, hR3, hR4⟩ := rmOK_sp hR
  intro H locs ls hP hD hS hl
  have hPa := va_P_perm hp hP
  have hDa := va_D_perm hp hD
  have hPc : va_P E.2.1 vwCl wc H := va_P_iff.mpr (fun q hq => va_P_iff.mp hPa q (List.mem_append_left _ hq))
  have hDc := va_D_left hDa
  have hFc : ∀ q, va_A wc H.size q → Γ.2.2.2.2.2.2.2.2.1 q := fun q hq => by
    rcases hq with ⟨j, e, h3⟩ | h3
    · exact hDc.2 j _ h3
    · exact X.2.2.1 q (Nat.le_trans hS.1 h3)
  refine run_goN (va_runS ⟨X.1.1, X.1.2.1, X.1.2.2.1, X.1.2.2.2.1, X.1.2.2.2.2⟩ (hM H.size) (va_cwS n X.1.2.2.2.2 hs.1 rfl hR1 hR2 hs.2 ⟨hR3, hR4⟩) ⟨CSp.blind, fun U hU hW => ⟨rfl, ⟨by rw [hU], by rw [hU]; exact hPc, EV.warm hW X.2.1, hDc.weaken (fun _ _ _ _ => trivial)⟩, XS.go hW (by rw [hU]; exact hS.1) (fun a h1 h2 => by rw [hU]; exact hS.2.1 a h1 h2) hFc Z⟩⟩ rfl hn hl.1 hst (lv_room hcat) d hcs) hS (fun q _ h => hFc q h) hFc (fun H1 locs1 v w' hRn hP1 hD1 hz hk hS1 => ?_)
  obtain ⟨hP', hD'⟩ := va_after2 hPa hDa hk hFc hP1 hD1
  exact k v w' hRn H1 locs1 ls hP' hD' hS1 hl
/-- the end of such a method -/
theorem g_retS (X : CX E μ Γ) {w' : va_W} {Rn : Option Value → va_W → Prop} (hx : RS E μ Γ Rn) {r : Int32} (hr : μ.2.2.2.1 = some .int) (hw : ws.Perm w') (hv : Rn (some (.int r)) w') (d : decode μ.2.1 pc = .ok (.ireturn, 1)) : GG E μ Γ 0 0 ws lv pc [.int r] := by
  intro H locs ls hP hD hS hl
  rw [hx]
  exact W.iret X.1.1 X.1.2.1 (X.2.2.2.1.trans hr) (fun t ht hW => ⟨⟨_, w', rfl, hv, by rw [ht]; exact va_P_perm hw hP, va_D_perm hw hD⟩, hS.F ht⟩) hS.2.2 d X.2.2.2.2.1
theorem g_retSz (X : CX E μ Γ) {w' : va_W} {Rn : Option Value → va_W → Prop} (hx : RS E μ Γ Rn) {r : Int32} (b : Bool) (hb : b2i b = r) (hr : μ.2.2.2.1 = some .boolean) (hw : ws.Perm w') (hv : Rn (some (.int r)) w') (d : decode μ.2.1 pc = .ok (.ireturn, 1)) : GG E μ Γ 0 0 ws lv pc [.int r] := by
  subst hb
  intro H locs ls hP hD hS hl
  rw [hx]
  exact W.zret X.1.1 X.1.2.1 (X.2.2.2.1.trans hr) (by cases b <;> rfl) (fun t ht hW => ⟨⟨_, w', rfl, hv, by rw [ht]; exact va_P_perm hw hP, va_D_perm hw hD⟩, hS.F ht⟩) hS.2.2 d X.2.2.2.2.1
end GGX
/-- the rest of the sign-free part of v -/
def lwN (v : Int32) (n : Nat) : Nat := v.toBitVec.toNat % 2 ^ 31 % n
theorem lwN_lt (v : Int32) {n : Nat} (h : 0 < n) : lwN v n < n := Nat.mod_lt _ h
theorem lw_eq (v : Int32) {n : Nat} (h0 : 0 < n) (hn : n < 2 ^ 31) : (v &&& nI 2147483647) - (v &&& nI 2147483647) / nI n * nI n = nI (lwN v n) := by
  rw [pk_and v 31 (by decide), pk_rem (Nat.mod_lt _ (by decide)) h0 hn]
  rfl
/-- the script's k-th, or a draw beyond its end -/
def celV (L : Nat) (xs : Nat → Int32) (k : Nat) : Int32 := if k < L then xs k else nI 40503 * nI k + nI 977
