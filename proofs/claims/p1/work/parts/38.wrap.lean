/-! THE LAW's SMALL METHODS: a call on the loom, its answer into the row of one long, or a number for what was thrown -/
def FL (Z : Zx) (cL : ClassId) (w : Heap → Prop) (o : Nat) (f : Nat → Int64) (H : Heap) : Prop := w H ∧ va_P Z.D vwCl [(o, .inl (cL, 1, .inr (.inl f)))] H
theorem FL.keep {Z : Zx} {cL : ClassId} {w w' : Heap → Prop} {o : Nat} {f : Nat → Int64} {H H1 : Heap} (h : FL Z cL w o f H) {A1 : Nat → Prop} (ho : ¬ A1 o) (hk : ∀ q : Nat, q < H.size → ¬ A1 q → H1[q]? = H[q]?) (hw : w' H1) : FL Z cL w' o f H1 := by
  refine ⟨hw, h.2.kept fun k q hq => ?_⟩
  have hlt := (h.2 k q hq).lt
  have hz : k < 1 := (List.getElem?_eq_some_iff.mp hq).1
  rw [show k = 0 by omega] at hq
  cases hq
  exact hk _ hlt ho
def LZ (Z : Zx) : Nat → Prop := fun q => ∃ k, k < 76 ∧ q = Z.ad k
def LO (Z : Zx) (o : Nat) : Nat → Prop := fun q => LZ Z q ∨ q = o
theorem LZ_ok {Z : Zx} {A : Nat → Prop} (h : AdOk Z A) : AdOk Z (LZ Z) := ⟨h.1, fun k hk => ⟨k, hk, rfl⟩⟩
def Ty (U : State) : Prop := va_Nc sIA sIO U
abbrev Pwr (Z : Zx) (cL : ClassId) (o : Nat) (f : Nat → Int64) (av : List Value) : Array Value → State → Prop := va_Pc av (fun U => FL Z cL (WL Z tok0 ties0) o f U.heap ∧ va_K Z.D vwCl (tysOf Z) U ∧ va_K Z.D vwCl [(cL, .long)] U ∧ NW U ∧ Tx (LO Z o) U U.heap ∧ Ty U)
abbrev XF : String → State → State → Prop := fun _ _ _ => False
abbrev Qwr (Z : Zx) (cL : ClassId) (o : Nat) (kans : Int32) (ans : Int64) : Array Value → State → Outcome → State → Prop := va_Qi (fun (r : Int32) (g : Nat → Int64) => kans = r ∧ (kans = 0 → g 0 = ans)) (fun g t => va_P Z.D vwCl [(o, .inl (cL, 1, .inr (.inl g)))] t.heap) (LO Z o)
abbrev Kw (l : Launch) (Z : Zx) (cL : ClassId) (o : Nat) (f : Nat → Int64) (y : MethodName) (ws : List Cond) (rm : Room) (av : List Value) (kans : Int32) (ans : Int64) : Prop := vx_Met l y ws rm (Pwr Z cL o f av) (Qwr Z cL o kans ans) XF 1 6 (LO Z o)
/-- what a walk of such a method stands in -/
def Sw (X : Cx) (Z : Zx) (cL : ClassId) (o : Nat) (hh : List (Nat × Nat × Nat × Nat)) (kans : Int32) (ans : Int64) : Prop := va_K Z.D vwCl [(cL, .long)] X.s ∧ Tx X.A X.s X.s.heap ∧ Ty X.s ∧ X.A = LO Z o ∧ X.Q = vx_MQ X.below (Qwr Z cL o kans ans) XF X.args X.s 1 6 (LO Z o) ∧ X.c.exceptionTable.toList = tableOf hh ∧ AdOk Z (LZ Z) ∧ ¬ LZ Z o
theorem Kw.of {l : Launch} {Z : Zx} {cL : ClassId} {o : Nat} {f : Nat → Int64} {y : MethodName} {ws ws' : List Cond} {rm : Room} {av : List Value} {kans : Int32} {ans : Int64} {cc : ByteArray} {maxL : Nat} {ret : Option FieldType} {hh : List (Nat × Nat × Nat × Nat)} (hZ : AdOk Z (LZ Z)) (ho : ¬ LZ Z o)
    (hy : plainName y.cls = true) (hw : ws = Cond.codeWith y cc maxL ret hh :: ws') (hL : (lg_sl av).length ≤ maxL)
    (body : ∀ X : Cx, X.l = l → Fx X Z cc maxL ws y.cls rm → Sw X Z cL o hh kans ans → X.meth.sig.returnType = ret → J (X.at 0 0) maxL (FL Z cL (WL Z tok0 ties0) o f) 0 (lvI maxL av) []) : Kw l Z cL o f y ws rm av kans ans := by
  refine vx_ofWH (cc := cc) (maxL := maxL) (ret := ret) (hh := hh) hy hw ?_
  intro p e s m args below meth c s₁ B hml hv
  obtain ⟨rfl, hw0, hK, hKL, hNW, hT, hTy⟩ := hv
  have hts := atoms_spec (ws := ws) B.pre
  have hown : s.vm.findClass y.cls = some m.cls := findClass_of_methodNamed B.named
  have htab := vx_table (x := y) B (hts (Cond.codeWith y cc maxL ret hh) (by rw [hw]; exact List.mem_cons_self))
  have hk := body (p, l, e, rm, s, m, av.toArray, below, meth, c, LO Z o, 0, 0, vx_MQ below (Qwr Z cL o kans ans) XF av.toArray s 1 6 (LO Z o)) rfl
    ⟨⟨B.exec, B.bytes, hml, hown, hts⟩, hK, rfl, Nat.zero_le _, Nat.zero_le _, B.notSynchronized, hNW⟩ ⟨hKL, hT, hTy, rfl, rfl, htab, hZ, ho⟩ B.returns
  rw [lg_entry_eq]
  exact hk s.heap [] _ hw0 va_S.rf (lvI_entry av hL)
section JW
variable {X : Cx} {Z : Zx} {cL : ClassId} {o : Nat} {hh : List (Nat × Nat × Nat × Nat)} {kans : Int32} {ans : Int64} {cc : ByteArray} {nL : Nat} {Ts : List Cond} {R : Room} {w w' : Heap → Prop} {f : Nat → Int64} {pc k n : Nat} {lv : List (Option Value)} {rest st : List Value}
/-- a call on the loom that returns an int -/
theorem w_cVi (S : Fx X Z cc nL Ts RL R) (hW : Sw X Z cL o hh kans ans) {y : MethodName} {ws : List Cond} {rm : Room} {b ci index n1 N : Nat} {As fs : List Value} {C : String} {T : u_T} {post : Int32 → Prop} (hM : Km X.l Z (LZ Z) y ws rm w (.ref b :: As) (Qi w' (LZ Z) post)) (cw : Cw Ts RL C R index y ws rm n1) (hrc : ∀ H, w H → va_P Z.D vwCl [(b, .inr (ci, fs))] H) (hc : vwCl[ci]? = some (C, T, N)) (hn : As.length = n1) (hcat : (rest.map fun v => v.category).sum ≤ 8) (hst : As.reverse ++ .ref b :: rest = st) (hd : decode cc pc = .ok (.invokevirtual index, 3)) (kk : ∀ r : Int32, post r → J (X.at 0 0) nL (FL Z cL w' o f) (pc + 3) lv (.int r :: rest)) : J (X.at 0 0) nL (FL Z cL w o f) pc lv st := by
  subst hst
  intro H locs ls hw hS hl
  obtain ⟨bytes, maxL, ret, ws', e1, hG, h0, h1, hy, hR⟩ := cw
  obtain ⟨hKL, hT, hTy, hA, hQ, htab, hZ, ho⟩ := hW
  have hrv := va_recv S.K (hrc H hw.1) hc (q0 := 0) rfl
  have hrun := va_runV (e := X.e) (below := X.below) (meth := X.meth) (H := H) (locs := locs) (cells := 0) (slots := 0) (g := F0 X.m pc ls (As.reverse ++ .ref b :: rest)) (As := As) (rest := rest) S.1 hM (cwV (bytes := bytes) (maxL := maxL) (ret := ret) n1 S.ts hG e1 h0 h1 hy (R := X.R) (by rw [S.rm]; exact hR)) ⟨Pw.blind, hrv, fun U hU hW => ⟨rfl, by rw [hU]; exact hw.1, va_K.moved hW.alike S.K, NW.warm hW S.nw⟩⟩ rfl hn hl.1 rfl (lv_room hcat) hd ⟨Nat.zero_le _, Nat.zero_le _⟩
  exact va_calli hrun hS (fun q _ h => by show X.A q; rw [hA]; exact Or.inl h) (fun q h => by show X.A q; rw [hA]; exact Or.inl h) (fun r _ t H1 locs1 ht hvm hp hb hz hk hS1 => kk r hp H1 locs1 ls (hw.keep ho hk (by rw [← ht]; exact hb)) hS1 hl)
/-- the answer is written -/
theorem w_last (S : Fx X Z cc nL Ts RL R) (hW : Sw X Z cL o hh kans ans) {x : Int64} (hd : decode cc pc = .ok (.lastore, 1)) (kk : ∀ g : Nat → Int64, g 0 = x → J (X.at 0 0) nL (FL Z cL (fun _ => True) o g) (pc + 1) lv rest) : J (X.at 0 0) nL (FL Z cL w o f) pc lv (.long x :: .int 0 :: .ref o :: rest) := by
  intro H locs ls hw hS hl
  obtain ⟨hKL, hT, hTy, hA, hQ, htab, hZ, ho⟩ := hW
  refine va_last S.ex S.by hKL hw.2 ⟨fun i j p q hi hj e => ?_, fun k q hq => ?_⟩ hS 0 0 rfl rfl (by unfold vp_in; decide) hd (fun H1 locs1 hP1 _ hS1 => kk _ ?_ H1 locs1 ls ⟨trivial, hP1⟩ hS1 hl)
  · have h1 : i < 1 := (List.getElem?_eq_some_iff.mp hi).1
    have h2 : j < 1 := (List.getElem?_eq_some_iff.mp hj).1
    omega
  · have h1 : k < 1 := (List.getElem?_eq_some_iff.mp hq).1
    rw [show k = 0 by omega] at hq
    cases hq
    show X.A o
    rw [hA]
    exact Or.inr rfl
  · simp [vp_updL]
/-- it ends with its number -/
theorem w_ret (S : Fx X Z cc nL Ts RL R) (hW : Sw X Z cL o hh kans ans) (hr : X.meth.sig.returnType = some .int) (hk : k ≤ 1) (hn : n ≤ 6) (hd : decode cc pc = .ok (.ireturn, 1)) (hg : kans = 0 → f 0 = ans) : J (X.at k n) nL (FL Z cL w o f) pc lv [.int kans] := by
  intro H locs ls hw hS hl
  obtain ⟨hKL, hT, hTy, hA, hQ, htab, hZ, ho⟩ := hW
  refine W.widen (k := 1) (n := 6) hk hn ?_
  show W X.p X.l X.e X.R X.s X.m X.args X.below X.meth X.c H locs 1 6 X.Q (F0 X.m pc ls [.int kans])
  rw [hQ]
  refine vx_ret ?_
  have hS : va_S (LO Z o) X.s.heap H locs := by rw [← hA]; exact hS
  exact W.zret S.ex S.by hr rfl (fun t ht _ => ⟨⟨kans, f, rfl, ⟨rfl, hg⟩, by show va_P Z.D vwCl [(o, .inl (cL, 1, .inr (.inl f)))] t.heap; rw [ht]; exact hw.2⟩, hS.F ht⟩) hS.2.2 hd S.lk
/-- the loom throws E: caught at the handler of that place -/
theorem w_catch (S : Fx X Z cc nL Ts RL R) (hW : Sw X Z cL o hh kans ans) {E name : String} {y : MethodName} {ws : List Cond} {rm : Room} {b ci index n1 N : Nat} {As fs : List Value} {C : String} {T : u_T} (hM : ∀ σ : St, Cons σ tok0 ties0 → Kx X.l Z (LZ Z) y ws rm (Wd Z σ) (.ref b :: As) E) (cw : MwV Ts RL C R index y ws rm n1 1 6) (hrc : ∀ H, WL Z tok0 ties0 H → va_P Z.D vwCl [(b, .inr (ci, fs))] H) (hc : vwCl[ci]? = some (C, T, N)) (hn : As.length = n1) (hcat : (rest.map fun v => v.category).sum ≤ 8) (hst : As.reverse ++ .ref b :: rest = st) (hd : decode cc pc = .ok (.invokevirtual index, 3)) (hRc : 1 ≤ R.cells) (hRs : 6 ≤ R.slots)
    (pre : List ExceptionTableEntry) (x : ExceptionTableEntry) (suf : List ExceptionTableEntry) (hsplit : tableOf hh = pre ++ x :: suf) (hpass : ∀ z ∈ pre, z.catchType ≠ 0 ∧ ∃ nm : String, Cond.classLink RL z.catchType nm ∈ Ts ∧ va_Nc E nm X.s) (hx : covers x pc = true) (h0 : x.catchType ≠ 0) (hlink : Cond.classLink RL x.catchType name ∈ Ts) (hcast : va_Nw (.castable E name) X.s) (kk : ∀ q : Nat, J (X.at 1 6) nL (FL Z cL (fun _ => True) o f) x.handlerPc lv [.ref q]) : J (X.at 0 0) nL (FL Z cL (WL Z tok0 ties0) o f) pc lv st := by
  subst hst
  intro H locs ls hw hS hl
  obtain ⟨hKL, hT, hTy, hA, hQ, htab, hZ, ho⟩ := hW
  obtain ⟨bytes, maxL, ret, ws', e1, hG, h0', h1, hy, hR⟩ := cw
  have hrv := va_recv S.K (hrc H hw.1) hc (q0 := 0) rfl
  obtain ⟨σ, hC, hwd⟩ := id hw.1
  have hS' : va_S X.A X.s.heap H locs := hS
  have hrun := vx_runV (e := X.e) (below := X.below) (meth := X.meth) (H := H) (locs := locs) (cells := 0) (slots := 0) (g := F0 X.m pc ls (As.reverse ++ .ref b :: rest)) (As := As) (rest := rest) S.1 (hM σ hC) (cwV (bytes := bytes) (maxL := maxL) (ret := ret) n1 S.ts hG e1 h0' h1 hy (R := X.R) (by rw [S.rm]; exact hR)) ⟨Px.blind, hrv, fun U hU hW => ⟨rfl, by rw [hU]; exact hwd, va_K.moved hW.alike S.K, NW.warm hW S.nw, by rw [hU]; exact Tx.warm hW ((hT.kept hS'.2.1).narrow (fun q h => by rw [hA]; exact Or.inl h))⟩⟩ rfl hn hl.1 rfl (lv_room hcat) hd ⟨by rw [S.rm]; exact hRc, by rw [S.rm]; exact hRs⟩
  intro T hTT Xs
  rcases hrun T hTT Xs with ⟨v, st₀, t, T', L, -, -, -, -, -, hf, -⟩ | ⟨q, st₀, t, T', L, E1, ce, g0, X', hL, g1, g2, hx9, hce, hcv, hcl, steps⟩
  · exact hf.elim
  · obtain ⟨u, -, hE, hF⟩ := hx9
    subst hE
    have hkeep : ∀ a : Nat, a < H.size → ¬ LZ Z a → T'.heap[a]? = H[a]? := fun a h2 h3 => by
      rw [g1, hF.2 a (by rw [g0]; exact h2) h3, g0]
    have hS2 : va_S X.A X.s.heap T'.heap (locs ++ L) := ⟨Nat.le_trans hS'.1 (by rw [g1, ← g0]; exact hF.1), fun a h2 h3 => (hkeep a (Nat.lt_of_lt_of_le h2 hS'.1) (fun z => h3 (by rw [hA]; exact Or.inl z))).trans (hS'.2.1 a h2 h3), fun z hz => (List.mem_append.mp hz).elim (hS'.2.2 z) (fun h => by rw [hA]; exact Or.inl (hL z h))⟩
    have hc9 := vx_catch (p := X.p) (l := X.l) (e := X.e) (R := X.R) (s := X.s) (m := X.m) (args := X.args) (below := X.below) (meth := X.meth) (c := X.c) (H := T'.heap) (locs := locs ++ L) (cells := 1) (slots := 6) (Q := X.Q) (ls := ls) (pc := pc) (rest := rest) S.ow pre x suf (htab.trans hsplit) (fun z hz => Or.inr (by
      obtain ⟨h2, nm, h3, h4⟩ := hpass z hz
      exact ⟨h2, nm, S.ts _ h3, h4⟩)) hx h0 (S.ts _ hlink) (va_Nw.use rfl hcast) (by rw [g1]; exact hce) hcv hcl (kk q T'.heap (locs ++ L) ls (hw.keep ho hkeep trivial) hS2 hl)
    obtain ⟨t2, s2, q2⟩ := hc9 T' rfl X'
    exact ⟨t2, steps.trans s2, q2⟩
end JW
