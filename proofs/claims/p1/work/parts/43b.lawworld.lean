/-! THE LAW's WORLD: the loom, the row of one long, and the model's cells beside them -/
theorem lg_same (x : Int64) : lg_cmp x x = 0 := by simp [lg_cmp]
/-- what a call of the model may change: what was made since the law began, but the loom's cells and the row of one long -/
def AM (G : RG) (n0 o : Nat) : Nat → Prop := fun q => n0 ≤ q ∧ ¬ LO G.Z o q
abbrev TT : Heap → Prop := fun _ => True
def LPc (G : RG) (n0 o n1 : Nat) (w : Heap → Prop) (f : Nat → Int64) (M : Wl) (H : Heap) : Prop := FL G.Z G.cL w o f H ∧ PL G.Z (AM G n0 o) M H ∧ n1 ≤ H.size
def SL (X : Cx) (G : RG) (o n1 : Nat) : Prop := Fx X G.Z code 9 wsL_law RL room_1 ∧ Kt G X.s ∧ Kh G X.A X.s X.s.heap ∧ Tx X.A X.s X.s.heap ∧ Ty X.s ∧ X.A = (fun q => X.s.heap.size ≤ q) ∧ AdOk G.Z (LZ G.Z) ∧ ¬ LZ G.Z o ∧ (∀ q, LO G.Z o q → X.s.heap.size ≤ q ∧ q < n1) ∧ X.l.stackTraces = false
theorem SL.fx {X : Cx} {G : RG} {o n1 : Nat} (S : SL X G o n1) {k n : Nat} (hk : k ≤ room_1.cells) (hn : n ≤ room_1.slots) : Fx (X.at k n) G.Z code 9 wsL_law RL room_1 := S.1.at k n hk hn
theorem Kh.narrow {G : RG} {A B : Nat → Prop} {U : State} {H : Heap} (h : Kh G A U H) (hAB : ∀ q, B q → A q) : Kh G B U H := by
  obtain ⟨a1, a2, a3, a4, a5, a6, a7, a8, a9, b1, b2⟩ := h
  exact ⟨a1.narrow hAB, a2.narrow hAB, a3.narrow hAB, a4.narrow hAB, a5.narrow hAB, a6.narrow hAB, a7.narrow hAB, a8.narrow hAB, a9.narrow hAB, b1.narrow hAB, b2⟩
theorem Kt.kL {G : RG} {U : State} (h : Kt G U) : va_K G.Z.D vwCl [(G.cL, .long)] U := va_K.sub h.1 (tys' := [(G.cL, .long)]) [3] rfl
theorem Pwr.blind {Z : Zx} {cL : ClassId} {o : Nat} {f : Nat → Int64} {av : List Value} : FrameBlind (Pwr Z cL o f av) := fun a U g mk q => ⟨q.1, q.2.1, va_K.moved (u := U) (U := U.calling g mk a) (Vm.Alike.refl U.vm) q.2.2.1, va_K.moved (u := U) (U := U.calling g mk a) (Vm.Alike.refl U.vm) q.2.2.2.1, NW.same (u := U) (U := U.calling g mk a) rfl q.2.2.2.2.1, Tx.same (u := U) (U := U.calling g mk a) rfl q.2.2.2.2.2.1, va_Nc.moved (u := U) (U := U.calling g mk a) (Vm.Alike.refl U.vm) q.2.2.2.2.2.2⟩
theorem lw_noX {p : Program} {l : Launch} {e : Env} {R : Room} {s : State} {m : MethodId} {args : Array Value} {below : List Frame} {meth : Method} {c : Code} {H : Heap} {locs : List Loc} {cells slots mc ms : Nat} {g : JFrame} {rest : List Value} {Qa : State → Outcome → State → Prop} {free : Addr → Prop} (h : vx_Run p l e R s m args below meth c H locs cells slots mc ms g rest Qa XF free) : va_Run p l e R s m args below meth c H locs cells slots mc ms g rest Qa free := fun T hT Xs => by
  rcases h T hT Xs with h1 | ⟨q, st₀, t, T', L, E, ce, h0, X', hL, e1, e2, hx, -⟩
  · exact h1
  · exact hx.elim
/-- what a call of a law's small method asks -/
abbrev CwT (index : Nat) (y : MethodName) (ws : List Cond) (rm : Room) (n : Nat) : Prop :=
  ∃ (bytes : ByteArray) (maxL : Nat) (ret : Option FieldType) (hh : List (Nat × Nat × Nat × Nat)) (ws' : List Cond), ws = Cond.codeWith y bytes maxL ret hh :: ws' ∧ GoodIn wsL_law (va_wsS RL index y ws) ∧ rm.cells = 1 ∧ rm.slots = 6 ∧ (y.cls ≠ "java/lang/invoke/MethodHandle" ∧ y.cls ≠ "java/lang/invoke/VarHandle" ∧ (parseMethodDescriptor y.desc).map (fun d => d.parameters.length) = some n) ∧ (rm.frames + 1 ≤ room_1.frames ∧ 8 + (maxL + 11) + rm.locals ≤ room_1.locals)
section JL
variable {X : Cx} {G : RG} {o n1 : Nat} {M : Wl} {w w' : Heap → Prop} {f : Nat → Int64} {pc k n : Nat} {lv : List (Option Value)} {rest st : List Value}
/-- a law's small method is called -/
theorem lw_w (S : SL X G o n1) {y : MethodName} {ws : List Cond} {rm : Room} {index nA : Nat} {As : List Value} {kans : Int32} {ans : Int64} (hM : Kw X.l G.Z G.cL o f y ws rm As kans ans) (cw : CwT index y ws rm nA) (hn : As.length = nA) (hcat : (rest.map fun v => v.category).sum ≤ 8) (hst : As.reverse ++ rest = st) (hk : k + 1 ≤ room_1.cells) (hs : n + 6 ≤ room_1.slots) (hd : decode code pc = .ok (.invokestatic index, 3)) (kk : ∀ g : Nat → Int64, (kans = 0 → g 0 = ans) → J (X.at (k + 1) (n + 6)) 9 (LPc G X.s.heap.size o n1 TT g M) (pc + 3) lv (.int kans :: rest)) : J (X.at k n) 9 (LPc G X.s.heap.size o n1 (WL G.Z tok0 ties0) f M) pc lv st := by
  subst hst
  intro H locs ls hw hS hl
  obtain ⟨bytes, maxL, ret, hh, ws', e1, hG, h0, h1, hy, hR⟩ := cw
  obtain ⟨hF, hKt, hKh, hTx, hTy, hA, hZ, ho, hLO, hfl⟩ := S
  have hS' : va_S X.A X.s.heap H locs := hS
  have hLA : ∀ q, LO G.Z o q → X.A q := fun q h => by rw [hA]; exact (hLO q h).1
  have hrun := lw_noX (vx_runSX (e := X.e) (below := X.below) (meth := X.meth) (H := H) (locs := locs) (cells := k) (slots := n) (g := F0 X.m pc ls (As.reverse ++ rest)) (As := As) (rest := rest) hF.1 hM (vx_cwSW (bytes := bytes) (maxL := maxL) (ret := ret) (hh := hh) nA hF.ts hG e1 h0 h1 hy (R := X.R) (by rw [hF.rm]; exact hR)) ⟨Pwr.blind, fun U hU hW => ⟨rfl, by rw [hU]; exact hw.1, va_K.moved hW.alike hF.K, va_K.moved hW.alike hKt.kL, NW.warm hW hF.nw, by rw [hU]; exact Tx.warm hW ((hTx.kept hS'.2.1).narrow hLA), va_Nc.moved hW.alike hTy⟩⟩ rfl hn hl.1 rfl (lv_room hcat) hd ⟨by rw [hF.rm]; exact hk, by rw [hF.rm]; exact hs⟩)
  exact va_calli hrun hS (fun q _ h => hLA q h) (fun q h => hLA q h) (fun r g t H1 locs1 ht hvm hp hb hz hk1 hS1 => by
    obtain ⟨hr, hg⟩ := hp
    subst hr
    exact kk g hg H1 locs1 ls ⟨⟨trivial, by rw [← ht]; exact hb⟩, ⟨hw.2.1.1, hw.2.1.2.kept fun i q hq => hk1 _ (hw.2.1.2 i q hq).lt (hw.2.1.1.2 i q hq).2⟩, Nat.le_trans hw.2.2 hz⟩ hS1 hl)
theorem lw_runV (S : SL X G o n1) {y : MethodName} {ws : List Cond} {rm : Room} {index nA mc ms : Nat} {As : List Value} {b ci N : Nat} {fs : List Value} {C : String} {T : u_T} {Qc : Array Value → State → Outcome → State → Prop} (hM : Kr X.l G (AM G X.s.heap.size o) y ws rm M (.ref b :: As) Qc mc ms) (cw : MwV wsL_law RL C room_1 index y ws rm nA mc ms) (hb : (b, .inr (ci, fs)) ∈ M) (hc : vwCl[ci]? = some (C, T, N)) (hn : As.length = nA) (hcat : (rest.map fun v => v.category).sum ≤ 8) (hk : k + mc ≤ room_1.cells) (hs : n + ms ≤ room_1.slots) (hd : decode code pc = .ok (.invokevirtual index, 3)) {H : Heap} {locs : List Loc} {ls : Array Slot} (hw : LPc G X.s.heap.size o n1 w f M H) (hS : va_S X.A X.s.heap H locs) (hl : lvF ls 9 lv) : va_Run X.p X.l X.e X.R X.s X.m X.args X.below X.meth X.c H locs k n mc ms (F0 X.m pc ls (As.reverse ++ .ref b :: rest)) rest (Qc (Value.ref b :: As).toArray) (AM G X.s.heap.size o) := by
  obtain ⟨bytes, maxL, ret, ws', e1, hG, h0, h1, hy, hR⟩ := cw
  obtain ⟨hF, hKt, hKh, hTx, hTy, hA, hZ, ho, hLO, hfl⟩ := S
  have hAA : ∀ q, AM G X.s.heap.size o q → X.A q := fun q h => by rw [hA]; exact h.1
  have hrv := va_recv hF.K (PL.g hb H hw.2.1) hc (q0 := 0) rfl
  exact va_runV (e := X.e) (below := X.below) (meth := X.meth) (H := H) (locs := locs) (cells := k) (slots := n) (g := F0 X.m pc ls (As.reverse ++ .ref b :: rest)) (As := As) (rest := rest) hF.1 hM (cwV (bytes := bytes) (maxL := maxL) (ret := ret) nA hF.ts hG e1 h0 h1 hy (R := X.R) (by rw [hF.rm]; exact hR)) ⟨Pg.blind, hrv, fun U hU hW => ⟨rfl, by rw [hU]; exact hw.2.1, va_K.moved hW.alike hF.K, Kt.warm hW hKt, by rw [hU]; exact (Kh.moved hW.alike (hKh.kept hS.2.1)).narrow hAA, fun q hq => ⟨Nat.le_trans hS.1 (by rw [← hU]; exact hq), fun hz => Nat.lt_irrefl _ (Nat.lt_of_lt_of_le (hLO q hz).2 (Nat.le_trans hw.2.2 (by rw [← hU]; exact hq)))⟩⟩⟩ rfl hn hl.1 rfl (lv_room hcat) hd ⟨by rw [hF.rm]; exact hk, by rw [hF.rm]; exact hs⟩
theorem LPc.after {n0 : Nat} (ho : LO G.Z o o) {H H1 : Heap} {M1 : Wl} (hw : LPc G n0 o n1 w f M H) (hb : PL G.Z (AM G n0 o) M1 H1) (hz : H.size ≤ H1.size) (hk : ∀ q : Nat, q < H.size → ¬ AM G n0 o q → H1[q]? = H[q]?) : LPc G n0 o n1 TT f M1 H1 := by
  refine ⟨⟨trivial, hw.1.2.kept fun k q hq => ?_⟩, hb, Nat.le_trans hw.2.2 hz⟩
  have hlt := (hw.1.2 k q hq).lt
  have hz : k < 1 := (List.getElem?_eq_some_iff.mp hq).1
  rw [show k = 0 by omega] at hq
  cases hq
  exact hk _ hlt (fun z => z.2 ho)
theorem LO_o {Z : Zx} {o : Nat} : LO Z o o := Or.inr rfl
/-- a method of the model is called -/
theorem lw_ci (S : SL X G o n1) {y : MethodName} {ws : List Cond} {rm : Room} {index nA mc ms : Nat} {As : List Value} {b ci N : Nat} {fs : List Value} {C : String} {T : u_T} {post : Int32 → Wl → Prop} (hM : Kr X.l G (AM G X.s.heap.size o) y ws rm M (.ref b :: As) (Gi G (AM G X.s.heap.size o) post) mc ms) (cw : MwV wsL_law RL C room_1 index y ws rm nA mc ms) (hb : (b, .inr (ci, fs)) ∈ M) (hc : vwCl[ci]? = some (C, T, N)) (hn : As.length = nA) (hcat : (rest.map fun v => v.category).sum ≤ 8) (hk : k + mc ≤ room_1.cells) (hs : n + ms ≤ room_1.slots) (hst : As.reverse ++ .ref b :: rest = st) (hd : decode code pc = .ok (.invokevirtual index, 3)) (kk : ∀ (v : Int32) (M1 : Wl), va_D (AM G X.s.heap.size o) M1 → post v M1 → J (X.at (k + mc) (n + ms)) 9 (LPc G X.s.heap.size o n1 TT f M1) (pc + 3) lv (.int v :: rest)) : J (X.at k n) 9 (LPc G X.s.heap.size o n1 w f M) pc lv st := by
  subst hst
  intro H locs ls hw hS hl
  have hAA : ∀ q, AM G X.s.heap.size o q → X.A q := fun q h => by rw [S.2.2.2.2.2.1]; exact h.1
  exact va_calli (lw_runV S hM cw hb hc hn hcat hk hs hd hw hS hl) hS (fun q _ h => hAA q h) (fun q h => hAA q h) (fun v M1 t H1 locs1 ht hvm hp hb1 hz hk1 hS1 => kk v M1 hb1.1 hp H1 locs1 ls (hw.after LO_o (by rw [← ht]; exact hb1) hz hk1) hS1 hl)
theorem lw_cl (S : SL X G o n1) {y : MethodName} {ws : List Cond} {rm : Room} {index nA mc ms : Nat} {As : List Value} {b ci N : Nat} {fs : List Value} {C : String} {T : u_T} {post : Int64 → Wl → Prop} (hM : Kr X.l G (AM G X.s.heap.size o) y ws rm M (.ref b :: As) (Gl G (AM G X.s.heap.size o) post) mc ms) (cw : MwV wsL_law RL C room_1 index y ws rm nA mc ms) (hb : (b, .inr (ci, fs)) ∈ M) (hc : vwCl[ci]? = some (C, T, N)) (hn : As.length = nA) (hcat : (rest.map fun v => v.category).sum ≤ 8) (hk : k + mc ≤ room_1.cells) (hs : n + ms ≤ room_1.slots) (hst : As.reverse ++ .ref b :: rest = st) (hd : decode code pc = .ok (.invokevirtual index, 3)) (kk : ∀ (v : Int64) (M1 : Wl), va_D (AM G X.s.heap.size o) M1 → post v M1 → J (X.at (k + mc) (n + ms)) 9 (LPc G X.s.heap.size o n1 TT f M1) (pc + 3) lv (.long v :: rest)) : J (X.at k n) 9 (LPc G X.s.heap.size o n1 w f M) pc lv st := by
  subst hst
  intro H locs ls hw hS hl
  have hAA : ∀ q, AM G X.s.heap.size o q → X.A q := fun q h => by rw [S.2.2.2.2.2.1]; exact h.1
  exact va_calll (lw_runV S hM cw hb hc hn hcat hk hs hd hw hS hl) hS (fun q _ h => hAA q h) (fun q h => hAA q h) (fun v M1 t H1 locs1 ht hvm hp hb1 hz hk1 hS1 => kk v M1 hb1.1 hp H1 locs1 ls (hw.after LO_o (by rw [← ht]; exact hb1) hz hk1) hS1 hl)
theorem lw_cd (S : SL X G o n1) {y : MethodName} {ws : List Cond} {rm : Room} {index nA mc ms : Nat} {As : List Value} {b ci N : Nat} {fs : List Value} {C : String} {T : u_T} {post : UInt64 → Wl → Prop} (hM : Kr X.l G (AM G X.s.heap.size o) y ws rm M (.ref b :: As) (Gd G (AM G X.s.heap.size o) post) mc ms) (cw : MwV wsL_law RL C room_1 index y ws rm nA mc ms) (hb : (b, .inr (ci, fs)) ∈ M) (hc : vwCl[ci]? = some (C, T, N)) (hn : As.length = nA) (hcat : (rest.map fun v => v.category).sum ≤ 8) (hk : k + mc ≤ room_1.cells) (hs : n + ms ≤ room_1.slots) (hst : As.reverse ++ .ref b :: rest = st) (hd : decode code pc = .ok (.invokevirtual index, 3)) (kk : ∀ (v : UInt64) (M1 : Wl), va_D (AM G X.s.heap.size o) M1 → post v M1 → J (X.at (k + mc) (n + ms)) 9 (LPc G X.s.heap.size o n1 TT f M1) (pc + 3) lv (.double v :: rest)) : J (X.at k n) 9 (LPc G X.s.heap.size o n1 w f M) pc lv st := by
  subst hst
  intro H locs ls hw hS hl
  have hAA : ∀ q, AM G X.s.heap.size o q → X.A q := fun q h => by rw [S.2.2.2.2.2.1]; exact h.1
  exact va_calld (lw_runV S hM cw hb hc hn hcat hk hs hd hw hS hl) hS (fun q _ h => hAA q h) (fun q h => hAA q h) (fun v M1 t H1 locs1 ht hvm hp hb1 hz hk1 hS1 => kk v M1 hb1.1 hp H1 locs1 ls (hw.after LO_o (by rw [← ht]; exact hb1) hz hk1) hS1 hl)
/-- a method of the loom is called by the law itself -/
theorem lw_runX (S : SL X G o n1) {y : MethodName} {ws : List Cond} {rm : Room} {b ci index nA N : Nat} {As fs : List Value} {C : String} {T : u_T} {Qc : Array Value → State → Outcome → State → Prop} (hM : Km X.l G.Z (LZ G.Z) y ws rm w (.ref b :: As) Qc) (cw : Cw wsL_law RL C room_1 index y ws rm nA) (hrc : ∀ H, w H → va_P G.Z.D vwCl [(b, .inr (ci, fs))] H) (hc : vwCl[ci]? = some (C, T, N)) (hn : As.length = nA) (hcat : (rest.map fun v => v.category).sum ≤ 8) (hk : k ≤ room_1.cells) (hs : n ≤ room_1.slots) (hd : decode code pc = .ok (.invokevirtual index, 3)) {H : Heap} {locs : List Loc} {ls : Array Slot} (hw : LPc G X.s.heap.size o n1 w f M H) (hl : lvF ls 9 lv) : va_Run X.p X.l X.e X.R X.s X.m X.args X.below X.meth X.c H locs k n 0 0 (F0 X.m pc ls (As.reverse ++ .ref b :: rest)) rest (Qc (Value.ref b :: As).toArray) (LZ G.Z) := by
  obtain ⟨bytes, maxL, ret, ws', e1, hG, h0, h1, hy, hR⟩ := cw
  have hF := S.1
  have hrv := va_recv hF.K (hrc H hw.1.1) hc (q0 := 0) rfl
  exact va_runV (e := X.e) (below := X.below) (meth := X.meth) (H := H) (locs := locs) (cells := k) (slots := n) (g := F0 X.m pc ls (As.reverse ++ .ref b :: rest)) (As := As) (rest := rest) hF.1 hM (cwV (bytes := bytes) (maxL := maxL) (ret := ret) nA hF.ts hG e1 h0 h1 hy (R := X.R) (by rw [hF.rm]; exact hR)) ⟨Pw.blind, hrv, fun U hU hW => ⟨rfl, by rw [hU]; exact hw.1.1, va_K.moved hW.alike hF.K, NW.warm hW hF.nw⟩⟩ rfl hn hl.1 rfl (lv_room hcat) hd ⟨by rw [hF.rm]; exact hk, by rw [hF.rm]; exact hs⟩
theorem LPc.loom {n0 : Nat} (ho : ¬ LZ G.Z o) {H H1 : Heap} (hw : LPc G n0 o n1 w f M H) (hz : H.size ≤ H1.size) (hk : ∀ q : Nat, q < H.size → ¬ LZ G.Z q → H1[q]? = H[q]?) : LPc G n0 o n1 TT f M H1 :=
  ⟨hw.1.keep ho hk trivial, ⟨hw.2.1.1, hw.2.1.2.kept fun i q hq => hk _ (hw.2.1.2 i q hq).lt (fun z => (hw.2.1.1.2 i q hq).2 (Or.inl z))⟩, Nat.le_trans hw.2.2 hz⟩
theorem lw_xi (S : SL X G o n1) {y : MethodName} {ws : List Cond} {rm : Room} {b ci index nA N : Nat} {As fs : List Value} {C : String} {T : u_T} {post : Int32 → Prop} (hM : Km X.l G.Z (LZ G.Z) y ws rm w (.ref b :: As) (Qi w' (LZ G.Z) post)) (cw : Cw wsL_law RL C room_1 index y ws rm nA) (hrc : ∀ H, w H → va_P G.Z.D vwCl [(b, .inr (ci, fs))] H) (hc : vwCl[ci]? = some (C, T, N)) (hn : As.length = nA) (hcat : (rest.map fun v => v.category).sum ≤ 8) (hk : k ≤ room_1.cells) (hs : n ≤ room_1.slots) (hst : As.reverse ++ .ref b :: rest = st) (hd : decode code pc = .ok (.invokevirtual index, 3)) (kk : ∀ v : Int32, post v → J (X.at k n) 9 (LPc G X.s.heap.size o n1 TT f M) (pc + 3) lv (.int v :: rest)) : J (X.at k n) 9 (LPc G X.s.heap.size o n1 w f M) pc lv st := by
  subst hst
  intro H locs ls hw hS hl
  have hAA : ∀ q, LZ G.Z q → X.A q := fun q h => by rw [S.2.2.2.2.2.1]; exact (S.2.2.2.2.2.2.2.2.1 q (Or.inl h)).1
  exact va_calli (lw_runX S hM cw hrc hc hn hcat hk hs hd hw hl) hS (fun q _ h => hAA q h) (fun q h => hAA q h) (fun v _ t H1 locs1 ht hvm hp hb1 hz hk1 hS1 => kk v hp H1 locs1 ls (hw.loom S.2.2.2.2.2.2.2.1 hz hk1) hS1 hl)
theorem lw_xl (S : SL X G o n1) {y : MethodName} {ws : List Cond} {rm : Room} {b ci index nA N : Nat} {As fs : List Value} {C : String} {T : u_T} {post : Int64 → Prop} (hM : Km X.l G.Z (LZ G.Z) y ws rm w (.ref b :: As) (Ql w' (LZ G.Z) post)) (cw : Cw wsL_law RL C room_1 index y ws rm nA) (hrc : ∀ H, w H → va_P G.Z.D vwCl [(b, .inr (ci, fs))] H) (hc : vwCl[ci]? = some (C, T, N)) (hn : As.length = nA) (hcat : (rest.map fun v => v.category).sum ≤ 8) (hk : k ≤ room_1.cells) (hs : n ≤ room_1.slots) (hst : As.reverse ++ .ref b :: rest = st) (hd : decode code pc = .ok (.invokevirtual index, 3)) (kk : ∀ v : Int64, post v → J (X.at k n) 9 (LPc G X.s.heap.size o n1 TT f M) (pc + 3) lv (.long v :: rest)) : J (X.at k n) 9 (LPc G X.s.heap.size o n1 w f M) pc lv st := by
  subst hst
  intro H locs ls hw hS hl
  have hAA : ∀ q, LZ G.Z q → X.A q := fun q h => by rw [S.2.2.2.2.2.1]; exact (S.2.2.2.2.2.2.2.2.1 q (Or.inl h)).1
  exact va_calll (lw_runX S hM cw hrc hc hn hcat hk hs hd hw hl) hS (fun q _ h => hAA q h) (fun q h => hAA q h) (fun v _ t H1 locs1 ht hvm hp hb1 hz hk1 hS1 => kk v hp H1 locs1 ls (hw.loom S.2.2.2.2.2.2.2.1 hz hk1) hS1 hl)
theorem lw_xd (S : SL X G o n1) {y : MethodName} {ws : List Cond} {rm : Room} {b ci index nA N : Nat} {As fs : List Value} {C : String} {T : u_T} {post : UInt64 → Prop} (hM : Km X.l G.Z (LZ G.Z) y ws rm w (.ref b :: As) (Qd w' (LZ G.Z) post)) (cw : Cw wsL_law RL C room_1 index y ws rm nA) (hrc : ∀ H, w H → va_P G.Z.D vwCl [(b, .inr (ci, fs))] H) (hc : vwCl[ci]? = some (C, T, N)) (hn : As.length = nA) (hcat : (rest.map fun v => v.category).sum ≤ 8) (hk : k ≤ room_1.cells) (hs : n ≤ room_1.slots) (hst : As.reverse ++ .ref b :: rest = st) (hd : decode code pc = .ok (.invokevirtual index, 3)) (kk : ∀ v : UInt64, post v → J (X.at k n) 9 (LPc G X.s.heap.size o n1 TT f M) (pc + 3) lv (.double v :: rest)) : J (X.at k n) 9 (LPc G X.s.heap.size o n1 w f M) pc lv st := by
  subst hst
  intro H locs ls hw hS hl
  have hAA : ∀ q, LZ G.Z q → X.A q := fun q h => by rw [S.2.2.2.2.2.1]; exact (S.2.2.2.2.2.2.2.2.1 q (Or.inl h)).1
  exact va_calld (lw_runX S hM cw hrc hc hn hcat hk hs hd hw hl) hS (fun q _ h => hAA q h) (fun q h => hAA q h) (fun v _ t H1 locs1 ht hvm hp hb1 hz hk1 hS1 => kk v hp H1 locs1 ls (hw.loom S.2.2.2.2.2.2.2.1 hz hk1) hS1 hl)
/-- the answer is read out of the row of one long -/
theorem lw_lald (S : SL X G o n1) (hd : decode code pc = .ok (.laload, 1)) (kk : J (X.at k n) 9 (LPc G X.s.heap.size o n1 w f M) (pc + 1) lv (.long (f 0) :: rest)) : J (X.at k n) 9 (LPc G X.s.heap.size o n1 w f M) pc lv (.int 0 :: .ref o :: rest) := fun H locs ls hw hS hl =>
  va_lald S.1.ex S.1.by S.2.1.kL hw.1.2 0 0 rfl rfl (by unfold vp_in; decide) hd (by rw [show (0 : Int32).toNatClampNeg = 0 from by decide]; exact kk H locs ls hw hS hl)
end JL
/-! the script; a choice between 0 and 1; the end -/
def Scr (X : Cx) (b : Nat) (xs : Nat → Int32) : Prop := va_X b 4 xs X.s X.s.heap ∧ b < X.s.heap.size ∧ ¬ X.A b
section JE
variable {X : Cx} {Z : Zx} {cc : ByteArray} {nL : Nat} {Ts : List Cond} {own : String} {R : Room} {w : Heap → Prop} {pc k n : Nat} {lv : List (Option Value)} {rest : List Value}
theorem j_slen (S : Fx X Z cc nL Ts own R) {b L : Nat} {xs : Nat → Int32} (hX : va_X b L xs X.s X.s.heap) (hbl : b < X.s.heap.size) (hbA : ¬ X.A b) (hd : decode cc pc = .ok (.arraylength, 1)) (kk : J X nL w (pc + 1) lv (.int (nI L) :: rest)) : J X nL w pc lv (.ref b :: rest) :=
  fun H locs ls hw hS hl => va_slen S.ex S.by hX hbl hbA hS hd (kk H locs ls hw hS hl)
theorem lw_sc {b : Nat} {xs : Nat → Int32} (S : Fx (X.at k n) Z cc nL Ts own R) (hX : Scr X b xs) {i x : Int32} {j : Nat} (hj : i.toNatClampNeg = j) (hin : vp_in i 4) (hx : xs j = x) (hd : decode cc pc = .ok (.iaload, 1)) (kk : J (X.at k n) nL w (pc + 1) lv (.int x :: rest)) : J (X.at k n) nL w pc lv (.int i :: .ref b :: rest) := fun H locs ls hw hS hl =>
  va_sld S.ex S.by hX.1 hX.2.1 hX.2.2 hS hin hd (by rw [hj, hx]; exact kk H locs ls hw hS hl)
theorem lw_bool (S : Fx X Z cc nL Ts own R) {x : Int32} (d0 : decode cc pc = .ok (.ifCond .eq 7, 3)) (d3 : decode cc (pc + 3) = .ok (.iconst 1, 1)) (d4 : decode cc (pc + 4) = .ok (.goto 4, 3)) (d7 : decode cc (pc + 7) = .ok (.iconst 0, 1)) (kk : J X nL w (pc + 8) lv (.int (b2i (x != 0)) :: rest)) : J X nL w pc lv (.int x :: rest) := by
  refine j_if_eq S (pc + 7) d0 (by omega) (fun h => ?_) (fun h => ?_)
  · subst h
    exact j_iconst S 0 d7 (by decide) kk
  · have e : b2i (x != 0) = 1 := by
      have : (x != 0) = true := by simpa using h
      rw [this]
      rfl
    rw [e] at kk
    exact j_iconst S 1 d3 (by decide) (j_goto S (pc + 8) d4 (by omega) kk)
theorem j_dstore (S : Fx X Z cc nL Ts own R) {i : Nat} {v : UInt64} (lv' : List (Option Value)) (hd : decode cc pc = .ok (.dstore i, 2)) (hn : i + 1 < nL) (hok : lok lv i = true) (hl' : lset (lset lv i (some (.double v))) (i + 1) none = lv') (kk : J X nL w (pc + 2) lv' rest) : J X nL w pc lv (.double v :: rest) := by
  subst hl'
  exact fun H locs ls hw hS hl => lv_dstore S.ex S.by hd hl hn rfl (fun ls' hl' => kk H locs ls' hw hS (lvF.st2 hok hl'))
theorem j_dload (S : Fx X Z cc nL Ts own R) {i : Nat} {v : UInt64} (hd : decode cc pc = .ok (.dload i, 2)) (hg : lget lv i = some (.double v)) (kk : J X nL w (pc + 2) lv (.double v :: rest)) : J X nL w pc lv rest :=
  fun H locs ls hw hS hl => lv_dload S.ex S.by hd (hl.at hg) (kk H locs ls hw hS hl)
end JE
/-- the law's end: 1 is answered -/
theorem lw_last1 {X : Cx} {Z : Zx} {b : Nat} {Ts : List Cond} {own : String} {w : Heap → Prop} {pc : Nat} {lv : List (Option Value)} (S : Fx X Z code 9 Ts own room_1) (hret : X.meth.sig.returnType = ret) (hargs : X.args = #[Value.ref b]) (hQ : X.Q = lw_Z X.below #[Value.ref b] X.s) (hA : X.A = fun q => X.s.heap.size ≤ q) (hd : decode code pc = .ok (.ireturn, 1)) : J X 9 w pc lv [.int 1] := by
  intro H locs ls hw hS hl
  refine va_forget (fun q hq => ?_) ?_
  · have h1 := hS.2.2 q hq
    rw [hA] at h1
    exact h1
  · have hk : X.k ≤ 600002 := S.2.2.2.1
    have hn : X.n ≤ 7302232 := S.2.2.2.2.1
    refine W.widen (k := 600002) (n := 7302232) hk hn ?_
    refine W.base ?_
    rw [hargs, hQ, S.rm]
    exact lw_ret (Drawn.sameBut.refl X.s.drawn lw_cs) S.ex S.by hret S.lk hd
