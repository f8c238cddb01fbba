/-! THE LAW: its claim's words (the skeleton's rows ahead of 'your part'), then rows of a walk over the loom's picture and the law's own array of tokens -/
def R_law : String := "TreadleLoomLaw"
def lw_P (b : Addr) (xs : List Int32) (args : Array Value) (s : State) : Prop := args = #[.ref b] ∧ s.IntsAt b xs ∧ xs.length ≤ 260 ∧ (Jvm.Cond.and given_1 narrow_1).before args s = true
/-- what a walk over the start with the record d0 says of its end, said of the start itself -/
theorem lw_closed {s t : State} {o : Outcome} {d0 : Drawn} {L : List Loc} {k n : Nat} (hd0 : s.drawn.sameBut d0 lw_cs) (hv : ∃ v, o = .returned v) (hW : (s.setDrawn d0).WarmedH t.vm) (hs : (s.setDrawn d0).sameButNew ({ t with vm := s.vm } : State) L k n) : State.butDraws s t lw_cs (fun t1 => Framed s o t1 L k n) := by
  have h2 : t.drawn = d0 := congrArg State.drawn hs.1
  refine ⟨⟨hv, hW, State.sameButNew.setDrawn hs s.drawn⟩, ?_, by decide⟩
  rw [h2]
  exact hd0
def lw_Q (_ : Array Value) (s : State) (o : Outcome) (t : State) : Prop := o = .returned (some (.int 1)) ∧ State.butDraws s t lw_cs (fun t1 => Framed s o t1 [] 600130 7301080)
def lw_Z (below : List Frame) (a : Array Value) (s : State) : State → Prop := fun t => ∃ o, t.status = .running ∧ Ended t below o ∧ lw_Q a s o t
/-- the law's own end, with 1 on the stack, nothing written that was there before, its room as the claim has it; d0: the record of draws at this point (at the entry s.drawn: begin with 'refine W.base ?_' and 'have hd0 := Drawn.sameBut.refl s.drawn lw_cs') -/
theorem lw_ret {p : Program} {l : Launch} {e : Env} {s : State} {m : MethodId} {below : List Frame} {meth : Method} {c : Code} {b : Nat} {d0 : Drawn} (hd0 : s.drawn.sameBut d0 lw_cs) (hx : p.tables.exec = Jvm.exec) (hb : c.code = code) (hr : meth.sig.returnType = ret) (hlocks : meth.locks = false) {pc : Nat} {H : Heap} {ls : Array Slot} (hdg : decode code pc = .ok (.ireturn, 1)) : W p l e room_1 (s.setDrawn d0) m #[Value.ref b] below meth c H [] 600130 7301080 (lw_Z below #[Value.ref b] s) (F0 m pc ls [.int 1]) := by
  intro T hT X
  obtain ⟨fs, hret, hrun, hended, hW, hframe⟩ := X.leave (v := some (.int 1)) (hlocks := hlocks) (fun h => by rw [hr] at h; cases h)
  have hmeth' : T.vm.method? m = some meth := X.method'
  refine ⟨T.setFrames fs, ?_, .returned (some (.int 1)), hrun, hended, rfl, lw_closed hd0 ⟨_, rfl⟩ hW hframe⟩
  jvm_step X.here [X.here.top, hx, hb, hdg, hmeth', hr, ret, narrow_b1]
  (try refine ⟨rfl, ?_⟩); (try refine ⟨rfl, ?_⟩)
  first | (intro acts; rw [hret _ acts rfl rfl rfl]) | rw [hret _ _ rfl rfl rfl]
  exact Steps.refl _
/-- what holds at the law's entry: the machine, the code, the tables' words (any of lw_tbl by 'hts w (by decide +kernel)'), the script of L ints xs at the cell b, what the Statement gives of the start (any of its parts by flat_of_before) -/
def lw_At (p : Program) (s : State) (m : MethodId) (meth : Method) (c : Code) (b L : Nat) (xs : Nat → Int32) : Prop :=
  p.tables.exec = Jvm.exec ∧ c.code = code ∧ meth.sig.returnType = ret ∧ c.maxLocals = 18 ∧ s.vm.findClass R_law = some m.cls ∧ (∀ w ∈ lw_tbl, w.before #[Value.ref b] s = true) ∧ va_X b L xs s s.heap ∧ b < s.heap.size ∧ meth.locks = false ∧ (Jvm.Cond.and given_1 narrow_1).before #[Value.ref b] s = true
/-- what a call on the loom may change -/
def LA (Z : Zx) : Nat → Prop := fun q => ∃ k, k < 76 ∧ q = Z.ad k
theorem LA_ok {Z : Zx} {A : Nat → Prop} (h : AdOk Z A) : AdOk Z (LA Z) := ⟨h.1, fun k hk => ⟨k, hk, rfl⟩⟩
theorem LA_in {Z : Zx} {A : Nat → Prop} (h : AdOk Z A) {q : Nat} (hq : LA Z q) : A q := by
  obtain ⟨k, hk, rfl⟩ := hq
  exact h.2 k hk
/-- the loom's picture, and the law's own array of ten -/
def FW (Z : Zx) (w : Heap → Prop) (ta : Nat) (f : Nat → Int32) (H : Heap) : Prop := w H ∧ va_P Z.D vwCl [(ta, .inl (Z.cI, 10, .inl f))] H
theorem FW.keep {Z : Zx} {w w' : Heap → Prop} {ta : Nat} {f : Nat → Int32} {H H1 : Heap} (h : FW Z w ta f H) {A1 : Nat → Prop} (hta : ¬ A1 ta) (hk : ∀ q : Nat, q < H.size → ¬ A1 q → H1[q]? = H[q]?) (hw : w' H1) : FW Z w' ta f H1 := by
  refine ⟨hw, h.2.kept fun k q hq => ?_⟩
  have hlt := (h.2 k q hq).lt
  have hz : k < 1 := (List.getElem?_eq_some_iff.mp hq).1
  rw [show k = 0 by omega] at hq
  cases hq
  exact hk _ hlt hta
section LC
variable {X : Cx} {Z : Zx} {cc : ByteArray} {nL : Nat} {Ts : List Cond} {own : String} {R : Room} {w w' : Heap → Prop} {pc : Nat} {lv : List (Option Value)} {rest st : List Value} {ta : Nat} {f : Nat → Int32}
theorem runV_A (S : Fx X Z cc nL Ts own R) {A1 : Nat → Prop} {y : MethodName} {ws : List Cond} {rm : Room} {b ci index n N : Nat} {As fs : List Value} {C : String} {T : u_T} {Qc : Array Value → State → Outcome → State → Prop} (hM : Km X.l Z A1 y ws rm w (.ref b :: As) Qc) (cw : Cw Ts own C R index y ws rm n) (hrc : ∀ H, w H → va_P Z.D vwCl [(b, .inr (ci, fs))] H) (hc : vwCl[ci]? = some (C, T, N)) (hn : As.length = n) (hcat : (rest.map fun v => v.category).sum ≤ 8) (hd : decode cc pc = .ok (.invokevirtual index, 3)) {H : Heap} {locs : List Loc} {ls : Array Slot} (hw : w H) (hl : lvF ls nL lv) :
    va_Run X.p X.l X.e X.R X.s X.m X.args X.below X.meth X.c H locs X.k X.n 0 0 (F0 X.m pc ls (As.reverse ++ .ref b :: rest)) rest (Qc (Value.ref b :: As).toArray) A1 := by
  obtain ⟨bytes, maxL, ret, ws', e1, hG, h0, h1, hy, hR⟩ := cw
  have hrv := va_recv S.K (hrc H hw) hc (q0 := 0) rfl
  refine va_runV (As := As) (rest := rest) S.1 hM (cwV (bytes := bytes) (maxL := maxL) (ret := ret) n S.ts hG e1 h0 h1 hy (by rw [S.rm]; exact hR)) ⟨Pw.blind, hrv, fun U hU hW => ⟨rfl, by rw [hU]; exact hw, va_K.moved hW.alike S.K, NW.warm hW S.nw⟩⟩ rfl hn hl.1 rfl (lv_room hcat) hd ⟨by rw [S.rm]; exact S.2.2.2.1, by rw [S.rm]; exact S.2.2.2.2.1⟩
theorem runS_A (S : Fx X Z cc nL Ts own R) {A1 : Nat → Prop} {y : MethodName} {ws : List Cond} {rm : Room} {index n : Nat} {As : List Value} {Qc : Array Value → State → Outcome → State → Prop} (hM : Km X.l Z A1 y ws rm w As Qc) (cw : Cs Ts own R index y ws rm n) (hn : As.length = n) (hcat : (rest.map fun v => v.category).sum ≤ 8) (hd : decode cc pc = .ok (.invokestatic index, 3)) {H : Heap} {locs : List Loc} {ls : Array Slot} (hw : w H) (hl : lvF ls nL lv) :
    va_Run X.p X.l X.e X.R X.s X.m X.args X.below X.meth X.c H locs X.k X.n 0 0 (F0 X.m pc ls (As.reverse ++ rest)) rest (Qc As.toArray) A1 := by
  obtain ⟨bytes, maxL, ret, ws', e1, hG, h0, h1, hy, hR⟩ := cw
  refine va_runS (As := As) (rest := rest) S.1 hM (va_cwS (bytes := bytes) (maxL := maxL) (ret := ret) n S.ts hG e1 h0 h1 hy (by rw [S.rm]; exact hR)) ⟨Pw.blind, fun U hU hW => ⟨rfl, by rw [hU]; exact hw, va_K.moved hW.alike S.K, NW.warm hW S.nw⟩⟩ rfl hn hl.1 rfl (lv_room hcat) hd ⟨by rw [S.rm]; exact S.2.2.2.1, by rw [S.rm]; exact S.2.2.2.2.1⟩
theorem L_cVi (S : Fx X Z cc nL Ts own R) (hA : AdOk Z X.A) (hta : ¬ LA Z ta) {y : MethodName} {ws : List Cond} {rm : Room} {b ci index n N : Nat} {As fs : List Value} {C : String} {T : u_T} {post : Int32 → Prop} (hM : Km X.l Z (LA Z) y ws rm w (.ref b :: As) (Qi w' (LA Z) post)) (cw : Cw Ts own C R index y ws rm n) (hrc : ∀ H, w H → va_P Z.D vwCl [(b, .inr (ci, fs))] H) (hc : vwCl[ci]? = some (C, T, N)) (hn : As.length = n) (hcat : (rest.map fun v => v.category).sum ≤ 8) (hst : As.reverse ++ .ref b :: rest = st) (hd : decode cc pc = .ok (.invokevirtual index, 3)) (kk : ∀ r : Int32, post r → J X nL (FW Z w' ta f) (pc + 3) lv (.int r :: rest)) : J X nL (FW Z w ta f) pc lv st := by
  subst hst
  intro H locs ls hw hS hl
  exact va_calli (runV_A S hM cw hrc hc hn hcat hd hw.1 hl) hS (fun q _ h => LA_in hA h) (fun q h => LA_in hA h) (fun r _ t H1 locs1 ht hvm hp hb hz hk hS1 => kk r hp H1 locs1 ls (hw.keep hta hk (by rw [← ht]; exact hb)) hS1 hl)
theorem L_cVl (S : Fx X Z cc nL Ts own R) (hA : AdOk Z X.A) (hta : ¬ LA Z ta) {y : MethodName} {ws : List Cond} {rm : Room} {b ci index n N : Nat} {As fs : List Value} {C : String} {T : u_T} {post : Int64 → Prop} (hM : Km X.l Z (LA Z) y ws rm w (.ref b :: As) (Ql w' (LA Z) post)) (cw : Cw Ts own C R index y ws rm n) (hrc : ∀ H, w H → va_P Z.D vwCl [(b, .inr (ci, fs))] H) (hc : vwCl[ci]? = some (C, T, N)) (hn : As.length = n) (hcat : (rest.map fun v => v.category).sum ≤ 8) (hst : As.reverse ++ .ref b :: rest = st) (hd : decode cc pc = .ok (.invokevirtual index, 3)) (kk : ∀ r : Int64, post r → J X nL (FW Z w' ta f) (pc + 3) lv (.long r :: rest)) : J X nL (FW Z w ta f) pc lv st := by
  subst hst
  intro H locs ls hw hS hl
  exact va_calll (runV_A S hM cw hrc hc hn hcat hd hw.1 hl) hS (fun q _ h => LA_in hA h) (fun q h => LA_in hA h) (fun r _ t H1 locs1 ht hvm hp hb hz hk hS1 => kk r hp H1 locs1 ls (hw.keep hta hk (by rw [← ht]; exact hb)) hS1 hl)
theorem L_cVd (S : Fx X Z cc nL Ts own R) (hA : AdOk Z X.A) (hta : ¬ LA Z ta) {y : MethodName} {ws : List Cond} {rm : Room} {b ci index n N : Nat} {As fs : List Value} {C : String} {T : u_T} {post : UInt64 → Prop} (hM : Km X.l Z (LA Z) y ws rm w (.ref b :: As) (Qd w' (LA Z) post)) (cw : Cw Ts own C R index y ws rm n) (hrc : ∀ H, w H → va_P Z.D vwCl [(b, .inr (ci, fs))] H) (hc : vwCl[ci]? = some (C, T, N)) (hn : As.length = n) (hcat : (rest.map fun v => v.category).sum ≤ 8) (hst : As.reverse ++ .ref b :: rest = st) (hd : decode cc pc = .ok (.invokevirtual index, 3)) (kk : ∀ r : UInt64, post r → J X nL (FW Z w' ta f) (pc + 3) lv (.double r :: rest)) : J X nL (FW Z w ta f) pc lv st := by
  subst hst
  intro H locs ls hw hS hl
  exact va_calld (runV_A S hM cw hrc hc hn hcat hd hw.1 hl) hS (fun q _ h => LA_in hA h) (fun q h => LA_in hA h) (fun r _ t H1 locs1 ht hvm hp hb hz hk hS1 => kk r hp H1 locs1 ls (hw.keep hta hk (by rw [← ht]; exact hb)) hS1 hl)
/-- a static method that changes nothing -/
theorem L_cSi (S : Fx X Z cc nL Ts own R) {y : MethodName} {ws : List Cond} {rm : Room} {index n : Nat} {As : List Value} {post : Int32 → Prop} (hM : Km X.l Z (fun _ => False) y ws rm (fun _ => True) As (Qi (fun _ => True) (fun _ => False) post)) (cw : Cs Ts own R index y ws rm n) (hn : As.length = n) (hcat : (rest.map fun v => v.category).sum ≤ 8) (hst : As.reverse ++ rest = st) (hd : decode cc pc = .ok (.invokestatic index, 3)) (kk : ∀ r : Int32, post r → J X nL (FW Z w ta f) (pc + 3) lv (.int r :: rest)) (hw9 : ∀ H H1 : Heap, w H → H.size ≤ H1.size → (∀ q : Nat, q < H.size → H1[q]? = H[q]?) → w H1) : J X nL (FW Z w ta f) pc lv st := by
  subst hst
  intro H locs ls hw hS hl
  exact va_calli (runS_A S hM cw hn hcat hd trivial hl) hS (fun q _ h => h.elim) (fun q h => h.elim) (fun r _ t H1 locs1 ht hvm hp hb hz hk hS1 => kk r hp H1 locs1 ls (hw.keep (fun h => h) hk (hw9 H H1 hw.1 hz (fun q h => hk q h (fun h => h)))) hS1 hl)
/-- a token out of the array of ten -/
theorem L_tok (S : Fx X Z cc nL Ts own R) {i : Nat} (hi : i < 10) (hd : decode cc pc = .ok (.iaload, 1)) (kk : J X nL (FW Z w ta f) (pc + 1) lv (.int (f i) :: rest)) : J X nL (FW Z w ta f) pc lv (.int (nI i) :: .ref ta :: rest) :=
  j_iaload S (fun H h => h.2) (vp_in_nI hi (by decide)) (by rw [nI_clamp (by omega)]) hd kk
end LC
theorem WL.keep {Z : Zx} {tok : Nat → List Int32} {ties : List Int32} {H H1 : Heap} (h : WL Z tok ties H) (hk : ∀ q : Nat, q < H.size → H1[q]? = H[q]?) : WL Z tok ties H1 := by
  obtain ⟨σ, hC, ρ, hR, hP⟩ := h
  exact ⟨σ, hC, ρ, hR, hP.kept fun k q hq => hk _ (hP k q hq).lt⟩
/-- the law's end: 1 is answered -/
theorem L_end {X : Cx} {Z : Zx} {b : Nat} {Ts : List Cond} {own : String} {w : Heap → Prop} {pc : Nat} {lv : List (Option Value)} (S : Fx X Z code 18 Ts own room_1) (hret : X.meth.sig.returnType = ret) (hargs : X.args = #[Value.ref b]) (hQ : X.Q = lw_Z X.below #[Value.ref b] X.s) (hA : X.A = fun q => X.s.heap.size ≤ q) (hd : decode code pc = .ok (.ireturn, 1)) : J X 18 w pc lv [.int 1] := by
  intro H locs ls hw hS hl
  refine va_forget (fun q hq => ?_) ?_
  · have h1 := hS.2.2 q hq
    rw [hA] at h1
    exact h1
  · have hk : X.k ≤ 600130 := S.2.2.2.1
    have hn : X.n ≤ 7301080 := S.2.2.2.2.1
    refine W.widen (k := 600130) (n := 7301080) hk hn ?_
    refine W.base ?_
    rw [hargs, hQ, S.rm]
    exact lw_ret (Drawn.sameBut.refl X.s.drawn lw_cs) S.ex S.by hret S.lk hd
