/-! THE REFERENCE over a list of cells that is a variable: what is in it is told by membership; a row hands the next list -/
abbrev nMr : List (String × Nat × MethodName × String) := [("TreadleLoomModel$Group", 28, yX8_joined, "TreadleLoomModel"), ("TreadleLoomModel$Reading", 31, yX6_init, "TreadleLoomModel"), ("TreadleLoomModel$Reading", 88, yX8_reading, "TreadleLoomModel")]
abbrev Wl : Type := va_W
def PL (Z : Zx) (A : Nat → Prop) (l : Wl) (H : Heap) : Prop := va_D A l ∧ va_P Z.D vwCl l H
theorem PL.g {Z : Zx} {A : Nat → Prop} {l : Wl} {a : Nat} {e : va_E} (h : (a, e) ∈ l) : ∀ H, PL Z A l H → va_P Z.D vwCl [(a, e)] H := fun H hp k q hq => by
  have hz : k < 1 := (List.getElem?_eq_some_iff.mp hq).1
  rw [show k = 0 by omega] at hq
  cases hq
  obtain ⟨i, hi⟩ := List.getElem?_of_mem h
  exact hp.2 i _ hi
/-- all stays but what lies at E -/
def Kp (M : Wl) (E : List Nat) (N : Wl) : Prop := ∀ (b : Nat) (x : va_E), b ∉ E → (b, x) ∈ M → (b, x) ∈ N
theorem Kp.refl {M : Wl} {E : List Nat} : Kp M E M := fun _ _ _ h => h
theorem Kp.trans {M N O : Wl} {E : List Nat} (h1 : Kp M E N) (h2 : Kp N E O) : Kp M E O := fun b x hb h => h2 b x hb (h1 b x hb h)
/-- one cell is another now -/
def Up (l : Wl) (a : Nat) (e : va_E) (l' : Wl) : Prop := (a, e) ∈ l' ∧ ∀ (b : Nat) (x : va_E), b ≠ a → (b, x) ∈ l → (b, x) ∈ l'
/-- one cell is new -/
def Nu (l : Wl) (a : Nat) (e : va_E) (l' : Wl) : Prop := (a, e) ∈ l' ∧ ∀ (b : Nat) (x : va_E), (b, x) ∈ l → (b, x) ∈ l' ∧ b ≠ a
theorem In.one {A : Nat → Prop} {l : Wl} {a : Nat} {x y : va_E} (hD : va_D A l) (h1 : (a, x) ∈ l) (h2 : (a, y) ∈ l) : x = y := by
  obtain ⟨i, hi⟩ := List.getElem?_of_mem h1
  obtain ⟨j, hj⟩ := List.getElem?_of_mem h2
  have e := hD.1 i j _ _ hi hj rfl
  subst e
  rw [hi] at hj
  cases hj
  rfl
theorem In.ne {A : Nat → Prop} {l : Wl} {a b : Nat} {x y : va_E} (hD : va_D A l) (h1 : (b, x) ∈ l) (h2 : (a, y) ∈ l) (h : x ≠ y) : b ≠ a := fun c => by
  subst c
  exact h (In.one hD h1 h2)
theorem In.a {A : Nat → Prop} {l : Wl} {a : Nat} {x : va_E} (hD : va_D A l) (h1 : (a, x) ∈ l) : A a := by
  obtain ⟨i, hi⟩ := List.getElem?_of_mem h1
  exact hD.2 i _ hi
theorem Up.of {l : Wl} {i a : Nat} {e0 e : va_E} (hi : l[i]? = some (a, e0)) : Up l a e (l.set i (a, e)) := by
  have hlt := (List.getElem?_eq_some_iff.mp hi).1
  refine ⟨List.mem_of_getElem? (i := i) (by simp [hlt]), fun b x hb hx => ?_⟩
  obtain ⟨j, hj⟩ := List.getElem?_of_mem hx
  have hne : i ≠ j := fun c => by
    subst c
    rw [hi] at hj
    cases hj
    exact hb rfl
  exact List.mem_of_getElem? (i := j) (by rw [List.getElem?_set_ne hne]; exact hj)
theorem Nu.of {A : Nat → Prop} {l : Wl} {a : Nat} {e : va_E} (hD : va_D A (l ++ [(a, e)])) : Nu l a e (l ++ [(a, e)]) := by
  refine ⟨by simp, fun b x hx => ⟨List.mem_append_left _ hx, fun c => ?_⟩⟩
  subst c
  obtain ⟨j, hj⟩ := List.getElem?_of_mem hx
  have hlt := (List.getElem?_eq_some_iff.mp hj).1
  have e := hD.1 j l.length (b, x) (b, e) (by rw [List.getElem?_append_left hlt]; exact hj) (by rw [List.getElem?_append_right (Nat.le_refl _), Nat.sub_self]; rfl) rfl
  omega
/-- what stays fixed for the reference: the class's own, its array classes, the JDK's empty arrays, the Integer cache, the mirror -/
abbrev RG : Type := Zx × ClassId × ClassId × ClassId × Nat × Nat × Nat × (Nat → Nat) × Nat
def RG.Z (G : RG) : Zx := G.1
def RG.cO (G : RG) : ClassId := G.2.1
def RG.cR (G : RG) : ClassId := G.2.2.1
def RG.cL (G : RG) : ClassId := G.2.2.2.1
def RG.e0 (G : RG) : Nat := G.2.2.2.2.1
def RG.e1 (G : RG) : Nat := G.2.2.2.2.2.1
def RG.tb (G : RG) : Nat := G.2.2.2.2.2.2.1
def RG.bx (G : RG) : Nat → Nat := G.2.2.2.2.2.2.2.1
def RG.mi (G : RG) : Nat := G.2.2.2.2.2.2.2.2
abbrev tyO : FieldType := .object "java/lang/Object"
abbrev tysR (G : RG) : List (ClassId × FieldType) := [(G.Z.cI, .int), (G.cO, tyO), (G.cR, .object RX7), (G.cL, .long)]
abbrev sAL : String := "java/util/ArrayList"
abbrev sOA : String := "[Ljava/lang/Object;"
abbrev sIC : String := "java/lang/Integer$IntegerCache"
/-- arrays of boolean[] can be made -/
def AOZ (U : State) : Prop := (Cond.arrayOver (.array .boolean)).before #[] U = true
theorem AOZ.of {args : Array Value} {U : State} (h : (Cond.arrayOver (.array .boolean)).before args U = true) : AOZ U := h
theorem va_any9 {args : Array Value} {U : State} (h : AOZ U) : (Cond.arrayOver (.array .boolean)).before args U = true := h
theorem AOZ.moved {u U : State} (hvm : u.vm.Alike U.vm) (h : AOZ u) : AOZ U := by
  obtain ⟨comp, c, k, h1, h2, h3, h4, h5⟩ := arrayOverA_spec h
  obtain ⟨k', hk', he⟩ := hvm.2.2 _ _ h3
  have hi := (va_idx_bare U.vm comp).symm.trans ((congrArg (fun v : Vm => v.classes.findIdx? fun (x : Class) => match x.kind with | .array component _ => component == comp | _ => false) (by first | exact hvm.bare_eq.symm | exact hvm.bare_eq)).trans ((va_idx_bare u.vm comp).trans h2))
  have hkind : k'.kind = .array comp (.array .boolean) := by rw [he]; exact h4
  have f1 : U.vm.findClass (FieldType.array .boolean).toString = some comp := by rw [hvm.findClass]; exact h1
  have f2 : U.vm.findClass ("[" ++ (FieldType.array .boolean).toString) = some c := by rw [hvm.findClass]; exact h5
  unfold AOZ Cond.before Cond.holds
  simp only [Cond.value]
  rw [f1, Option.bind_some]
  refine (congrArg (fun o : Option Nat => (o.bind (fun c => (U.vm.classes[c]?).map fun (k : Class) => match k.kind with | .array _ ty => decide (ty = FieldType.array .boolean) && decide (U.vm.findClass ("[" ++ (FieldType.array .boolean).toString) = some c) | _ => false) == some true)) hi).trans ?_
  simp [hk', hkind, f2]
abbrev sO : String := "java/lang/Object"
abbrev objC : List String := [sAL, RX6, RJ6, "[I"]
abbrev castL : List (String × String) := [(sAL, sO), (RX6, sO), (RJ6, sO), ("[I", sO), ("[I", "java/lang/Cloneable"), (sAL, "java/util/Collection")]
/-- ArrayList's toArray through Collection; the class of Object[] and getClass -/
def Fc (G : RG) (U : State) : Prop := va_Fw sAL ⟨"java/util/Collection", "toArray", "()[Ljava/lang/Object;"⟩ yJx4a65c_toArray_d5877 U ∧ va_Mi sOA G.mi U ∧ va_Dc U
theorem Fc.moved {G : RG} {u U : State} (hvm : u.vm.Alike U.vm) (h : Fc G u) : Fc G U := ⟨va_Fw.moved (by decide) hvm h.1, va_Mi.moved hvm h.2.1, va_Dc.moved hvm h.2.2⟩
def Kt (G : RG) (U : State) : Prop := va_K G.Z.D vwCl (tysR G) U ∧ (∀ q ∈ nMr, va_Nw (.methodLinkNest q.1 q.2.1 q.2.2.1 q.2.2.2) U) ∧ va_AO RX7 U ∧ va_AO "java/lang/Object" U ∧ NW U ∧ (∀ q ∈ castL, va_Nw (.castable q.1 q.2) U) ∧ AOZ U ∧ Fc G U
def Kh (G : RG) (A : Nat → Prop) (U : State) (H : Heap) : Prop :=
  va_Z sAL "DEFAULTCAPACITY_EMPTY_ELEMENTDATA" sOA (.ref G.e0) A U H ∧ va_Z sAL "EMPTY_ELEMENTDATA" sOA (.ref G.e1) A U H ∧ va_T tyO G.e0 0 (fun _ => .null) A U H ∧ va_T tyO G.e1 0 (fun _ => .null) A U H ∧ va_Z sIC "high" "I" (.int 127) A U H ∧ va_Z sIC "cache" "[Ljava/lang/Integer;" (.ref G.tb) A U H ∧ va_T (.object RJ6) G.tb 256 (fun k => .ref (G.bx k)) A U H ∧ vb_C G.bx A U H ∧ va_O sOA G.e0 A U H ∧ va_O sOA G.e1 A U H ∧ G.e0 ≠ G.e1
theorem Kt.moved {G : RG} {u U : State} (hvm : u.vm.Alike U.vm) (hN : (∀ q ∈ nMr, va_Nw (.methodLinkNest q.1 q.2.1 q.2.2.1 q.2.2.2) u) → ∀ q ∈ nMr, va_Nw (.methodLinkNest q.1 q.2.1 q.2.2.1 q.2.2.2) U) (hN2 : NW u → NW U) (hN3 : (∀ q ∈ castL, va_Nw (.castable q.1 q.2) u) → ∀ q ∈ castL, va_Nw (.castable q.1 q.2) U) (h : Kt G u) : Kt G U := ⟨va_K.moved hvm h.1, hN h.2.1, va_AO.moved hvm h.2.2.1, va_AO.moved hvm h.2.2.2.1, hN2 h.2.2.2.2.1, hN3 h.2.2.2.2.2.1, AOZ.moved hvm h.2.2.2.2.2.2.1, Fc.moved hvm h.2.2.2.2.2.2.2⟩
theorem Kt.warm {G : RG} {s U : State} (hW : s.WarmedH U.vm) (h : Kt G s) : Kt G U := h.moved hW.alike (fun h q hq => va_Nw.warmM hW (h q hq)) (fun h => NW.warm hW h) (fun h C hC => va_Nw.warmC hW (h C hC))
theorem Kt.same {G : RG} {u U : State} (hv : u.vm = U.vm) (h : Kt G u) : Kt G U := h.moved (by rw [hv]; exact Vm.Alike.refl U.vm) (fun h q hq => va_Nw.same rfl hv (h q hq)) (fun h => NW.same hv h) (fun h C hC => va_Nw.same rfl hv (h C hC))
theorem Kt.or {G : RG} {U : State} (h : Kt G U) : G.cO ≠ G.cR := fun e => by
  obtain ⟨kA, comp, k1, k2, k3, k4⟩ := (h.1.2 1 (G.cO, tyO) rfl).2
  obtain ⟨kB, comp', l1, l2, l3, l4⟩ := (h.1.2 2 (G.cR, .object RX7) rfl).2
  rw [e] at k1
  have e1 : kA = kB := Option.some.inj (k1.symm.trans l1)
  subst e1
  rw [k2] at l2
  injection l2 with _ l5
  injection l5 with l6
  exact absurd l6 (by decide)
theorem Kt.obj {G : RG} {U : State} (h : Kt G U) : ∀ C ∈ objC, va_Nw (.castable C sO) U := fun C hC => by
  simp only [objC, List.mem_cons, List.not_mem_nil, or_false] at hC
  rcases hC with rfl | rfl | rfl | rfl
  · exact h.2.2.2.2.2.1 (sAL, sO) (by simp)
  · exact h.2.2.2.2.2.1 (RX6, sO) (by simp)
  · exact h.2.2.2.2.2.1 (RJ6, sO) (by simp)
  · exact h.2.2.2.2.2.1 ("[I", sO) (by simp)
theorem Kt.aoz {G : RG} {U : State} (h : Kt G U) : AOZ U := h.2.2.2.2.2.2.1
theorem Kt.fc {G : RG} {U : State} (h : Kt G U) : Fc G U := h.2.2.2.2.2.2.2
theorem Kh.moved {G : RG} {A : Nat → Prop} {u U : State} {H : Heap} (hvm : u.vm.Alike U.vm) (h : Kh G A u H) : Kh G A U H := by
  obtain ⟨a1, a2, a3, a4, a5, a6, a7, a8, a9, b1, b2⟩ := h
  exact ⟨va_Z.moved hvm a1, va_Z.moved hvm a2, va_T.moved hvm a3, va_T.moved hvm a4, va_Z.moved hvm a5, va_Z.moved hvm a6, va_T.moved hvm a7, vb_C.moved hvm a8, va_O.moved hvm a9, va_O.moved hvm b1, b2⟩
theorem Kh.kept {G : RG} {A : Nat → Prop} {U : State} {H H1 : Heap} (h : Kh G A U H) (hq : ∀ a : Nat, a < H.size → ¬ A a → H1[a]? = H[a]?) : Kh G A U H1 := by
  obtain ⟨a1, a2, a3, a4, a5, a6, a7, a8, a9, b1, b2⟩ := h
  exact ⟨va_Z.kept a1 hq, va_Z.kept a2 hq, va_T.kept a3 hq, va_T.kept a4 hq, va_Z.kept a5 hq, va_Z.kept a6 hq, va_T.kept a7 hq, vb_C.kept a8 hq, va_O.kept a9 hq, va_O.kept b1 hq, b2⟩
/-- a place in a walk, with so many cells and slots made -/
def Cx.at (X : Cx) (k n : Nat) : Cx := (X.p, X.l, X.e, X.R, X.s, X.m, X.args, X.below, X.meth, X.c, X.A, k, n, X.Q)
theorem Fx.at {X : Cx} {Z : Zx} {cc : ByteArray} {nL : Nat} {Ts : List Cond} {own : String} {R : Room} (S : Fx X Z cc nL Ts own R) (k n : Nat) (hk : k ≤ R.cells) (hn : n ≤ R.slots) : Fx (X.at k n) Z cc nL Ts own R := ⟨S.1, S.2.1, S.2.2.1, hk, hn, S.2.2.2.2.2⟩
def Gx (X : Cx) (G : RG) (cc : ByteArray) (nL : Nat) (Ts : List Cond) (own : String) (R : Room) : Prop := Fx X G.Z cc nL Ts own R ∧ Kt G X.s ∧ Kh G X.A X.s X.s.heap ∧ ∀ q : Nat, X.s.heap.size ≤ q → X.A q
theorem Gx.at {X : Cx} {G : RG} {cc : ByteArray} {nL : Nat} {Ts : List Cond} {own : String} {R : Room} (S : Gx X G cc nL Ts own R) (k n : Nat) (hk : k ≤ R.cells) (hn : n ≤ R.slots) : Gx (X.at k n) G cc nL Ts own R := ⟨S.1.at k n hk hn, S.2.1, S.2.2.1, S.2.2.2⟩
/-! contracts -/
abbrev Pg (G : RG) (A : Nat → Prop) (M : Wl) (av : List Value) : Array Value → State → Prop := va_Pc av (fun U => PL G.Z A M U.heap ∧ va_K G.Z.D vwCl (tysOf G.Z) U ∧ Kt G U ∧ Kh G A U U.heap ∧ ∀ q : Nat, U.heap.size ≤ q → A q)
abbrev Gi (G : RG) (A : Nat → Prop) (post : Int32 → Wl → Prop) : Array Value → State → Outcome → State → Prop := va_Qi (fun (r : Int32) (N : Wl) => post r N) (fun N t => PL G.Z A N t.heap) A
abbrev Gl (G : RG) (A : Nat → Prop) (post : Int64 → Wl → Prop) : Array Value → State → Outcome → State → Prop := va_Ql (fun (r : Int64) (N : Wl) => post r N) (fun N t => PL G.Z A N t.heap) A
abbrev Gd (G : RG) (A : Nat → Prop) (post : UInt64 → Wl → Prop) : Array Value → State → Outcome → State → Prop := va_Qd (fun (r : UInt64) (N : Wl) => post r N) (fun N t => PL G.Z A N t.heap) A
abbrev Gv (G : RG) (A : Nat → Prop) (post : Wl → Prop) : Array Value → State → Outcome → State → Prop := va_Qv (fun (N : Wl) => post N) (fun N t => PL G.Z A N t.heap) A
abbrev Gr (G : RG) (A : Nat → Prop) (post : Nat → Wl → Prop) : Array Value → State → Outcome → State → Prop := va_Qr (fun (_ : Wl) => True) (fun N a t => post a N ∧ PL G.Z A N t.heap) A
abbrev Kr (l : Launch) (G : RG) (A : Nat → Prop) (y : MethodName) (ws : List Cond) (rm : Room) (M : Wl) (av : List Value) (Qc : Array Value → State → Outcome → State → Prop) (mc ms : Nat) : Prop := Met l y ws rm (Pg G A M av) Qc mc ms A
theorem Pg.blind {G : RG} {A : Nat → Prop} {M : Wl} {av : List Value} : FrameBlind (Pg G A M av) := fun a U g mk q => ⟨q.1, q.2.1, va_K.moved (u := U) (U := U.calling g mk a) (Vm.Alike.refl U.vm) q.2.2.1, Kt.same (u := U) (U := U.calling g mk a) rfl q.2.2.2.1, Kh.moved (u := U) (U := U.calling g mk a) (Vm.Alike.refl U.vm) q.2.2.2.2.1, q.2.2.2.2.2⟩
theorem Kr.of {l : Launch} {G : RG} {A : Nat → Prop} {y : MethodName} {ws ws' : List Cond} {rm : Room} {M : Wl} {av : List Value} {Qc : Array Value → State → Outcome → State → Prop} {cc : ByteArray} {maxL mc ms : Nat} {ret : Option FieldType}
    (hy : plainName y.cls = true) (hw : ws = Cond.code y cc maxL ret :: ws') (hL : (lg_sl av).length ≤ maxL)
    (body : ∀ X : Cx, X.l = l → Gx X G cc maxL ws y.cls rm → X.meth.sig.returnType = ret → (y.name = "<init>" → X.meth.name = "<init>") → X.A = A → X.Q = MQ X.below Qc X.args X.s mc ms A → va_D A M → J (X.at 0 0) maxL (PL G.Z A M) 0 (lvI maxL av) []) : Kr l G A y ws rm M av Qc mc ms := by
  refine Met.ofW (cc := cc) (maxL := maxL) (ret := ret) hy hw ?_
  intro p e s m args below meth c s₁ B hml hv
  obtain ⟨rfl, hw0, hK, hKt, hKh, hA⟩ := hv
  have hts := atoms_spec (ws := ws) B.pre
  have hown : s.vm.findClass y.cls = some m.cls := findClass_of_methodNamed B.named
  have hk := body (p, l, e, rm, s, m, av.toArray, below, meth, c, A, 0, 0, MQ below Qc av.toArray s mc ms A) rfl
    ⟨⟨⟨B.exec, B.bytes, hml, hown, hts⟩, hK, rfl, Nat.zero_le _, Nat.zero_le _, B.notSynchronized, hKt.2.2.2.2.1⟩, hKt, hKh, hA⟩ B.returns (fun h => (name_of_methodNamed B.named B.method).1.trans h) rfl rfl hw0.1
  rw [lg_entry_eq]
  exact hk s.heap [] _ hw0 va_S.rf (lvI_entry av hL)
section RJ
variable {X : Cx} {G : RG} {cc : ByteArray} {nL : Nat} {Ts : List Cond} {own : String} {R : Room} {M : Wl} {pc k n : Nat} {lv : List (Option Value)} {rest st : List Value}
theorem m_ireturn (S : Gx X G cc nL Ts own R) {A : Nat → Prop} {post : Int32 → Wl → Prop} {v : Int32} {ty : FieldType} {mc ms : Nat} (hr : X.meth.sig.returnType = some ty) (hA : X.A = A) (hQ : X.Q = MQ X.below (Gi G A post) X.args X.s mc ms A) (hk : k ≤ mc) (hn : n ≤ ms) (hd : decode cc pc = .ok (.ireturn, 1)) (hna : narrow ty (.int v) = .int v) (hq : post v M) : J (X.at k n) nL (PL G.Z A M) pc lv [.int v] := by
  intro H locs ls hw hS hl
  subst hA
  refine W.widen (k := mc) (n := ms) hk hn ?_
  show W X.p X.l X.e X.R X.s X.m X.args X.below X.meth X.c H locs mc ms X.Q (F0 X.m pc ls [.int v])
  rw [hQ]
  exact W.zret S.1.ex S.1.by hr hna (fun t ht _ => ⟨⟨v, M, rfl, hq, by show PL G.Z X.A M t.heap; rw [ht]; exact hw⟩, hS.F ht⟩) hS.2.2 hd S.1.lk
theorem m_lreturn (S : Gx X G cc nL Ts own R) {A : Nat → Prop} {post : Int64 → Wl → Prop} {v : Int64} {mc ms : Nat} (hr : X.meth.sig.returnType = some .long) (hA : X.A = A) (hQ : X.Q = MQ X.below (Gl G A post) X.args X.s mc ms A) (hk : k ≤ mc) (hn : n ≤ ms) (hd : decode cc pc = .ok (.lreturn, 1)) (hq : post v M) : J (X.at k n) nL (PL G.Z A M) pc lv [.long v] := by
  intro H locs ls hw hS hl
  subst hA
  refine W.widen (k := mc) (n := ms) hk hn ?_
  show W X.p X.l X.e X.R X.s X.m X.args X.below X.meth X.c H locs mc ms X.Q (F0 X.m pc ls [.long v])
  rw [hQ]
  exact W.lret S.1.ex S.1.by hr (fun t ht _ => ⟨⟨v, M, rfl, hq, by show PL G.Z X.A M t.heap; rw [ht]; exact hw⟩, hS.F ht⟩) hS.2.2 hd S.1.lk
theorem m_dreturn (S : Gx X G cc nL Ts own R) {A : Nat → Prop} {post : UInt64 → Wl → Prop} {v : UInt64} {mc ms : Nat} (hr : X.meth.sig.returnType = some .double) (hA : X.A = A) (hQ : X.Q = MQ X.below (Gd G A post) X.args X.s mc ms A) (hk : k ≤ mc) (hn : n ≤ ms) (hd : decode cc pc = .ok (.dreturn, 1)) (hq : post v M) : J (X.at k n) nL (PL G.Z A M) pc lv [.double v] := by
  intro H locs ls hw hS hl
  subst hA
  refine W.widen (k := mc) (n := ms) hk hn ?_
  show W X.p X.l X.e X.R X.s X.m X.args X.below X.meth X.c H locs mc ms X.Q (F0 X.m pc ls [.double v])
  rw [hQ]
  exact W.dret S.1.ex S.1.by hr (fun t ht _ => ⟨⟨v, M, rfl, hq, by show PL G.Z X.A M t.heap; rw [ht]; exact hw⟩, hS.F ht⟩) hS.2.2 hd S.1.lk
theorem m_return (S : Gx X G cc nL Ts own R) {A : Nat → Prop} {post : Wl → Prop} {mc ms : Nat} (hr : X.meth.sig.returnType = none) (hA : X.A = A) (hQ : X.Q = MQ X.below (Gv G A post) X.args X.s mc ms A) (hk : k ≤ mc) (hn : n ≤ ms) (hd : decode cc pc = .ok (.return_, 1)) (hq : post M) : J (X.at k n) nL (PL G.Z A M) pc lv [] := by
  intro H locs ls hw hS hl
  subst hA
  refine W.widen (k := mc) (n := ms) hk hn ?_
  show W X.p X.l X.e X.R X.s X.m X.args X.below X.meth X.c H locs mc ms X.Q (F0 X.m pc ls [])
  rw [hQ]
  exact W.vret S.1.ex S.1.by hr (fun t ht _ => ⟨⟨M, rfl, hq, by show PL G.Z X.A M t.heap; rw [ht]; exact hw⟩, hS.F ht⟩) hS.2.2 hd S.1.lk
theorem m_areturn (S : Gx X G cc nL Ts own R) {A : Nat → Prop} {post : Nat → Wl → Prop} {v : Nat} {ty : FieldType} {mc ms : Nat} (hr : X.meth.sig.returnType = some ty) (hty : (∃ cn, ty = .object cn) ∨ ∃ t, ty = .array t) (hA : X.A = A) (hQ : X.Q = MQ X.below (Gr G A post) X.args X.s mc ms A) (hk : k ≤ mc) (hn : n ≤ ms) (hd : decode cc pc = .ok (.areturn, 1)) (hq : post v M) : J (X.at k n) nL (PL G.Z A M) pc lv [.ref v] := by
  intro H locs ls hw hS hl
  subst hA
  refine W.widen (k := mc) (n := ms) hk hn ?_
  show W X.p X.l X.e X.R X.s X.m X.args X.below X.meth X.c H locs mc ms X.Q (F0 X.m pc ls [.ref v])
  rw [hQ]
  exact W.aret S.1.ex S.1.by hr hty (Or.inr ⟨v, rfl⟩) (fun t ht _ => ⟨⟨M, v, rfl, trivial, hq, by show PL G.Z X.A M t.heap; rw [ht]; exact hw⟩, hS.F ht⟩) hS.2.2 hd S.1.lk
end RJ
