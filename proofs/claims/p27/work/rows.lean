section
-- ===== PART A: goes FIRST, ahead of the names: the tables' words, and 'selects' of the private methods out of them =====
/-- a private method of a class that the tables say can be made, by its rows of tables_1 -/
def lw_okq (q : MethodName × Nat) : Prop := (q.1.cls ≠ "java/lang/invoke/MethodHandle" ∧ q.1.cls ≠ "java/lang/invoke/VarHandle") ∧ Cond.instantiable q.1.cls q.2 ∈ tables_1 ∧ Cond.privateMethod q.1 ∈ tables_1 ∧ Cond.instanceMethod q.1 ∈ tables_1
theorem lw_p0 : lw_okq (⟨"TreadleLoom", "programForToken", "(II)LTreadleLoom$Program;"⟩, 7) := ⟨⟨by decide +kernel, by decide +kernel⟩, List.mem_of_getElem? (i := 17) (by decide +kernel), List.mem_of_getElem? (i := 142) (by decide +kernel), List.mem_of_getElem? (i := 143) (by decide +kernel)⟩
theorem lw_p1 : lw_okq (⟨"TreadleLoom", "programAt", "(I)LTreadleLoom$Program;"⟩, 7) := ⟨⟨by decide +kernel, by decide +kernel⟩, List.mem_of_getElem? (i := 17) (by decide +kernel), List.mem_of_getElem? (i := 146) (by decide +kernel), List.mem_of_getElem? (i := 147) (by decide +kernel)⟩
theorem lw_p2 : lw_okq (⟨"java/lang/Throwable", "fillInStackTrace", "(I)Ljava/lang/Throwable;"⟩, 6) := ⟨⟨by decide +kernel, by decide +kernel⟩, List.mem_of_getElem? (i := 188) (by decide +kernel), List.mem_of_getElem? (i := 186) (by decide +kernel), List.mem_of_getElem? (i := 187) (by decide +kernel)⟩
theorem lw_p3 : lw_okq (⟨"TreadleLoom", "renewFrom", "(I)V"⟩, 7) := ⟨⟨by decide +kernel, by decide +kernel⟩, List.mem_of_getElem? (i := 17) (by decide +kernel), List.mem_of_getElem? (i := 253) (by decide +kernel), List.mem_of_getElem? (i := 254) (by decide +kernel)⟩
theorem lw_p4 : lw_okq (⟨"TreadleLoom$Compiler", "read", "([LTreadleLoom$Program;II)I"⟩, 4) := ⟨⟨by decide +kernel, by decide +kernel⟩, List.mem_of_getElem? (i := 72) (by decide +kernel), List.mem_of_getElem? (i := 269) (by decide +kernel), List.mem_of_getElem? (i := 270) (by decide +kernel)⟩
theorem lw_p5 : lw_okq (⟨"TreadleLoom$Compiler", "addNumber", "(I)I"⟩, 4) := ⟨⟨by decide +kernel, by decide +kernel⟩, List.mem_of_getElem? (i := 72) (by decide +kernel), List.mem_of_getElem? (i := 273) (by decide +kernel), List.mem_of_getElem? (i := 274) (by decide +kernel)⟩
theorem lw_p6 : lw_okq (⟨"TreadleLoom$Compiler", "hasRoom", "(I)Z"⟩, 4) := ⟨⟨by decide +kernel, by decide +kernel⟩, List.mem_of_getElem? (i := 72) (by decide +kernel), List.mem_of_getElem? (i := 277) (by decide +kernel), List.mem_of_getElem? (i := 278) (by decide +kernel)⟩
theorem lw_p7 : lw_okq (⟨"TreadleLoom$Compiler", "beginItem", "()V"⟩, 4) := ⟨⟨by decide +kernel, by decide +kernel⟩, List.mem_of_getElem? (i := 72) (by decide +kernel), List.mem_of_getElem? (i := 281) (by decide +kernel), List.mem_of_getElem? (i := 282) (by decide +kernel)⟩
theorem lw_p8 : lw_okq (⟨"TreadleLoom$Compiler", "openGroup", "()V"⟩, 4) := ⟨⟨by decide +kernel, by decide +kernel⟩, List.mem_of_getElem? (i := 72) (by decide +kernel), List.mem_of_getElem? (i := 286) (by decide +kernel), List.mem_of_getElem? (i := 287) (by decide +kernel)⟩
theorem lw_p9 : lw_okq (⟨"TreadleLoom$Compiler", "closeGroup", "()I"⟩, 4) := ⟨⟨by decide +kernel, by decide +kernel⟩, List.mem_of_getElem? (i := 72) (by decide +kernel), List.mem_of_getElem? (i := 290) (by decide +kernel), List.mem_of_getElem? (i := 291) (by decide +kernel)⟩
theorem lw_p10 : lw_okq (⟨"TreadleLoom$Compiler", "addBlock", "([LTreadleLoom$Program;II)I"⟩, 4) := ⟨⟨by decide +kernel, by decide +kernel⟩, List.mem_of_getElem? (i := 72) (by decide +kernel), List.mem_of_getElem? (i := 306) (by decide +kernel), List.mem_of_getElem? (i := 307) (by decide +kernel)⟩
theorem lw_p11 : lw_okq (⟨"TreadleLoom$Compiler", "changeItem", "(I)I"⟩, 4) := ⟨⟨by decide +kernel, by decide +kernel⟩, List.mem_of_getElem? (i := 72) (by decide +kernel), List.mem_of_getElem? (i := 315) (by decide +kernel), List.mem_of_getElem? (i := 316) (by decide +kernel)⟩
theorem lw_p12 : lw_okq (⟨"TreadleLoom$Compiler", "addMirror", "()I"⟩, 4) := ⟨⟨by decide +kernel, by decide +kernel⟩, List.mem_of_getElem? (i := 72) (by decide +kernel), List.mem_of_getElem? (i := 327) (by decide +kernel), List.mem_of_getElem? (i := 328) (by decide +kernel)⟩
theorem lw_p13 : lw_okq (⟨"TreadleLoom$Compiler", "raiseItem", "(I)V"⟩, 4) := ⟨⟨by decide +kernel, by decide +kernel⟩, List.mem_of_getElem? (i := 72) (by decide +kernel), List.mem_of_getElem? (i := 332) (by decide +kernel), List.mem_of_getElem? (i := 333) (by decide +kernel)⟩
theorem lw_p14 : lw_okq (⟨"TreadleLoom$Compiler", "repeatItem", "(I)I"⟩, 4) := ⟨⟨by decide +kernel, by decide +kernel⟩, List.mem_of_getElem? (i := 72) (by decide +kernel), List.mem_of_getElem? (i := 337) (by decide +kernel), List.mem_of_getElem? (i := 338) (by decide +kernel)⟩
theorem lw_p15 : lw_okq (⟨"TreadleLoom", "weave", "()V"⟩, 7) := ⟨⟨by decide +kernel, by decide +kernel⟩, List.mem_of_getElem? (i := 17) (by decide +kernel), List.mem_of_getElem? (i := 356) (by decide +kernel), List.mem_of_getElem? (i := 357) (by decide +kernel)⟩
def lw_privs_1 : List (MethodName × Nat) := [(⟨"TreadleLoom", "programForToken", "(II)LTreadleLoom$Program;"⟩, 7), (⟨"TreadleLoom", "programAt", "(I)LTreadleLoom$Program;"⟩, 7), (⟨"java/lang/Throwable", "fillInStackTrace", "(I)Ljava/lang/Throwable;"⟩, 6), (⟨"TreadleLoom", "renewFrom", "(I)V"⟩, 7), (⟨"TreadleLoom$Compiler", "read", "([LTreadleLoom$Program;II)I"⟩, 4), (⟨"TreadleLoom$Compiler", "addNumber", "(I)I"⟩, 4), (⟨"TreadleLoom$Compiler", "hasRoom", "(I)Z"⟩, 4), (⟨"TreadleLoom$Compiler", "beginItem", "()V"⟩, 4), (⟨"TreadleLoom$Compiler", "openGroup", "()V"⟩, 4), (⟨"TreadleLoom$Compiler", "closeGroup", "()I"⟩, 4), (⟨"TreadleLoom$Compiler", "addBlock", "([LTreadleLoom$Program;II)I"⟩, 4), (⟨"TreadleLoom$Compiler", "changeItem", "(I)I"⟩, 4), (⟨"TreadleLoom$Compiler", "addMirror", "()I"⟩, 4), (⟨"TreadleLoom$Compiler", "raiseItem", "(I)V"⟩, 4), (⟨"TreadleLoom$Compiler", "repeatItem", "(I)I"⟩, 4), (⟨"TreadleLoom", "weave", "()V"⟩, 7)]
theorem lw_r1 : ∀ q ∈ lw_privs_1, lw_okq q := List.forall_mem_cons.mpr ⟨lw_p0, List.forall_mem_cons.mpr ⟨lw_p1, List.forall_mem_cons.mpr ⟨lw_p2, List.forall_mem_cons.mpr ⟨lw_p3, List.forall_mem_cons.mpr ⟨lw_p4, List.forall_mem_cons.mpr ⟨lw_p5, List.forall_mem_cons.mpr ⟨lw_p6, List.forall_mem_cons.mpr ⟨lw_p7, List.forall_mem_cons.mpr ⟨lw_p8, List.forall_mem_cons.mpr ⟨lw_p9, List.forall_mem_cons.mpr ⟨lw_p10, List.forall_mem_cons.mpr ⟨lw_p11, List.forall_mem_cons.mpr ⟨lw_p12, List.forall_mem_cons.mpr ⟨lw_p13, List.forall_mem_cons.mpr ⟨lw_p14, List.forall_mem_cons.mpr ⟨lw_p15, fun _ h => absurd h List.not_mem_nil⟩⟩⟩⟩⟩⟩⟩⟩⟩⟩⟩⟩⟩⟩⟩⟩
theorem lw_p16 : lw_okq (⟨"TreadleLoom$Row", "hasPeriod", "(I)Z"⟩, 2) := ⟨⟨by decide +kernel, by decide +kernel⟩, List.mem_of_getElem? (i := 32) (by decide +kernel), List.mem_of_getElem? (i := 396) (by decide +kernel), List.mem_of_getElem? (i := 397) (by decide +kernel)⟩
theorem lw_p17 : lw_okq (⟨"TreadleLoom", "swapInTrialTies", "(II)V"⟩, 7) := ⟨⟨by decide +kernel, by decide +kernel⟩, List.mem_of_getElem? (i := 17) (by decide +kernel), List.mem_of_getElem? (i := 422) (by decide +kernel), List.mem_of_getElem? (i := 423) (by decide +kernel)⟩
theorem lw_p18 : lw_okq (⟨"TreadleLoom", "takeTrialTies", "()I"⟩, 7) := ⟨⟨by decide +kernel, by decide +kernel⟩, List.mem_of_getElem? (i := 17) (by decide +kernel), List.mem_of_getElem? (i := 427) (by decide +kernel), List.mem_of_getElem? (i := 428) (by decide +kernel)⟩
theorem lw_p19 : lw_okq (⟨"TreadleLoom$Row", "firstPlaceOf", "(I)I"⟩, 2) := ⟨⟨by decide +kernel, by decide +kernel⟩, List.mem_of_getElem? (i := 32) (by decide +kernel), List.mem_of_getElem? (i := 469) (by decide +kernel), List.mem_of_getElem? (i := 470) (by decide +kernel)⟩
theorem lw_p20 : lw_okq (⟨"TreadleLoom", "checkEnd", "(I)V"⟩, 7) := ⟨⟨by decide +kernel, by decide +kernel⟩, List.mem_of_getElem? (i := 17) (by decide +kernel), List.mem_of_getElem? (i := 478) (by decide +kernel), List.mem_of_getElem? (i := 479) (by decide +kernel)⟩
theorem lw_p21 : lw_okq (⟨"TreadleLoom", "checkPick", "(I)V"⟩, 7) := ⟨⟨by decide +kernel, by decide +kernel⟩, List.mem_of_getElem? (i := 17) (by decide +kernel), List.mem_of_getElem? (i := 483) (by decide +kernel), List.mem_of_getElem? (i := 484) (by decide +kernel)⟩
theorem lw_p22 : lw_okq (⟨"TreadleLoom", "colourAt", "(II)I"⟩, 7) := ⟨⟨by decide +kernel, by decide +kernel⟩, List.mem_of_getElem? (i := 17) (by decide +kernel), List.mem_of_getElem? (i := 492) (by decide +kernel), List.mem_of_getElem? (i := 493) (by decide +kernel)⟩
theorem lw_p23 : lw_okq (⟨"TreadleLoom$Cloth", "isAllReached", "(Z)Z"⟩, 2) := ⟨⟨by decide +kernel, by decide +kernel⟩, List.mem_of_getElem? (i := 99) (by decide +kernel), List.mem_of_getElem? (i := 557) (by decide +kernel), List.mem_of_getElem? (i := 558) (by decide +kernel)⟩
theorem lw_p24 : lw_okq (⟨"TreadleLoom", "weaveTrialWith", "(II)V"⟩, 7) := ⟨⟨by decide +kernel, by decide +kernel⟩, List.mem_of_getElem? (i := 17) (by decide +kernel), List.mem_of_getElem? (i := 590) (by decide +kernel), List.mem_of_getElem? (i := 591) (by decide +kernel)⟩
theorem lw_p25 : lw_okq (⟨"TreadleLoom", "weaveTrial", "()V"⟩, 7) := ⟨⟨by decide +kernel, by decide +kernel⟩, List.mem_of_getElem? (i := 17) (by decide +kernel), List.mem_of_getElem? (i := 594) (by decide +kernel), List.mem_of_getElem? (i := 595) (by decide +kernel)⟩
theorem lw_p26 : lw_okq (⟨"TreadleLoom", "digestOfProgram", "(JI)J"⟩, 7) := ⟨⟨by decide +kernel, by decide +kernel⟩, List.mem_of_getElem? (i := 17) (by decide +kernel), List.mem_of_getElem? (i := 615) (by decide +kernel), List.mem_of_getElem? (i := 616) (by decide +kernel)⟩
def lw_privs_2 : List (MethodName × Nat) := [(⟨"TreadleLoom$Row", "hasPeriod", "(I)Z"⟩, 2), (⟨"TreadleLoom", "swapInTrialTies", "(II)V"⟩, 7), (⟨"TreadleLoom", "takeTrialTies", "()I"⟩, 7), (⟨"TreadleLoom$Row", "firstPlaceOf", "(I)I"⟩, 2), (⟨"TreadleLoom", "checkEnd", "(I)V"⟩, 7), (⟨"TreadleLoom", "checkPick", "(I)V"⟩, 7), (⟨"TreadleLoom", "colourAt", "(II)I"⟩, 7), (⟨"TreadleLoom$Cloth", "isAllReached", "(Z)Z"⟩, 2), (⟨"TreadleLoom", "weaveTrialWith", "(II)V"⟩, 7), (⟨"TreadleLoom", "weaveTrial", "()V"⟩, 7), (⟨"TreadleLoom", "digestOfProgram", "(JI)J"⟩, 7)]
theorem lw_r2 : ∀ q ∈ lw_privs_2, lw_okq q := List.forall_mem_cons.mpr ⟨lw_p16, List.forall_mem_cons.mpr ⟨lw_p17, List.forall_mem_cons.mpr ⟨lw_p18, List.forall_mem_cons.mpr ⟨lw_p19, List.forall_mem_cons.mpr ⟨lw_p20, List.forall_mem_cons.mpr ⟨lw_p21, List.forall_mem_cons.mpr ⟨lw_p22, List.forall_mem_cons.mpr ⟨lw_p23, List.forall_mem_cons.mpr ⟨lw_p24, List.forall_mem_cons.mpr ⟨lw_p25, List.forall_mem_cons.mpr ⟨lw_p26, fun _ h => absurd h List.not_mem_nil⟩⟩⟩⟩⟩⟩⟩⟩⟩⟩⟩
def lw_privs : List (MethodName × Nat) := lw_privs_1 ++ (lw_privs_2)
def lw_tbl : List Cond := k2_sels lw_privs ++ tables_1
theorem lw_privs_ok : ∀ q ∈ lw_privs, lw_okq q := by
  show ∀ q ∈ lw_privs_1 ++ (lw_privs_2), lw_okq q
  exact List.forall_mem_append.mpr ⟨lw_r1, lw_r2⟩
/-- the streams that the claim lets the run draw from -/
abbrev lw_cs : List Choice := [Jvm.Choice.named "NaN.bits", Jvm.Choice.named "NaN.copy"]
theorem lw_bits : nanBits ∈ lw_cs := by first | decide | exact List.mem_cons_self | simp [lw_cs, nanBits]
end
section
/-! ===== BEGIN words of one list among another's, by their places ===== -/
theorem goodIn_r {big : List Cond} (ws : List Cond) (ps : List Nat) (hp : ws = ps.filterMap (fun i => big[i]?)) (h : ws.all goodWord = true) : GoodIn big ws := by
  intro w hw
  have h1 := List.all_eq_true.mp h w hw
  rw [hp] at hw
  obtain ⟨i, -, hi⟩ := List.mem_filterMap.mp hw
  have hm : w ∈ big := by first | exact List.mem_of_getElem? hi | exact List.getElem?_mem hi
  exact ⟨hm, good_of_word h1⟩
theorem goodIn_app {big a b : List Cond} (ha : GoodIn big a) (hb : GoodIn big b) : GoodIn big (a ++ b) := fun w h => (List.mem_append.mp h).elim (ha w) (hb w)
theorem goodIn_ca {big a b : List Cond} {c : Cond} (ha : GoodIn big (c :: a)) (hb : GoodIn big b) : GoodIn big (c :: (a ++ b)) := fun w h => (List.mem_cons.mp h).elim (fun e => ha w (List.mem_cons.mpr (Or.inl e))) (fun h => (List.mem_append.mp h).elim (fun h => ha w (List.mem_cons.mpr (Or.inr h))) (hb w))
theorem goodIn_sub {big ws : List Cond} (hm : ∀ w ∈ ws, w ∈ big) (h : ws.all goodWord = true) : GoodIn big ws := fun w hw => ⟨hm w hw, good_of_word (List.all_eq_true.mp h w hw)⟩
/-! ===== END ===== -/

/-! ===== BEGIN exceptions that leave a method, and their catching by the caller (launches without stack traces) ===== -/
section VXA
/-! The laws vx_back, vx_callV, vx_callS, vx_callSW, vx_throw0, vx_throwS follow proofs of the library, with one case more: JvmDerived/Free/Laws.lean (Back.of_free), Shelf42/LK1.lean (callV, callS), Shelf/KitTraced.lean (throwNew0V, throwNewS). -/
/-- where a method has thrown q: the class by its name, the cell, what was written, the world -/
def vx_T (XC : String → State → State → Prop) (st : State) (q : Addr) (t : State) (mc ms : Nat) (free : Addr → Prop) : Prop :=
  ∃ (E : String) (ce : Cell) (L : List Loc), XC E st t ∧ t.heap[q]? = some ce ∧ ce.vm = .none ∧ st.vm.findClass E = some ce.cls ∧ st.WarmedH t.vm ∧ st.sameButNew ({ t with vm := st.vm } : State) L mc ms ∧ ∀ z ∈ L, free z.base
def vx_Q (Qc : Array Value → State → Outcome → State → Prop) (XC : String → State → State → Prop) (mc ms : Nat) (free : Addr → Prop) : Array Value → State → Outcome → State → Prop := fun a st o t =>
  (Qc a st o t ∧ ∃ L, FrameEnd st o t L mc ms ∧ ∀ q ∈ L, free q.base) ∨ ∃ q, o = .threw q ∧ vx_T XC st q t mc ms free
/-- a callee that returns or throws -/
def vx_Met (l : Launch) (y : MethodName) (ws : List Cond) (rm : Room) (Pc : Array Value → State → Prop) (Qc : Array Value → State → Outcome → State → Prop) (XC : String → State → State → Prop) (mc ms : Nat) (free : Addr → Prop) : Prop :=
  MetFree l y (headSpec ws rm) Pc (fun _ _ _ _ _ => True) (vx_Q Qc XC mc ms free)
def vx_Post (XC : String → State → State → Prop) (mc ms : Nat) (free : Addr → Prop) : Pt → Array Value → Addr → Pt → Prop := fun A a q B =>
  ∃ (g : JFrame) (mk : MethodId) (t : State) (L : List Loc) (E : String) (ce : Cell), B.U.heap = t.heap ∧ B.U.vm = t.vm ∧ XC E (A.U.calling g mk a) t ∧ t.heap[q]? = some ce ∧ ce.vm = .none ∧ A.U.vm.findClass E = some ce.cls ∧ B.locs = A.locs ++ L ∧ (∀ z ∈ L, free z.base) ∧ B.cells = A.cells + mc ∧ B.slots = A.slots + ms
def vx_Back (l : Launch) (R : Room) (p : Program) (e : Env) (below : List Frame) (s : State) (sargs : Array Value) (y : MethodName) (len W9 : Nat)
    (Pre : Pt → Array Value → Prop) (Post : Pt → Array Value → Option Value → Pt → Prop) (PostX : Pt → Array Value → Addr → Pt → Prop) : Prop :=
  ∀ (m : MethodId) (meth : Method) (c : Code) (A : Pt) (g : JFrame) (ig : Instr) (mk : MethodId) (a : Array Value),
    Stand p l e R s m sargs below meth c A.U A.locs A.cells A.slots → g.method = m → g.locals.size = c.maxLocals → decode c.code g.pc = .ok (ig, len) →
    2 * g.monitorRoom + (g.stack.map fun v => v.category).sum ≤ W9 → A.U.methodNamed? y = some mk → Pre A a →
    (∃ (v : Option Value) (B : Pt), Stand p l e R s m sargs below meth c B.U B.locs B.cells B.slots ∧ Post A a v B ∧
      Steps p.tables e below (doInvoke e (A.U.setTop g) [] mk a).1 (B.U.setTop { g with pc := g.pc + len, stack := v.toList ++ g.stack })) ∨
    (∃ (q : Addr) (B : Pt), Stand p l e R s m sargs below meth c B.U B.locs B.cells B.slots ∧ PostX A a q B ∧
      Steps p.tables e below (doInvoke e (A.U.setTop g) [] mk a).1 ((B.U.setTop g).pushFrame (.throwing q)))
section Payer
variable {l : Launch} {R : Room} {p : Program} {e : Env} {below : List Frame} {s : State} {sargs : Array Value} {y : MethodName} {len W9 : Nat}
theorem vx_back {ws : List Cond} {rm : Room} {Pc : Array Value → State → Prop} {Qc : Array Value → State → Outcome → State → Prop} {XC : String → State → State → Prop} {mc ms : Nat} {free : Addr → Prop} {bytes : ByteArray} {maxL : Nat} {ret : Option FieldType}
    (hM : vx_Met l y ws rm Pc Qc XC mc ms free) (hblind : FrameBlind Pc) (hrc : rm.cells = mc) (hrs : rm.slots = ms)
    (hframes : rm.frames + 1 ≤ R.frames) (hlocals : W9 + (maxL + 11) + rm.locals ≤ R.locals)
    (hws : ∀ w ∈ ws, ∀ a' U, s.WarmedH U.vm → w.before a' U = true) (hcode : Cond.code y bytes maxL ret ∈ ws) (hinit : ∀ a' U, s.WarmedH U.vm → (Cond.initialized y.cls).before a' U = true) :
    vx_Back l R p e below s sargs y len W9 (PreOf R mc ms Pc) (PostOf Qc mc ms free) (vx_Post XC mc ms free) := by
  intro m meth c A g ig mk a X hg hsize hdg hW hn hp
  have h1 : (headSpec ws rm).pre.before a A.U = true := atoms_intro fun w hw => hws w hw _ _ X.warmed
  have h2 : (Cond.code y bytes maxL ret).before a A.U = true := hws _ hcode _ _ X.warmed
  have h3 : (Cond.initialized y.cls).before a A.U = true := hinit _ _ X.warmed
  have h4 : A.cells + (headSpec ws rm).room.cells ≤ R.cells := by rw [show (headSpec ws rm).room.cells = mc from hrc]; exact hp.1
  have h5 : A.slots + (headSpec ws rm).room.slots ≤ R.slots := by rw [show (headSpec ws rm).room.slots = ms from hrs]; exact hp.2.1
  have hPc : Pc a (A.U.calling g mk a) := hblind _ _ _ _ hp.2.2
  obtain ⟨U, Ls, c0, s0⟩ := A
  dsimp only [Pt.U, Pt.locs, Pt.cells, Pt.slots] at h1 h2 h3 h4 h5 X hn hPc ⊢
  obtain ⟨methY, cY, hmY, hcY, -, hlY, -, -, -, -⟩ := Cond.code_spec hn h2
  obtain ⟨kY, hkY, -⟩ := className_of_methodNamed hn
  have hinitY : kY.init = .initialized := Cond.initialized_spec (findClass_of_methodNamed hn) hkY h3
  have h : At U g.method c below := by rw [hg]; exact X.here
  have hlocals9 : W9 + (maxL + 11) + (headSpec ws rm).room.locals ≤ R.locals := hlocals
  have happ : (headSpec ws rm).appliesLoose y e.platform (U.calling g mk a) = true :=
    Spec.appliesLoose_calling (g := g) h hdg hn hkY hinitY
      (X.room_calling (g := g) (R' := (headSpec ws rm).room) hsize hmY hcY hframes (by rw [hlY]; omega) h4 h5) h1
  obtain ⟨mid, hmid⟩ := h.above
  have hfr : (U.setTop g).frames = (.java g :: mid) ++ below := by rw [State.frames_setTop' g h.top, hmid]; rfl
  obtain ⟨o, s₂, hsteps, -, hend, hq⟩ := Steps.callFree hM p X.admits X.cas X.clock (acts := []) hfr happ hPc trivial
  have hq' : vx_Q Qc XC mc ms free a (U.calling g mk a) o s₂ := hq
  rw [State.frames_setTop' g h.top] at hend
  obtain ⟨g₀, hg0⟩ := Option.isSome_iff_exists.mp h.top
  obtain ⟨r, hr⟩ := State.topJava?_eq_some.mp hg0
  have hr' : (({ U with heap := s₂.heap, slotsUsed := s₂.slotsUsed } : State).setVm s₂.vm).frames = .java g₀ :: r := hr
  rcases hq' with ⟨hqc, L, hfe, hL⟩ | ⟨q, rfl, E, ce, L, hx, hce, hcv, hcl, hW₂, hsm, hL⟩
  · obtain ⟨⟨v, rfl⟩, hW₂, e2, q2, q3, q4, q5, q6⟩ := id hfe
    have e3 : s₂ = ({ (U.calling g mk a).setFrames s₂.frames with heap := s₂.heap, slotsUsed := s₂.slotsUsed } : State).setVm s₂.vm := by
      have : s₂ = ({ s₂ with vm := (U.calling g mk a).vm } : State).setVm s₂.vm := rfl
      rw [e2] at this
      exact this
    obtain ⟨c₂, i₂, len₂, hc₂, hd₂, hf₂⟩ := hend
    have hW' : U.WarmedH s₂.vm := hW₂
    have hcc : c₂ = c := by
      have h1 : s₂.code? g.method = U.code? g.method := by
        rw [State.code?_eq, State.code?_eq, hW'.alike.method?]
      exact Option.some.inj (hc₂.symm.trans (h1.trans h.code))
    subst hcc
    have hlen : len₂ = len := by rw [hdg] at hd₂; cases hd₂; rfl
    subst hlen
    have hs₂ : s₂ = (({ U with heap := s₂.heap, slotsUsed := s₂.slotsUsed } : State).setVm s₂.vm).setTop { g with pc := g.pc + len₂, stack := v.toList ++ g.stack } := by
      refine e3.trans ?_
      rw [hf₂, State.calling_eq h.top, State.setFrames_setFrames, State.setTop_of_frames _ hr', hr]
      rfl
    have hsame : U.sameButNew ({ U with heap := s₂.heap, slotsUsed := s₂.slotsUsed } : State) L mc ms := by
      refine ⟨?_, q2, q3, q4, q5, q6⟩
      obtain ⟨t, ht, -⟩ := State.frames_cons hr
      show ({ U with heap := s₂.heap, slotsUsed := s₂.slotsUsed } : State) = { U.setFrames U.frames with heap := s₂.heap, slotsUsed := s₂.slotsUsed }
      rw [State.setFrames_self ht]
    subst hg
    refine Or.inl ⟨v, ⟨(({ U with heap := s₂.heap, slotsUsed := s₂.slotsUsed } : State).setVm s₂.vm), Ls ++ L, c0 + mc, s0 + ms⟩,
      ⟨X.admits, X.cas, X.clock, X.frames, X.room, X.hears, X.method, X.code, (X.here.setHeapUsed s₂.heap s₂.slotsUsed).setVm hW'.alike, X.tail, State.WarmedH.trans X.warmed hW', X.limits, X.bytes, X.same.trans (hsame.setVm s.vm)⟩,
      ⟨g, mk, s₂, L, rfl, rfl, hqc, rfl, hL, rfl, rfl⟩, ?_⟩
    show Steps p.tables e below _ ((({ U with heap := s₂.heap, slotsUsed := s₂.slotsUsed } : State).setVm s₂.vm).setTop { g with pc := g.pc + len₂, stack := v.toList ++ g.stack })
    rw [← hs₂]
    exact hsteps
  · obtain ⟨e2, q2, q3, q4, q5, q6⟩ := id hsm
    have e3 : s₂ = ({ (U.calling g mk a).setFrames s₂.frames with heap := s₂.heap, slotsUsed := s₂.slotsUsed } : State).setVm s₂.vm := by
      have : s₂ = ({ s₂ with vm := (U.calling g mk a).vm } : State).setVm s₂.vm := rfl
      rw [e2] at this
      exact this
    have hf₂ : s₂.frames = .throwing q :: .java g :: U.frames.tail := hend
    have hW' : U.WarmedH s₂.vm := hW₂
    have hs₂ : s₂ = ((({ U with heap := s₂.heap, slotsUsed := s₂.slotsUsed } : State).setVm s₂.vm).setTop g).pushFrame (.throwing q) := by
      refine e3.trans ?_
      rw [hf₂, State.calling_eq h.top, State.setFrames_setFrames, State.pushFrame, State.frames_setTop _ hr', State.setTop_of_frames _ hr', State.setFrames_setFrames, hr]
      rfl
    have hsame : U.sameButNew ({ U with heap := s₂.heap, slotsUsed := s₂.slotsUsed } : State) L mc ms := by
      refine ⟨?_, q2, q3, q4, q5, q6⟩
      obtain ⟨t, ht, -⟩ := State.frames_cons hr
      show ({ U with heap := s₂.heap, slotsUsed := s₂.slotsUsed } : State) = { U.setFrames U.frames with heap := s₂.heap, slotsUsed := s₂.slotsUsed }
      rw [State.setFrames_self ht]
    subst hg
    refine Or.inr ⟨q, ⟨(({ U with heap := s₂.heap, slotsUsed := s₂.slotsUsed } : State).setVm s₂.vm), Ls ++ L, c0 + mc, s0 + ms⟩,
      ⟨X.admits, X.cas, X.clock, X.frames, X.room, X.hears, X.method, X.code, (X.here.setHeapUsed s₂.heap s₂.slotsUsed).setVm hW'.alike, X.tail, State.WarmedH.trans X.warmed hW', X.limits, X.bytes, X.same.trans (hsame.setVm s.vm)⟩,
      ⟨g, mk, s₂, L, E, ce, rfl, rfl, hx, hce, hcv, hcl, rfl, hL, rfl, rfl⟩, ?_⟩
    show Steps p.tables e below _ (((({ U with heap := s₂.heap, slotsUsed := s₂.slotsUsed } : State).setVm s₂.vm).setTop g).pushFrame (.throwing q))
    rw [← hs₂]
    exact hsteps
end Payer
section Calls
variable {p : Program} {l : Launch} {e : Env} {R : Room} {s : State} {m : MethodId} {args : Array Value} {below : List Frame} {meth : Method} {c : Code} {T : State} {locs : List Loc} {cells slots : Nat}
theorem vx_callV (X : Stand p l e R s m args below meth c T locs cells slots) (hexec : p.tables.exec = Jvm.exec) {own C : String} {index : Nat} {y : MethodName} {bytes : ByteArray} {maxL : Nat} {ret : Option FieldType}
    (hown : s.vm.findClass own = some m.cls) (hlink : (Cond.methodLink own index y).before args s = true) (hinst : (Cond.instanceMethod y).before args s = true) (hsel : (Cond.selects C y y).before args s = true)
    (hcode : (Cond.code y bytes maxL ret).before args s = true) (hy : y.cls ≠ "java/lang/invoke/MethodHandle" ∧ y.cls ≠ "java/lang/invoke/VarHandle")
    {W9 : Nat} {Pre : Pt → Array Value → Prop} {Post : Pt → Array Value → Option Value → Pt → Prop} {PostX : Pt → Array Value → Addr → Pt → Prop} (hK : vx_Back l R p e below s args y 3 W9 Pre Post PostX)
    {b : Addr} {cellB : Cell} (hcell : T.heap[b]? = some cellB) (hobj : cellB.vm.isStatics = false) (hcls : s.vm.findClass C = some cellB.cls)
    {g : JFrame} (hg : g.method = m) (hsize : g.locals.size = c.maxLocals) {argsL rest : List Value} (hlen : ∀ sig, parseMethodDescriptor y.desc = some sig → argsL.length = sig.parameters.length)
    (hstack : g.stack = argsL.reverse ++ .ref b :: rest) (hW : 2 * g.monitorRoom + (rest.map fun v => v.category).sum ≤ W9) (hdg : decode c.code g.pc = .ok (.invokevirtual index, 3))
    (hpre : ∀ vm₁, s.WarmedH vm₁ → Pre ⟨T.setVm vm₁, locs, cells, slots⟩ (Value.ref b :: argsL).toArray) :
    (∃ (v : Option Value) (vm₁ : Vm) (B : Pt), s.WarmedH vm₁ ∧ Stand p l e R s m args below meth c B.U B.locs B.cells B.slots ∧ Post ⟨T.setVm vm₁, locs, cells, slots⟩ (Value.ref b :: argsL).toArray v B ∧
      ∀ target, Steps p.tables e below (B.U.setTop { g with pc := g.pc + 3, stack := v.toList ++ rest }) target → Steps p.tables e below (T.setTop g) target) ∨
    (∃ (q : Addr) (vm₁ : Vm) (B : Pt), s.WarmedH vm₁ ∧ Stand p l e R s m args below meth c B.U B.locs B.cells B.slots ∧ PostX ⟨T.setVm vm₁, locs, cells, slots⟩ (Value.ref b :: argsL).toArray q B ∧
      Steps p.tables e below (T.setTop g) ((B.U.setTop { g with stack := rest }).pushFrame (.throwing q))) := by
  obtain ⟨mk, methM, hnamed, hmethM, hstM, habM⟩ := Cond.instanceMethod_spec hinst
  obtain ⟨methM', cM, hmethM', -, -, -, -, -, -, hsigM⟩ := Cond.code_spec hnamed hcode
  cases hmethM.symm.trans hmethM'
  obtain ⟨c2, r2, m2, q1, q2, q3, q4, kP, hkP, hkPi⟩ := Cond.selects_spec hsel
  cases hcls.symm.trans q1
  cases (State.methodFound?_of_named hnamed hy).symm.trans q2
  cases hnamed.symm.trans q3
  have hselP : selectMethod e.platform s.vm cellB.cls mk = .method mk := by rw [Launch.admits_selectMethod X.admits]; exact q4
  obtain ⟨vm₁, X₁, hstep₁⟩ := X.invokevirtual hexec hown hlink hnamed hmethM hstM hkP hkPi hy (a := b) (cell := cellB) hcell
    (fun z h => by rw [h] at hobj; cases hobj) hselP hmethM habM hkP hkPi (g := g) hg (argsL := argsL) (rest := rest) (hlen _ hsigM) hstack hdg
  rcases hK m meth c ⟨T.setVm vm₁, locs, cells, slots⟩ { g with stack := rest } (.invokevirtual index) mk (Value.ref b :: argsL).toArray X₁ hg hsize hdg hW (X₁.named hnamed) (hpre vm₁ X₁.warmed) with ⟨v, B, X', hpost, hsteps⟩ | ⟨q, B, X', hpost, hsteps⟩
  · exact Or.inl ⟨v, vm₁, B, X₁.warmed, X', hpost, fun target h => hstep₁ _ fun acts => by rw [doInvoke_state]; exact hsteps.trans h⟩
  · exact Or.inr ⟨q, vm₁, B, X₁.warmed, X', hpost, hstep₁ _ fun acts => by rw [doInvoke_state]; exact hsteps⟩
theorem vx_callS (X : Stand p l e R s m args below meth c T locs cells slots) (hexec : p.tables.exec = Jvm.exec) {own : String} {index : Nat} {y : MethodName} {bytes : ByteArray} {maxL : Nat} {ret : Option FieldType}
    (hown : s.vm.findClass own = some m.cls) (hlink : (Cond.methodLink own index y).before args s = true) (hstat : (Cond.static y).before args s = true) (hinit : (Cond.initialized y.cls).before args s = true)
    (hcode : (Cond.code y bytes maxL ret).before args s = true) (hy : y.cls ≠ "java/lang/invoke/MethodHandle" ∧ y.cls ≠ "java/lang/invoke/VarHandle")
    {W9 : Nat} {Pre : Pt → Array Value → Prop} {Post : Pt → Array Value → Option Value → Pt → Prop} {PostX : Pt → Array Value → Addr → Pt → Prop} (hK : vx_Back l R p e below s args y 3 W9 Pre Post PostX)
    {g : JFrame} (hg : g.method = m) (hsize : g.locals.size = c.maxLocals) {argsL rest : List Value} (hlen : ∀ sig, parseMethodDescriptor y.desc = some sig → argsL.length = sig.parameters.length)
    (hstack : g.stack = argsL.reverse ++ rest) (hW : 2 * g.monitorRoom + (rest.map fun v => v.category).sum ≤ W9) (hdg : decode c.code g.pc = .ok (.invokestatic index, 3))
    (hpre : ∀ vm₁, s.WarmedH vm₁ → Pre ⟨T.setVm vm₁, locs, cells, slots⟩ argsL.toArray) :
    (∃ (v : Option Value) (vm₁ : Vm) (B : Pt), s.WarmedH vm₁ ∧ Stand p l e R s m args below meth c B.U B.locs B.cells B.slots ∧ Post ⟨T.setVm vm₁, locs, cells, slots⟩ argsL.toArray v B ∧
      ∀ target, Steps p.tables e below (B.U.setTop { g with pc := g.pc + 3, stack := v.toList ++ rest }) target → Steps p.tables e below (T.setTop g) target) ∨
    (∃ (q : Addr) (vm₁ : Vm) (B : Pt), s.WarmedH vm₁ ∧ Stand p l e R s m args below meth c B.U B.locs B.cells B.slots ∧ PostX ⟨T.setVm vm₁, locs, cells, slots⟩ argsL.toArray q B ∧
      Steps p.tables e below (T.setTop g) ((B.U.setTop { g with stack := rest }).pushFrame (.throwing q))) := by
  obtain ⟨mk, hnamed⟩ := Cond.code_named hcode
  obtain ⟨methM, cM, hmethM, -, -, -, -, -, -, hsigM⟩ := Cond.code_spec hnamed hcode
  have hstatic : methM.isStatic = true := Cond.static_spec hnamed hmethM hstat
  obtain ⟨kP, hkP, -⟩ := className_of_methodNamed hnamed
  have hinitP : kP.init = .initialized := Cond.initialized_spec (findClass_of_methodNamed hnamed) hkP hinit
  obtain ⟨vm₁, X₁, hstep₁⟩ := X.invokestatic hexec hown hlink hnamed hmethM hstatic hkP hinitP hy (g := g) hg (argsL := argsL) (rest := rest) (hlen _ hsigM) hstack hdg
  rcases hK m meth c ⟨T.setVm vm₁, locs, cells, slots⟩ { g with stack := rest } (.invokestatic index) mk argsL.toArray X₁ hg hsize hdg hW (X₁.named hnamed) (hpre vm₁ X₁.warmed) with ⟨v, B, X', hpost, hsteps⟩ | ⟨q, B, X', hpost, hsteps⟩
  · exact Or.inl ⟨v, vm₁, B, X₁.warmed, X', hpost, fun target h => hstep₁ _ fun acts => by rw [doInvoke_state]; exact hsteps.trans h⟩
  · exact Or.inr ⟨q, vm₁, B, X₁.warmed, X', hpost, hstep₁ _ fun acts => by rw [doInvoke_state]; exact hsteps⟩
end Calls
theorem vx_cls {s : State} {T : State} {vm₁ : Vm} {E : String} {k : ClassId} (hW : s.WarmedH vm₁) (h : (T.setVm vm₁).vm.findClass E = some k) : s.vm.findClass E = some k := by
  have h1 : vm₁.findClass E = some k := h
  rw [hW.alike.findClass] at h1
  exact h1
/-- the method's frame g, with q thrown over it -/
def vx_W (p : Program) (l : Launch) (e : Env) (R : Room) (s : State) (m : MethodId) (args : Array Value) (below : List Frame) (meth : Method) (c : Code) (H : Heap) (locs : List Loc) (cells slots : Nat) (Q : State → Prop) (g : JFrame) (q : Addr) : Prop :=
  ∀ T : State, T.heap = H → Stand p l e R s m args below meth c T locs cells slots → ∃ t, Steps p.tables e below ((T.setTop g).pushFrame (.throwing q)) t ∧ Q t
def vx_Run (p : Program) (l : Launch) (e : Env) (R : Room) (s : State) (m : MethodId) (args : Array Value) (below : List Frame) (meth : Method) (c : Code) (H : Heap) (locs : List Loc) (cells slots mc ms : Nat) (g : JFrame) (rest : List Value) (Qa : State → Outcome → State → Prop) (XC : String → State → State → Prop) (free : Addr → Prop) : Prop :=
  ∀ T : State, T.heap = H → Stand p l e R s m args below meth c T locs cells slots →
    (∃ (v : Option Value) (st₀ t T' : State) (L : List Loc), st₀.heap = H ∧ Stand p l e R s m args below meth c T' (locs ++ L) (cells + mc) (slots + ms) ∧ (∀ q ∈ L, free q.base) ∧ T'.heap = t.heap ∧ T'.vm = t.vm ∧ Qa st₀ (.returned v) t ∧
      Goes p e below T g T' { g with pc := g.pc + 3, stack := v.toList ++ rest }) ∨
    (∃ (q : Addr) (st₀ t T' : State) (L : List Loc) (E : String) (ce : Cell), st₀.heap = H ∧ Stand p l e R s m args below meth c T' (locs ++ L) (cells + mc) (slots + ms) ∧ (∀ z ∈ L, free z.base) ∧ T'.heap = t.heap ∧ T'.vm = t.vm ∧ XC E st₀ t ∧ t.heap[q]? = some ce ∧ ce.vm = .none ∧ s.vm.findClass E = some ce.cls ∧
      Steps p.tables e below (T.setTop g) ((T'.setTop { g with stack := rest }).pushFrame (.throwing q)))
def vx_X {S : Type} (px : S → Prop) (B : String → S → State → Prop) (A : Nat → Prop) : String → State → State → Prop := fun E st t => ∃ u : S, px u ∧ B E u t ∧ va_F A st t
section Runs
variable {p : Program} {l : Launch} {e : Env} {R : Room} {s : State} {m : MethodId} {args : Array Value} {below : List Frame} {meth : Method} {c : Code} {H : Heap} {locs : List Loc} {cells slots : Nat}
variable {y : MethodName} {bytes cc : ByteArray} {maxL nL mc ms n index : Nat} {ret : Option FieldType} {ws : List Cond} {rm : Room} {Pc : Array Value → State → Prop} {Qc : Array Value → State → Outcome → State → Prop} {XC : String → State → State → Prop} {free : Addr → Prop} {Ts : List Cond} {own C : String} {b : Addr} {As rest : List Value} {g : JFrame}
theorem vx_callBack (cb : CallB R s args own index y bytes maxL ret ws rm mc ms n) (hM : vx_Met l y ws rm Pc Qc XC mc ms free) (hbl : FrameBlind Pc) : vx_Back l R p e below s args y 3 8 (PreOf R mc ms Pc) (PostOf Qc mc ms free) (vx_Post XC mc ms free) := by
  obtain ⟨hrc, hrs, hfr, hlo, hws, hcw, -, hini, -⟩ := cb
  exact vx_back (bytes := bytes) (maxL := maxL) (ret := ret) hM hbl hrc hrs hfr hlo hws hcw (fun a' U hW => word_at hW (Or.inl (by first | rfl | simp [Cond.onTables, Cond.keeps, Cond.steady])) hini)
theorem vx_runV (S : CallFix p m c cc nL s args Ts own) (hM : vx_Met l y ws rm Pc Qc XC mc ms free) (cw : CallW R s args own C index y bytes maxL ret ws rm mc ms n) (hp : PreV s H C b Pc As)
    (hg : g.method = m) (hn : As.length = n) (hsize : g.locals.size = nL) (hstack : g.stack = As.reverse ++ .ref b :: rest) (hW : 2 * g.monitorRoom + (rest.map fun v => v.category).sum ≤ 8) (hdg : decode cc g.pc = .ok (.invokevirtual index, 3)) (hf : cells + mc ≤ R.cells ∧ slots + ms ≤ R.slots) :
    vx_Run p l e R s m args below meth c H locs cells slots mc ms g rest (Qc (Value.ref b :: As).toArray) XC free := by
  have hK : vx_Back l R p e below s args y 3 8 (PreOf R mc ms Pc) (PostOf Qc mc ms free) (vx_Post XC mc ms free) := vx_callBack cw.1 hM hp.1
  obtain ⟨⟨-, -, -, -, -, -, hcode, -, hy, hlen, hl⟩, hin, hse⟩ := cw
  obtain ⟨hx, hb, hml, ho, -⟩ := S
  obtain ⟨-, ⟨cellB, hcB, hoB, hclB⟩, hPc⟩ := hp
  intro T hT X
  rcases vx_callV X hx (C := C) (bytes := bytes) (maxL := maxL) (ret := ret) ho hl hin hse hcode hy hK (by rw [hT]; exact hcB) hoB hclB hg (hsize.trans hml.symm) (argsL := As) (rest := rest) (fun sig h => hn.trans (hlen sig h)) hstack hW (by rw [hb]; exact hdg)
    (fun vm₁ hW₁ => ⟨hf.1, hf.2, hPc (T.setVm vm₁) hT hW₁⟩) with ⟨v, vm₁, ⟨U', l2, c2, s2⟩, hW₁, X', ⟨g', mk, t, L, e1, e2, hq, h1, hL, h2, h3⟩, st⟩ | ⟨q, vm₁, ⟨U', l2, c2, s2⟩, hW₁, X', ⟨g', mk, t, L, E, ce, e1, e2, hq, hce, hcv, hcl, h1, hL, h2, h3⟩, st⟩
  · dsimp only [Pt.U, Pt.locs, Pt.cells, Pt.slots] at X' e1 e2 h1 h2 h3 st
    subst h1; subst h2; subst h3
    exact Or.inl ⟨v, (T.setVm vm₁).calling g' mk (Value.ref b :: As).toArray, t, U', L, hT, X', hL, e1, e2, hq, st⟩
  · dsimp only [Pt.U, Pt.locs, Pt.cells, Pt.slots] at X' e1 e2 h1 h2 h3 st hcl
    subst h1; subst h2; subst h3
    exact Or.inr ⟨q, (T.setVm vm₁).calling g' mk (Value.ref b :: As).toArray, t, U', L, E, ce, hT, X', hL, e1, e2, hq, hce, hcv, vx_cls hW₁ hcl, st⟩
theorem vx_runS (S : CallFix p m c cc nL s args Ts own) (hM : vx_Met l y ws rm Pc Qc XC mc ms free) (cw : CallB R s args own index y bytes maxL ret ws rm mc ms n ∧ (Cond.static y).before args s = true) (hp : PreS s H Pc As)
    (hg : g.method = m) (hn : As.length = n) (hsize : g.locals.size = nL) (hstack : g.stack = As.reverse ++ rest) (hW : 2 * g.monitorRoom + (rest.map fun v => v.category).sum ≤ 8) (hdg : decode cc g.pc = .ok (.invokestatic index, 3)) (hf : cells + mc ≤ R.cells ∧ slots + ms ≤ R.slots) :
    vx_Run p l e R s m args below meth c H locs cells slots mc ms g rest (Qc As.toArray) XC free := by
  have hK : vx_Back l R p e below s args y 3 8 (PreOf R mc ms Pc) (PostOf Qc mc ms free) (vx_Post XC mc ms free) := vx_callBack cw.1 hM hp.1
  obtain ⟨⟨-, -, -, -, -, -, hcode, hini, hy, hlen, hl⟩, hstt⟩ := cw
  obtain ⟨hx, hb, hml, ho, -⟩ := S
  intro T hT X
  rcases vx_callS X hx (bytes := bytes) (maxL := maxL) (ret := ret) ho hl hstt hini hcode hy hK hg (hsize.trans hml.symm) (argsL := As) (rest := rest) (fun sig h => hn.trans (hlen sig h)) hstack hW (by rw [hb]; exact hdg)
    (fun vm₁ hW₁ => ⟨hf.1, hf.2, hp.2 (T.setVm vm₁) hT hW₁⟩) with ⟨v, vm₁, ⟨U', l2, c2, s2⟩, hW₁, X', ⟨g', mk, t, L, e1, e2, hq, h1, hL, h2, h3⟩, st⟩ | ⟨q, vm₁, ⟨U', l2, c2, s2⟩, hW₁, X', ⟨g', mk, t, L, E, ce, e1, e2, hq, hce, hcv, hcl, h1, hL, h2, h3⟩, st⟩
  · dsimp only [Pt.U, Pt.locs, Pt.cells, Pt.slots] at X' e1 e2 h1 h2 h3 st
    subst h1; subst h2; subst h3
    exact Or.inl ⟨v, (T.setVm vm₁).calling g' mk As.toArray, t, U', L, hT, X', hL, e1, e2, hq, st⟩
  · dsimp only [Pt.U, Pt.locs, Pt.cells, Pt.slots] at X' e1 e2 h1 h2 h3 st hcl
    subst h1; subst h2; subst h3
    exact Or.inr ⟨q, (T.setVm vm₁).calling g' mk As.toArray, t, U', L, E, ce, hT, X', hL, e1, e2, hq, hce, hcv, vx_cls hW₁ hcl, st⟩
end Runs
section Rows
variable {p : Program} {l : Launch} {e : Env} {R : Room} {s : State} {m : MethodId} {args : Array Value} {below : List Frame} {meth : Method} {c : Code} {H : Heap} {locs : List Loc} {cells slots : Nat} {Q : State → Prop}
variable {mc ms : Nat} {free : Addr → Prop} {A0 A1 : Nat → Prop} {H0 : Heap} {a : Array Value} {pc : Nat} {ls : Array Slot} {st0 rest : List Value}
theorem vx_keep {st₀ t T' : State} {L : List Loc} (h0 : st₀.heap = H) (e1 : T'.heap = t.heap) (hS : va_S A0 H0 H locs) (hA : ∀ q, q < H.size → A1 q → A0 q) (hf : ∀ q, free q → A0 q) (hL : ∀ q ∈ L, free q.base) (hF : va_F A1 st₀ t) :
    H.size ≤ T'.heap.size ∧ (∀ q : Nat, q < H.size → ¬ A1 q → T'.heap[q]? = H[q]?) ∧ va_S A0 H0 T'.heap (locs ++ L) := by
  obtain ⟨hz, hk⟩ := hF
  rw [h0] at hz hk
  exact ⟨by rw [e1]; exact hz, fun q h1 h2 => by rw [e1]; exact hk q h1 h2,
    ⟨Nat.le_trans hS.1 (by rw [e1]; exact hz), fun q h1 h2 => by rw [e1, hk q (Nat.lt_of_lt_of_le h1 hS.1) (fun z => h2 (hA q (Nat.lt_of_lt_of_le h1 hS.1) z))]; exact hS.2.1 q h1 h2, fun q hq => by
      rcases List.mem_append.mp hq with h | h
      · exact hS.2.2 q h
      · exact hf _ (hL q h)⟩⟩
theorem vx_calli {S SX : Type} {post : Int32 → S → Prop} {px : SX → Prop} {B : S → State → Prop} {BX : String → SX → State → Prop} {AX : Nat → Prop} (hr : vx_Run p l e R s m args below meth c H locs cells slots mc ms (F0 m pc ls st0) rest (va_Qi post B A1 a) (vx_X px BX AX) free) (hS : va_S A0 H0 H locs) (hA : ∀ q, q < H.size → A1 q → A0 q) (hf : ∀ q, free q → A0 q) (hAX : ∀ q, q < H.size → AX q → A0 q)
    (kx : ∀ (E : String) (ce : Cell) (q9 : Addr) (u : SX) (t : State) (H1 : Heap) (locs1 : List Loc), t.heap = H1 → s.vm.Alike t.vm → px u → BX E u t → H.size ≤ H1.size → (∀ q : Nat, q < H.size → ¬ AX q → H1[q]? = H[q]?) → va_S A0 H0 H1 locs1 → H1[q9]? = some ce → ce.vm = .none → s.vm.findClass E = some ce.cls → vx_W p l e R s m args below meth c H1 locs1 (cells + mc) (slots + ms) Q (F0 m pc ls rest) q9)
    (kk : ∀ (r : Int32) (u : S) (t : State) (H1 : Heap) (locs1 : List Loc), t.heap = H1 → s.vm.Alike t.vm → post r u → B u t → H.size ≤ H1.size → (∀ q : Nat, q < H.size → ¬ A1 q → H1[q]? = H[q]?) → va_S A0 H0 H1 locs1 → W p l e R s m args below meth c H1 locs1 (cells + mc) (slots + ms) Q (F0 m (pc + 3) ls (.int r :: rest))) : W p l e R s m args below meth c H locs cells slots Q (F0 m pc ls st0) := by
  intro T hT X
  rcases hr T hT X with ⟨v, st₀, t, T', L, h0, X', hL, e1, e2, ⟨⟨r, u, hv, hp, hb⟩, hF⟩, st⟩ | ⟨q, st₀, t, T', L, E, ce, h0, X', hL, e1, e2, ⟨u, hp, hb, hF⟩, hce, hcv, hcl, st⟩
  · cases hv
    obtain ⟨k1, k2, k3⟩ := vx_keep h0 e1 hS hA hf hL hF
    obtain ⟨t2, a1, b1⟩ := kk r u t T'.heap (locs ++ L) e1.symm (by rw [← e2]; exact X'.warmed.alike) hp hb k1 k2 k3 T' rfl X'
    exact ⟨t2, st t2 a1, b1⟩
  · obtain ⟨k1, k2, k3⟩ := vx_keep h0 e1 hS hAX hf hL hF
    obtain ⟨t2, a1, b1⟩ := kx E ce q u t T'.heap (locs ++ L) e1.symm (by rw [← e2]; exact X'.warmed.alike) hp hb k1 k2 k3 (by rw [e1]; exact hce) hcv hcl T' rfl X'
    exact ⟨t2, st.trans a1, b1⟩
theorem vx_calll {S SX : Type} {post : Int64 → S → Prop} {px : SX → Prop} {B : S → State → Prop} {BX : String → SX → State → Prop} {AX : Nat → Prop} (hr : vx_Run p l e R s m args below meth c H locs cells slots mc ms (F0 m pc ls st0) rest (va_Ql post B A1 a) (vx_X px BX AX) free) (hS : va_S A0 H0 H locs) (hA : ∀ q, q < H.size → A1 q → A0 q) (hf : ∀ q, free q → A0 q) (hAX : ∀ q, q < H.size → AX q → A0 q)
    (kx : ∀ (E : String) (ce : Cell) (q9 : Addr) (u : SX) (t : State) (H1 : Heap) (locs1 : List Loc), t.heap = H1 → s.vm.Alike t.vm → px u → BX E u t → H.size ≤ H1.size → (∀ q : Nat, q < H.size → ¬ AX q → H1[q]? = H[q]?) → va_S A0 H0 H1 locs1 → H1[q9]? = some ce → ce.vm = .none → s.vm.findClass E = some ce.cls → vx_W p l e R s m args below meth c H1 locs1 (cells + mc) (slots + ms) Q (F0 m pc ls rest) q9)
    (kk : ∀ (r : Int64) (u : S) (t : State) (H1 : Heap) (locs1 : List Loc), t.heap = H1 → s.vm.Alike t.vm → post r u → B u t → H.size ≤ H1.size → (∀ q : Nat, q < H.size → ¬ A1 q → H1[q]? = H[q]?) → va_S A0 H0 H1 locs1 → W p l e R s m args below meth c H1 locs1 (cells + mc) (slots + ms) Q (F0 m (pc + 3) ls (.long r :: rest))) : W p l e R s m args below meth c H locs cells slots Q (F0 m pc ls st0) := by
  intro T hT X
  rcases hr T hT X with ⟨v, st₀, t, T', L, h0, X', hL, e1, e2, ⟨⟨r, u, hv, hp, hb⟩, hF⟩, st⟩ | ⟨q, st₀, t, T', L, E, ce, h0, X', hL, e1, e2, ⟨u, hp, hb, hF⟩, hce, hcv, hcl, st⟩
  · cases hv
    obtain ⟨k1, k2, k3⟩ := vx_keep h0 e1 hS hA hf hL hF
    obtain ⟨t2, a1, b1⟩ := kk r u t T'.heap (locs ++ L) e1.symm (by rw [← e2]; exact X'.warmed.alike) hp hb k1 k2 k3 T' rfl X'
    exact ⟨t2, st t2 a1, b1⟩
  · obtain ⟨k1, k2, k3⟩ := vx_keep h0 e1 hS hAX hf hL hF
    obtain ⟨t2, a1, b1⟩ := kx E ce q u t T'.heap (locs ++ L) e1.symm (by rw [← e2]; exact X'.warmed.alike) hp hb k1 k2 k3 (by rw [e1]; exact hce) hcv hcl T' rfl X'
    exact ⟨t2, st.trans a1, b1⟩
theorem vx_callf {S SX : Type} {post : UInt32 → S → Prop} {px : SX → Prop} {B : S → State → Prop} {BX : String → SX → State → Prop} {AX : Nat → Prop} (hr : vx_Run p l e R s m args below meth c H locs cells slots mc ms (F0 m pc ls st0) rest (va_Qf post B A1 a) (vx_X px BX AX) free) (hS : va_S A0 H0 H locs) (hA : ∀ q, q < H.size → A1 q → A0 q) (hf : ∀ q, free q → A0 q) (hAX : ∀ q, q < H.size → AX q → A0 q)
    (kx : ∀ (E : String) (ce : Cell) (q9 : Addr) (u : SX) (t : State) (H1 : Heap) (locs1 : List Loc), t.heap = H1 → s.vm.Alike t.vm → px u → BX E u t → H.size ≤ H1.size → (∀ q : Nat, q < H.size → ¬ AX q → H1[q]? = H[q]?) → va_S A0 H0 H1 locs1 → H1[q9]? = some ce → ce.vm = .none → s.vm.findClass E = some ce.cls → vx_W p l e R s m args below meth c H1 locs1 (cells + mc) (slots + ms) Q (F0 m pc ls rest) q9)
    (kk : ∀ (r : UInt32) (u : S) (t : State) (H1 : Heap) (locs1 : List Loc), t.heap = H1 → s.vm.Alike t.vm → post r u → B u t → H.size ≤ H1.size → (∀ q : Nat, q < H.size → ¬ A1 q → H1[q]? = H[q]?) → va_S A0 H0 H1 locs1 → W p l e R s m args below meth c H1 locs1 (cells + mc) (slots + ms) Q (F0 m (pc + 3) ls (.float r :: rest))) : W p l e R s m args below meth c H locs cells slots Q (F0 m pc ls st0) := by
  intro T hT X
  rcases hr T hT X with ⟨v, st₀, t, T', L, h0, X', hL, e1, e2, ⟨⟨r, u, hv, hp, hb⟩, hF⟩, st⟩ | ⟨q, st₀, t, T', L, E, ce, h0, X', hL, e1, e2, ⟨u, hp, hb, hF⟩, hce, hcv, hcl, st⟩
  · cases hv
    obtain ⟨k1, k2, k3⟩ := vx_keep h0 e1 hS hA hf hL hF
    obtain ⟨t2, a1, b1⟩ := kk r u t T'.heap (locs ++ L) e1.symm (by rw [← e2]; exact X'.warmed.alike) hp hb k1 k2 k3 T' rfl X'
    exact ⟨t2, st t2 a1, b1⟩
  · obtain ⟨k1, k2, k3⟩ := vx_keep h0 e1 hS hAX hf hL hF
    obtain ⟨t2, a1, b1⟩ := kx E ce q u t T'.heap (locs ++ L) e1.symm (by rw [← e2]; exact X'.warmed.alike) hp hb k1 k2 k3 (by rw [e1]; exact hce) hcv hcl T' rfl X'
    exact ⟨t2, st.trans a1, b1⟩
theorem vx_calld {S SX : Type} {post : UInt64 → S → Prop} {px : SX → Prop} {B : S → State → Prop} {BX : String → SX → State → Prop} {AX : Nat → Prop} (hr : vx_Run p l e R s m args below meth c H locs cells slots mc ms (F0 m pc ls st0) rest (va_Qd post B A1 a) (vx_X px BX AX) free) (hS : va_S A0 H0 H locs) (hA : ∀ q, q < H.size → A1 q → A0 q) (hf : ∀ q, free q → A0 q) (hAX : ∀ q, q < H.size → AX q → A0 q)
    (kx : ∀ (E : String) (ce : Cell) (q9 : Addr) (u : SX) (t : State) (H1 : Heap) (locs1 : List Loc), t.heap = H1 → s.vm.Alike t.vm → px u → BX E u t → H.size ≤ H1.size → (∀ q : Nat, q < H.size → ¬ AX q → H1[q]? = H[q]?) → va_S A0 H0 H1 locs1 → H1[q9]? = some ce → ce.vm = .none → s.vm.findClass E = some ce.cls → vx_W p l e R s m args below meth c H1 locs1 (cells + mc) (slots + ms) Q (F0 m pc ls rest) q9)
    (kk : ∀ (r : UInt64) (u : S) (t : State) (H1 : Heap) (locs1 : List Loc), t.heap = H1 → s.vm.Alike t.vm → post r u → B u t → H.size ≤ H1.size → (∀ q : Nat, q < H.size → ¬ A1 q → H1[q]? = H[q]?) → va_S A0 H0 H1 locs1 → W p l e R s m args below meth c H1 locs1 (cells + mc) (slots + ms) Q (F0 m (pc + 3) ls (.double r :: rest))) : W p l e R s m args below meth c H locs cells slots Q (F0 m pc ls st0) := by
  intro T hT X
  rcases hr T hT X with ⟨v, st₀, t, T', L, h0, X', hL, e1, e2, ⟨⟨r, u, hv, hp, hb⟩, hF⟩, st⟩ | ⟨q, st₀, t, T', L, E, ce, h0, X', hL, e1, e2, ⟨u, hp, hb, hF⟩, hce, hcv, hcl, st⟩
  · cases hv
    obtain ⟨k1, k2, k3⟩ := vx_keep h0 e1 hS hA hf hL hF
    obtain ⟨t2, a1, b1⟩ := kk r u t T'.heap (locs ++ L) e1.symm (by rw [← e2]; exact X'.warmed.alike) hp hb k1 k2 k3 T' rfl X'
    exact ⟨t2, st t2 a1, b1⟩
  · obtain ⟨k1, k2, k3⟩ := vx_keep h0 e1 hS hAX hf hL hF
    obtain ⟨t2, a1, b1⟩ := kx E ce q u t T'.heap (locs ++ L) e1.symm (by rw [← e2]; exact X'.warmed.alike) hp hb k1 k2 k3 (by rw [e1]; exact hce) hcv hcl T' rfl X'
    exact ⟨t2, st.trans a1, b1⟩
theorem vx_callv {S SX : Type} {post : S → Prop} {px : SX → Prop} {B : S → State → Prop} {BX : String → SX → State → Prop} {AX : Nat → Prop} (hr : vx_Run p l e R s m args below meth c H locs cells slots mc ms (F0 m pc ls st0) rest (va_Qv post B A1 a) (vx_X px BX AX) free) (hS : va_S A0 H0 H locs) (hA : ∀ q, q < H.size → A1 q → A0 q) (hf : ∀ q, free q → A0 q) (hAX : ∀ q, q < H.size → AX q → A0 q)
    (kx : ∀ (E : String) (ce : Cell) (q9 : Addr) (u : SX) (t : State) (H1 : Heap) (locs1 : List Loc), t.heap = H1 → s.vm.Alike t.vm → px u → BX E u t → H.size ≤ H1.size → (∀ q : Nat, q < H.size → ¬ AX q → H1[q]? = H[q]?) → va_S A0 H0 H1 locs1 → H1[q9]? = some ce → ce.vm = .none → s.vm.findClass E = some ce.cls → vx_W p l e R s m args below meth c H1 locs1 (cells + mc) (slots + ms) Q (F0 m pc ls rest) q9)
    (kk : ∀ (u : S) (t : State) (H1 : Heap) (locs1 : List Loc), t.heap = H1 → s.vm.Alike t.vm → post u → B u t → H.size ≤ H1.size → (∀ q : Nat, q < H.size → ¬ A1 q → H1[q]? = H[q]?) → va_S A0 H0 H1 locs1 → W p l e R s m args below meth c H1 locs1 (cells + mc) (slots + ms) Q (F0 m (pc + 3) ls (rest))) : W p l e R s m args below meth c H locs cells slots Q (F0 m pc ls st0) := by
  intro T hT X
  rcases hr T hT X with ⟨v, st₀, t, T', L, h0, X', hL, e1, e2, ⟨⟨u, hv, hp, hb⟩, hF⟩, st⟩ | ⟨q, st₀, t, T', L, E, ce, h0, X', hL, e1, e2, ⟨u, hp, hb, hF⟩, hce, hcv, hcl, st⟩
  · cases hv
    obtain ⟨k1, k2, k3⟩ := vx_keep h0 e1 hS hA hf hL hF
    obtain ⟨t2, a1, b1⟩ := kk u t T'.heap (locs ++ L) e1.symm (by rw [← e2]; exact X'.warmed.alike) hp hb k1 k2 k3 T' rfl X'
    exact ⟨t2, st t2 a1, b1⟩
  · obtain ⟨k1, k2, k3⟩ := vx_keep h0 e1 hS hAX hf hL hF
    obtain ⟨t2, a1, b1⟩ := kx E ce q u t T'.heap (locs ++ L) e1.symm (by rw [← e2]; exact X'.warmed.alike) hp hb k1 k2 k3 (by rw [e1]; exact hce) hcv hcl T' rfl X'
    exact ⟨t2, st.trans a1, b1⟩
/-- caught by the row x of this method's table; the rows ahead don't take it -/
theorem vx_catch {own name : String} {E : String} {ce : Cell} {q : Addr} (hown : s.vm.findClass own = some m.cls) (pre : List ExceptionTableEntry) (x : ExceptionTableEntry) (suf : List ExceptionTableEntry) (hsplit : c.exceptionTable.toList = pre ++ x :: suf)
    (hpass : ∀ z ∈ pre, covers z pc = false ∨ (z.catchType ≠ 0 ∧ ∃ nm : String, (Cond.classLink own z.catchType nm).before args s = true ∧ va_Nc E nm s)) (hx : covers x pc = true) (h0 : x.catchType ≠ 0)
    (hlink : (Cond.classLink own x.catchType name).before args s = true) (hcast : (Cond.castable E name).before args s = true) (hcell : H[q]? = some ce) (hv : ce.vm = .none) (hcl : s.vm.findClass E = some ce.cls)
    (kk : W p l e R s m args below meth c H locs cells slots Q (F0 m x.handlerPc ls [.ref q])) : vx_W p l e R s m args below meth c H locs cells slots Q (F0 m pc ls rest) q := by
  intro T hT X
  have hpl : e.platform.magicAccessors = ({} : Platform).magicAccessors := by rw [X.admits.platform]
  obtain ⟨c3, c4, hc3, hc4, hasg⟩ := Cond.castable_spec hcast
  cases Option.some.inj (hc3.symm.trans hcl)
  obtain ⟨c5, hc5, hcl5⟩ := Cond.classLink_spec hown hlink e.platform hpl
  cases Option.some.inj (hc4.symm.trans hc5)
  obtain ⟨vm', X', st⟩ := X.thenCaughtThrough q (g := F0 m pc ls rest) rfl (Steps.refl _) (by rw [hT]; exact hcell) (by rw [hv]; rfl) (by obtain ⟨k9, h9, -⟩ := Vm.findClass_spec hcl; exact ⟨k9, h9⟩) pre x suf hsplit
    (fun z hz => by
      rcases hpass z hz with h | ⟨hz0, nm, hl1, hn1⟩
      · exact Or.inl h
      · obtain ⟨c6, hc6, hcl6⟩ := Cond.classLink_spec hown hl1 e.platform hpl
        obtain ⟨a8, b8, h1, h2, h3⟩ := hn1
        cases Option.some.inj (h1.symm.trans hcl)
        cases Option.some.inj (h2.symm.trans hc6)
        exact Or.inr ⟨hz0, _, hcl6, h3⟩) hx (Or.inr ⟨h0, c4, hcl5, hasg⟩)
  obtain ⟨t, a1, b1⟩ := kk (T.setVm vm') hT X'
  exact ⟨t, st.trans a1, b1⟩
end Rows
section Ends
variable {p : Program} {l : Launch} {e : Env} {R : Room} {s : State} {m : MethodId} {args : Array Value} {below : List Frame} {meth : Method} {c : Code} {H : Heap} {locs : List Loc} {cells slots : Nat} {Q : State → Prop}
variable {mc ms : Nat} {free : Addr → Prop} {A0 A1 : Nat → Prop} {H0 : Heap} {a : Array Value} {ls : Array Slot} {st0 rest : List Value}
variable {Qc : Array Value → State → Outcome → State → Prop} {XC : String → State → State → Prop}
/-- what a body that may throw owes at its end -/
def vx_MQ (below : List Frame) (Qc : Array Value → State → Outcome → State → Prop) (XC : String → State → State → Prop) (a : Array Value) (s : State) (mc ms : Nat) (free : Addr → Prop) : State → Prop := fun t =>
  ∃ o, t.status = .running ∧ Ended t below o ∧ vx_Q Qc XC mc ms free a s o t
theorem vx_ret {g : JFrame} {mc ms : Nat} (k : W p l e R s m args below meth c H locs cells slots (MQ below Qc args s mc ms free) g) : W p l e R s m args below meth c H locs cells slots (vx_MQ below Qc XC args s mc ms free) g := by
  intro T hT X
  obtain ⟨t, a1, o, b1, b2, b3, b4⟩ := k T hT X
  exact ⟨t, a1, o, b1, b2, Or.inl ⟨b3, b4⟩⟩
/-- not caught here: it goes on to the caller -/
theorem vx_widen {g : JFrame} {q : Addr} {k n : Nat} (h1 : cells ≤ k) (h2 : slots ≤ n) (kk : vx_W p l e R s m args below meth c H locs k n Q g q) : vx_W p l e R s m args below meth c H locs cells slots Q g q := fun T hT X => kk T hT (stand_widen X h1 h2)
theorem vx_out {pc : Nat} {E : String} {ce : Cell} {q : Addr} {mc ms : Nat} (hout : ∀ x ∈ c.exceptionTable.toList, covers x pc = false) (hlocks : meth.locks = false) (hcell : H[q]? = some ce) (hv : ce.vm = .none) (hcl : s.vm.findClass E = some ce.cls)
    (hx : ∀ t : State, t.heap = H → s.vm.Alike t.vm → XC E s t) (hf : ∀ z ∈ locs, free z.base) (hc : cells ≤ mc) (hs : slots ≤ ms) :
    vx_W p l e R s m args below meth c H locs cells slots (vx_MQ below Qc XC args s mc ms free) (F0 m pc ls rest) q := by
  intro T hT X
  obtain ⟨st1, hrun, hend, hW, hsm⟩ := X.leaveThrown q (g := F0 m pc ls rest) rfl rfl rfl hout hlocks
  have hcell9 : (T.setFrames (.throwing q :: below)).heap[q]? = some ce := by
    show T.heap[q]? = some ce
    rw [hT]; exact hcell
  exact ⟨_, st1, .threw q, hrun, hend, Or.inr ⟨q, rfl, E, ce, locs, hx _ hT hW.alike, hcell9, hv, hcl, hW, hsm.mono hc hs, hf⟩⟩
theorem vx_frame {U : State} {k n : Nat} (h : s.sameButNew ({ U with vm := s.vm } : State) locs k n) : s.heap.size ≤ U.heap.size ∧ ∀ q : Nat, q < s.heap.size → (∀ z ∈ locs, z.base ≠ q) → U.heap[q]? = s.heap[q]? := by
  obtain ⟨-, h2, -, -, -, h6⟩ := h
  refine ⟨h2, fun q hq hz => ?_⟩
  obtain ⟨c9, e1, e2, e3, e4⟩ := h6 q _ (Array.getElem?_eq_getElem hq)
  have hs : c9.slots = (s.heap[q]).slots := Array.ext_getElem? fun i => e4 i fun hm => hz _ hm rfl
  have h9 : c9 = s.heap[q] := by
    rw [hs] at e2
    exact e2
  have e5 : U.heap[q]? = some c9 := e1
  rw [e5, h9, Array.getElem?_eq_getElem hq]
/-- the words of a throw but the four that speak of the heap -/
def vx_no (w : Cond) : Bool := decide (w ≠ .isRef (.static Bundle.tN "UNASSIGNED_STACK" Bundle.steD)) && decide (w ≠ .isRef (.static Bundle.tN "SUPPRESSED_SENTINEL" Bundle.listD)) && decide (w ≠ .laysStatic Bundle.tN "UNASSIGNED_STACK" Bundle.steD) && decide (w ≠ .laysStatic Bundle.tN "SUPPRESSED_SENTINEL" Bundle.listD)
def vx_at0 (own : String) (ic : Nat) (X : String) (names : List String) : List Cond := (Bundle.ownAtoms0 own ic X names).filter vx_no
def vx_atS (own : String) (ic : Nat) (X : String) (names : List String) : List Cond := (Bundle.ownAtoms own ic X names).filter vx_no
/-- a word that the tables alone decide, or a good one -/
def vx_ot (w : Cond) : Bool := w.onTables || goodWord w
theorem vx_ot_at {args a' : Array Value} {s U : State} {w : Cond} (hW : s.WarmedH U.vm) (hvm : s.vm = U.vm) (hg : vx_ot w = true) (h : w.before args s = true) : w.before a' U = true := by
  simp only [vx_ot, Bool.or_eq_true] at hg
  rcases hg with hg | hg
  · exact va_tabs hg hvm h
  · exact word_at hW (good_of_word hg) h
/-- a list's words: the good ones out of the method's own list, the others by premises of their own -/
theorem vx_hat {args : Array Value} {s : State} {L B : List Cond} (h1 : ∀ w ∈ L.filter goodWord, w.before args s = true) (h2 : ∀ w ∈ L.filter (fun w => !goodWord w), w ∈ B) (h3 : ∀ w ∈ B, w.before args s = true) : ∀ w ∈ L, w.before args s = true := by
  intro w hw
  by_cases g : goodWord w = true
  · exact h1 w (List.mem_filter.mpr ⟨hw, g⟩)
  · refine h3 w (h2 w (List.mem_filter.mpr ⟨hw, ?_⟩))
    show (!goodWord w) = true
    cases hgw : goodWord w
    · rfl
    · exact absurd hgw g
theorem vx_c {args : Array Value} {s : State} {w : Cond} {B : List Cond} (h : w.before args s = true) (t : ∀ w ∈ B, w.before args s = true) : ∀ w' ∈ w :: B, w'.before args s = true := fun w' h' => (List.mem_cons.mp h').elim (fun e => by rw [e]; exact h) (t w')
theorem vx_n {args : Array Value} {s : State} : ∀ w ∈ ([] : List Cond), w.before args s = true := fun _ h => nomatch h
theorem vx_own {args : Array Value} {s : State} {L : List Cond} (h1 : ∀ w ∈ L.filter vx_no, w.before args s = true)
    (hU : (Cond.isRef (.static Bundle.tN "UNASSIGNED_STACK" Bundle.steD)).before args s = true) (hN : (Cond.isRef (.static Bundle.tN "SUPPRESSED_SENTINEL" Bundle.listD)).before args s = true)
    (lU : (Cond.laysStatic Bundle.tN "UNASSIGNED_STACK" Bundle.steD).before args s = true) (lN : (Cond.laysStatic Bundle.tN "SUPPRESSED_SENTINEL" Bundle.listD).before args s = true) : ∀ w ∈ L, w.before args s = true := by
  intro w hw
  by_cases e1 : w = .isRef (.static Bundle.tN "UNASSIGNED_STACK" Bundle.steD)
  · rw [e1]; exact hU
  · by_cases e2 : w = .isRef (.static Bundle.tN "SUPPRESSED_SENTINEL" Bundle.listD)
    · rw [e2]; exact hN
    · by_cases e3 : w = .laysStatic Bundle.tN "UNASSIGNED_STACK" Bundle.steD
      · rw [e3]; exact lU
      · by_cases e4 : w = .laysStatic Bundle.tN "SUPPRESSED_SENTINEL" Bundle.listD
        · rw [e4]; exact lN
        · exact h1 w (List.mem_filter.mpr ⟨hw, by unfold vx_no; rw [decide_eq_true e1, decide_eq_true e2, decide_eq_true e3, decide_eq_true e4]; rfl⟩)
/-- where a static field lies, its class's statics cell in H -/
def vx_L (C n d : String) (A : Nat → Prop) (U : State) (H : Heap) : Prop := ∃ (c : ClassId) (k : Class) (i : Nat) (f : Field) (a : Nat) (cell : Cell), U.vm.findClass C = some c ∧ U.fieldFound? C n d = some (c, k, i, f) ∧ f.isStatic = true ∧ k.statics = some a ∧ H[a]? = some cell ∧ cell.vm.isStatics = true ∧ cell.cls = c ∧ f.slot < cell.slots.size ∧ k.staticTypes[f.slot]? = some f.type ∧ ¬ A a
theorem vx_L.moved {C n d : String} {A : Nat → Prop} {u U : State} {H : Heap} (hvm : u.vm.Alike U.vm) (h : vx_L C n d A u H) : vx_L C n d A U H := by
  obtain ⟨c, k, i, f, a, cell, h1, h2, h3, h4, h5, h6, h7, h8, h9, h10⟩ := h
  obtain ⟨k', hi', he⟩ := State.fieldFound?_setVm hvm h2
  exact ⟨c, k', i, f, a, cell, by rw [hvm.findClass]; exact h1, hi', h3, by rw [he]; exact h4, h5, h6, h7, h8, by rw [he]; exact h9, h10⟩
theorem vx_L.kept {C n d : String} {A : Nat → Prop} {U : State} {H H1 : Heap} (h : vx_L C n d A U H) (hq : ∀ a : Nat, a < H.size → ¬ A a → H1[a]? = H[a]?) : vx_L C n d A U H1 := by
  obtain ⟨c, k, i, f, a, cell, h1, h2, h3, h4, h5, h6, h7, h8, h9, h10⟩ := h
  exact ⟨c, k, i, f, a, cell, h1, h2, h3, h4, by rw [hq a (Array.getElem?_eq_some_iff.mp h5).1 h10]; exact h5, h6, h7, h8, h9, h10⟩
theorem vx_L.narrow {C n d : String} {A B : Nat → Prop} {U : State} {H : Heap} (h : vx_L C n d A U H) (hAB : ∀ q, B q → A q) : vx_L C n d B U H := by
  obtain ⟨c, k, i, f, a, cell, h1, h2, h3, h4, h5, h6, h7, h8, h9, h10⟩ := h
  exact ⟨c, k, i, f, a, cell, h1, h2, h3, h4, h5, h6, h7, h8, h9, fun z => h10 (hAB _ z)⟩
theorem vx_L.word {C n d : String} {A : Nat → Prop} {s : State} {args : Array Value} (h : vx_L C n d A s s.heap) : (Cond.laysStatic C n d).before args s = true := by
  obtain ⟨c, k, i, f, a, cell, h1, h2, h3, h4, h5, h6, h7, h8, h9, -⟩ := h
  show (Cond.laysStatic C n d).holds args s none s [] = true
  exact Cond.laysStatic_of h1 h2 h3 h4 h5 h6 h7 h8 h9
/-- .. and what it holds: null or some reference -/
def vx_Zq (C n d : String) (A : Nat → Prop) (U : State) (H : Heap) : Prop := va_Zq C n d A U H ∧ vx_L C n d A U H
theorem vx_Zq.moved {C n d : String} {A : Nat → Prop} {u U : State} {H : Heap} (hvm : u.vm.Alike U.vm) (h : vx_Zq C n d A u H) : vx_Zq C n d A U H := ⟨va_Zq.moved hvm h.1, vx_L.moved hvm h.2⟩
theorem vx_Zq.kept {C n d : String} {A : Nat → Prop} {U : State} {H H1 : Heap} (h : vx_Zq C n d A U H) (hq : ∀ a : Nat, a < H.size → ¬ A a → H1[a]? = H[a]?) : vx_Zq C n d A U H1 := ⟨va_Zq.kept h.1 hq, vx_L.kept h.2 hq⟩
theorem vx_Zq.narrow {C n d : String} {A B : Nat → Prop} {U : State} {H : Heap} (h : vx_Zq C n d A U H) (hAB : ∀ q, B q → A q) : vx_Zq C n d B U H := ⟨va_Zq.narrow h.1 hAB, vx_L.narrow h.2 hAB⟩
theorem vx_Zqof {args : Array Value} {s : State} {C n d : String} {A : Nat → Prop} (hl : (Cond.laysStatic C n d).before args s = true) (hini : (Cond.initialized C).before args s = true) (h : (Cond.isRef (.static C n d)).before args s = true) (hA : ∀ a : Nat, a < s.heap.size → ¬ A a) : vx_Zq C n d A s s.heap := by
  refine ⟨va_Zqof hl hini h hA, ?_⟩
  obtain ⟨c, k, i, f, a, cell, h1, h2, h3, h4, h5, h6, h7, h8, h9⟩ := Cond.laysStatic_spec hl
  exact ⟨c, k, i, f, a, cell, h1, h2, h3, h4, h5, h6, h7, h8, h9, hA a (Array.getElem?_eq_some_iff.mp h5).1⟩
theorem vx_isRef {C n d : String} {v : Value} {A : Nat → Prop} {s : State} {args : Array Value} (h : va_Z C n d v A s s.heap) (hv : v.isRef = true) : (Cond.isRef (.static C n d)).before args s = true := by
  obtain ⟨cf, kf, fi, f, a, cell, h1, h2, h3, h4, h5, h6, h7, -⟩ := h
  have he : (Term.static C n d).eval args s none [] s = some v := by
    simp [Term.eval, State.fieldNamed?, h1, h2, h4, h5, h6, h7]
  simp only [Cond.before, Cond.holds, Cond.value, he]
  cases v <;> simp_all [Value.isRef]
theorem vx_isRefq {C n d : String} {A : Nat → Prop} {s : State} {args : Array Value} (h : va_Zq C n d A s s.heap) : (Cond.isRef (.static C n d)).before args s = true := by
  rcases h with h | ⟨t, h⟩
  · exact vx_isRef h rfl
  · exact vx_isRef h rfl
/-- the same frame, seen from here: as if the method were called anew in this heap -/
theorem vx_rebase {T : State} (X : Stand p l e R s m args below meth c T locs cells slots) {R' : Room} (hf : R'.frames ≤ R.frames) (hl : R'.locals ≤ R.locals) (hc : cells + R'.cells ≤ R.cells) (hs : slots + R'.slots ≤ R.slots) :
    Stand p l e R' ((T.setVm s.vm).setFrames (.invoking m args :: below)) m args below meth c T [] 0 0 := by
  have htop : (T.setVm s.vm).topJava?.isSome := X.here.top
  have hF : ((T.setVm s.vm).setFrames (.invoking m args :: below)).frames = .invoking m args :: below := State.frames_setFrames _ (State.cur_lt_of_top htop)
  obtain ⟨g₀, hg0⟩ := Option.isSome_iff_exists.mp htop
  obtain ⟨r, hr⟩ := State.topJava?_eq_some.mp hg0
  have hl9 : e.platform.stackLimits (T.setVm s.vm).me = e.platform.stackLimits s.me := X.limits
  have hb9 : (T.setVm s.vm).me.stackBytes = s.me.stackBytes := X.bytes
  refine ⟨X.admits, X.cas, X.clock, hF, ?_, X.hears, X.method, X.code, X.here, X.tail, X.warmed, ?_, ?_, ?_⟩
  · have h := X.room
    have hU : ((T.setVm s.vm).setFrames (.invoking m args :: below)).localsInUse = s.localsInUse := by
      rw [State.localsInUse_invoking hF (meth := meth) (c := c) X.method X.code, State.localsInUse_invoking X.frames X.method X.code]
    simp only [State.hasRoom, Bool.and_eq_true, decide_eq_true_eq] at h ⊢
    obtain ⟨⟨⟨⟨h1, h2, h3, h4, h5, h6⟩, h7⟩, h8⟩, h9⟩ := h
    rw [X.frames, List.length_cons] at h2 h3
    have q1 := X.heapSize
    have q2 := X.used
    simp only [hF, hU, List.length_cons, State.stackLimits_setFrames, State.stackBytes_setFrames, hl9, hb9]
    refine ⟨⟨⟨⟨by omega, by omega, by omega, by omega, by omega, h6⟩, ?_⟩, ?_⟩, X.book⟩
    · show T.heap.size + R'.cells ≤ e.platform.maxCells
      omega
    · show T.slotsUsed + R'.slots ≤ e.platform.maxSlots
      omega
  · rw [State.stackLimits_setFrames]; rfl
  · rw [State.stackBytes_setFrames]; rfl
  · refine ⟨?_, Nat.le_refl _, Nat.le_refl _, ?_, ?_, fun a c9 h9 => ⟨c9, h9, rfl, rfl, fun _ _ => rfl⟩⟩
    · obtain ⟨t, ht, -⟩ := State.frames_cons hr
      show T.setVm s.vm = { ((T.setVm s.vm).setFrames (.invoking m args :: below)).setFrames (T.setVm s.vm).frames with heap := T.heap, slotsUsed := T.slotsUsed }
      rw [State.setFrames_setFrames, State.setFrames_self ht]
      rfl
    · show T.slotsUsed = T.slotsUsed + ((T.heap.toList.drop T.heap.size).map (·.slots.size)).sum
      rw [List.drop_eq_nil_of_le (Nat.le_of_eq Array.length_toList)]
      rfl
    · show ((T.heap.toList.drop T.heap.size).map (·.slots.size)).sum ≤ 0
      rw [List.drop_eq_nil_of_le (Nat.le_of_eq Array.length_toList)]
      exact Nat.le_refl _
/-- 'throw new E()': new; dup; invokespecial; athrow -/
theorem vx_throw0 {cc : ByteArray} {pc : Nat} (hexec : p.tables.exec = Jvm.exec) (hb : c.code = cc) (hl : l.stackTraces = false) {own cls : String} {names : List String} {ik ic mc ms : Nat} {A : Nat → Prop}
    (hown : s.vm.findClass own = some m.cls) (hcls : Bundle.fit cls = true) (hnames : ∀ n ∈ names, Bundle.fit n = true)
    (hk : (Cond.classLink own ik cls).before args s = true) (hini : (Cond.initialized cls).before args s = true) (hat : ∀ w ∈ vx_at0 own ic cls names, w.before args s = true)
    (hgood : ∀ w ∈ Cond.classLink own ik cls :: Cond.initialized cls :: vx_at0 own ic cls names, vx_ot w = true)
    (hU : vx_Zq Bundle.tN "UNASSIGNED_STACK" Bundle.steD A s s.heap) (hN : vx_Zq Bundle.tN "SUPPRESSED_SENTINEL" Bundle.listD A s s.heap) (hS : va_S A s.heap H locs) (hsize : ls.size = c.maxLocals)
    (d0 : decode cc pc = .ok (.new ik, 3)) (d3 : decode cc (pc + 3) = .ok (.dup, 1)) (d4 : decode cc (pc + 4) = .ok (.invokespecial ic, 3)) (d7 : decode cc (pc + 7) = .ok (.athrow, 1))
    (hout : ∀ x ∈ c.exceptionTable.toList, covers x (pc + 7) = false)
    (hRframes : names.length + 3 < R.frames) (hRlocals : (rest.map fun v => v.category).sum + (13 * (names.length + 1) + 42) ≤ R.locals) (hRcells : cells + 1 ≤ R.cells) (hRslots : slots + 6 ≤ R.slots) (hlocks : meth.locks = false)
    (hx : ∀ t : State, s.vm.Alike t.vm → H.size ≤ t.heap.size → (∀ q : Nat, q < H.size → t.heap[q]? = H[q]?) → XC cls s t)
    (hf : ∀ z ∈ locs, free z.base) (hc : cells + 1 ≤ mc) (hs : slots + 6 ≤ ms) :
    W p l e R s m args below meth c H locs cells slots (vx_MQ below Qc XC args s mc ms free) (F0 m pc ls rest) := by
  intro T hT X
  have htr : e.platform.stackTraces = false := (show e.platform.stackTraces = l.stackTraces by rw [X.admits.platform]).trans hl
  have Y := vx_rebase X (R' := { frames := R.frames, locals := R.locals, cells := 1, slots := 6 }) (Nat.le_refl _) (Nat.le_refl _) hRcells hRslots
  obtain ⟨s', hA⟩ : ∃ z, z = (T.setVm s.vm).setFrames (.invoking m args :: below) := ⟨_, rfl⟩
  rw [← hA] at Y
  have hvm : s'.vm = s.vm := by rw [hA]; rfl
  have hhp : s'.heap = H := by rw [hA]; exact hT
  have hW0 : s.WarmedH s'.vm := by rw [hvm]; exact State.WarmedH.refl s
  have hat' : ∀ w ∈ vx_at0 own ic cls names, w.before args s' = true := fun w hw => vx_ot_at hW0 hvm.symm (hgood w (List.mem_cons_of_mem _ (List.mem_cons_of_mem _ hw))) (hat w hw)
  have hk' : (Cond.classLink own ik cls).before args s' = true := vx_ot_at hW0 hvm.symm (hgood _ List.mem_cons_self) hk
  have hini' : (Cond.initialized cls).before args s' = true := vx_ot_at hW0 hvm.symm (hgood _ (List.mem_cons_of_mem _ List.mem_cons_self)) hini
  have hU' : vx_Zq Bundle.tN "UNASSIGNED_STACK" Bundle.steD A s' s'.heap := by rw [hhp]; exact vx_Zq.moved hW0.alike (hU.kept hS.2.1)
  have hN' : vx_Zq Bundle.tN "SUPPRESSED_SENTINEL" Bundle.listD A s' s'.heap := by rw [hhp]; exact vx_Zq.moved hW0.alike (hN.kept hS.2.1)
  have h : ∀ w ∈ Bundle.ownAtoms0 own ic cls names, w.before args s' = true := vx_own hat' (vx_isRefq hU'.1) (vx_isRefq hN'.1) hU'.2.word hN'.2.word
  have hown' : s'.vm.findClass own = some m.cls := by rw [hvm]; exact hown
  have hins : (Cond.instantiable cls 6).before args s' = true := h _ (by simp [Bundle.ownAtoms0])
  obtain ⟨vm₁, cX, kX, hfX, hkX, -, -, X₁, st1⟩ := Y.newCold hexec (own := own) (C := cls) (index := ik) (n := 6) hown' hk' hins hini'
    (g := F0 m pc ls rest) rfl (by rw [hb]; exact d0) (Nat.le_refl _) (Nat.le_refl _)
  generalize hT1 : (T.setVm vm₁).pushCell { cls := cX, slots := kX.instanceTypes.map defaultValue, vm := .none } = T1 at X₁ st1
  have hcat : (Value.ref T.heap.size).category = 1 := rfl
  have hcellA : T1.heap[T.heap.size]? = some (freshCell cX kX) := by rw [← hT1]; exact State.heap_pushCell_size _ _
  have d3' : decode c.code (pc + 3) = .ok (.dup, 1) := by rw [hb]; exact d3
  obtain ⟨U, hsteps, hrun, hend, hW, hsame, ce, hce, hO⟩ := X₁.ctorThrow0 hexec htr (own := own) (cls := cls) (names := names) (ic := ic) hown' hcls hnames h (fun x hx => nomatch hx) hfX hkX hcellA (by rw [hhp, hT]; exact Nat.le_refl _)
    (g := { method := m, pc := pc + 4, locals := ls, stack := .ref T.heap.size :: .ref T.heap.size :: rest, locked := none }) rfl hsize rfl rfl (rest := rest) rfl
    (by rw [hb]; exact d4) (by rw [hb]; exact d7) hout hRframes (by simp only [List.map_cons, List.sum_cons, hcat]; omega) hlocks
  obtain ⟨f1, f2⟩ := vx_frame hsame
  rw [hhp] at f1 f2
  have hWs : s.WarmedH U.vm := State.WarmedH.trans hW0 hW
  have hcl : s.vm.findClass cls = some ce.cls := by
    have h9 := hO.cls
    rw [hvm] at h9
    exact h9
  have hall : s.sameButNew ({ U with vm := s.vm } : State) locs mc ms := by
    subst hA
    obtain ⟨e1, e2⟩ := hsame
    rw [State.setFrames_setFrames] at e1
    have h2 : (T.setVm s.vm).sameButNew ({ U with vm := s.vm } : State) [] (0 + 1) (0 + 6) := ⟨e1, e2⟩
    have h3 := X.same.trans h2
    rw [List.append_nil] at h3
    exact h3.mono hc hs
  refine ⟨U, ?_, .threw T.heap.size, hrun, hend, Or.inr ⟨T.heap.size, rfl, cls, ce, locs, hx U hWs.alike f1 (fun q hq => f2 q hq (fun z hz => nomatch hz)), hce, hO.vm, hcl, hWs, hall, hf⟩⟩
  refine st1 _ ?_
  show Steps p.tables e below (T1.setTop { method := m, pc := pc + 3, locals := ls, stack := .ref T.heap.size :: rest, locked := none }) _
  jvm_step X₁.here [X₁.here.top, hexec, d3', Value.category]
  exact hsteps
/-- 'throw new E("text")': new; dup; ldc; invokespecial; athrow -/
theorem vx_throwS {cc : ByteArray} {pc : Nat} (hexec : p.tables.exec = Jvm.exec) (hb : c.code = cc) (hl : l.stackTraces = false) {own cls text : String} {names : List String} {ik is ic mc ms sa : Nat} {A : Nat → Prop}
    (hown : s.vm.findClass own = some m.cls) (hcls : Bundle.fit cls = true) (hnames : ∀ n ∈ names, Bundle.fit n = true)
    (hk : (Cond.classLink own ik cls).before args s = true) (hini : (Cond.initialized cls).before args s = true) (hstr : vk_R own is text sa s) (hat : ∀ w ∈ vx_atS own ic cls names, w.before args s = true)
    (hgood : ∀ w ∈ Cond.classLink own ik cls :: Cond.initialized cls :: vx_atS own ic cls names, vx_ot w = true)
    (hU : vx_Zq Bundle.tN "UNASSIGNED_STACK" Bundle.steD A s s.heap) (hN : vx_Zq Bundle.tN "SUPPRESSED_SENTINEL" Bundle.listD A s s.heap) (hS : va_S A s.heap H locs) (hsize : ls.size = c.maxLocals)
    (d0 : decode cc pc = .ok (.new ik, 3)) (d3 : decode cc (pc + 3) = .ok (.dup, 1)) (d4 : decode cc (pc + 4) = .ok (.ldc is, 2)) (d6 : decode cc (pc + 6) = .ok (.invokespecial ic, 3)) (d9 : decode cc (pc + 9) = .ok (.athrow, 1))
    (hout : ∀ x ∈ c.exceptionTable.toList, covers x (pc + 9) = false)
    (hRframes : names.length + 3 < R.frames) (hRlocals : (rest.map fun v => v.category).sum + (13 * (names.length + 1) + 43) ≤ R.locals) (hRcells : cells + 1 ≤ R.cells) (hRslots : slots + 6 ≤ R.slots) (hlocks : meth.locks = false)
    (hx : ∀ t : State, s.vm.Alike t.vm → H.size ≤ t.heap.size → (∀ q : Nat, q < H.size → t.heap[q]? = H[q]?) → XC cls s t)
    (hf : ∀ z ∈ locs, free z.base) (hc : cells + 1 ≤ mc) (hs : slots + 6 ≤ ms) :
    W p l e R s m args below meth c H locs cells slots (vx_MQ below Qc XC args s mc ms free) (F0 m pc ls rest) := by
  intro T hT X
  have htr : e.platform.stackTraces = false := (show e.platform.stackTraces = l.stackTraces by rw [X.admits.platform]).trans hl
  have Y := vx_rebase X (R' := { frames := R.frames, locals := R.locals, cells := 1, slots := 6 }) (Nat.le_refl _) (Nat.le_refl _) hRcells hRslots
  obtain ⟨s', hA⟩ : ∃ z, z = (T.setVm s.vm).setFrames (.invoking m args :: below) := ⟨_, rfl⟩
  rw [← hA] at Y
  have hvm : s'.vm = s.vm := by rw [hA]; rfl
  have hhp : s'.heap = H := by rw [hA]; exact hT
  have hW0 : s.WarmedH s'.vm := by rw [hvm]; exact State.WarmedH.refl s
  have hat' : ∀ w ∈ vx_atS own ic cls names, w.before args s' = true := fun w hw => vx_ot_at hW0 hvm.symm (hgood w (List.mem_cons_of_mem _ (List.mem_cons_of_mem _ hw))) (hat w hw)
  have hk' : (Cond.classLink own ik cls).before args s' = true := vx_ot_at hW0 hvm.symm (hgood _ List.mem_cons_self) hk
  have hini' : (Cond.initialized cls).before args s' = true := vx_ot_at hW0 hvm.symm (hgood _ (List.mem_cons_of_mem _ List.mem_cons_self)) hini
  have hU' : vx_Zq Bundle.tN "UNASSIGNED_STACK" Bundle.steD A s' s'.heap := by rw [hhp]; exact vx_Zq.moved hW0.alike (hU.kept hS.2.1)
  have hN' : vx_Zq Bundle.tN "SUPPRESSED_SENTINEL" Bundle.listD A s' s'.heap := by rw [hhp]; exact vx_Zq.moved hW0.alike (hN.kept hS.2.1)
  have h : ∀ w ∈ Bundle.ownAtoms own ic cls names, w.before args s' = true := vx_own hat' (vx_isRefq hU'.1) (vx_isRefq hN'.1) hU'.2.word hN'.2.word
  have hown' : s'.vm.findClass own = some m.cls := by rw [hvm]; exact hown
  have hins : (Cond.instantiable cls 6).before args s' = true := h _ (by simp [Bundle.ownAtoms])
  obtain ⟨vm₁, cX, kX, hfX, hkX, -, -, X₁, st1⟩ := Y.newCold hexec (own := own) (C := cls) (index := ik) (n := 6) hown' hk' hins hini'
    (g := F0 m pc ls rest) rfl (by rw [hb]; exact d0) (Nat.le_refl _) (Nat.le_refl _)
  generalize hT1 : (T.setVm vm₁).pushCell { cls := cX, slots := kX.instanceTypes.map defaultValue, vm := .none } = T1 at X₁ st1
  have hcat : (Value.ref T.heap.size).category = 1 := rfl
  have hcellA : T1.heap[T.heap.size]? = some (freshCell cX kX) := by rw [← hT1]; exact State.heap_pushCell_size _ _
  have d3' : decode c.code (pc + 3) = .ok (.dup, 1) := by rw [hb]; exact d3
  have d4' : decode c.code (pc + 4) = .ok (.ldc is, 2) := by rw [hb]; exact d4
  have hstr' : vk_R own is text sa s' := vk_R.warm hW0 hstr
  obtain ⟨U, hsteps, hrun, hend, hW, hsame, ce, hce, hO⟩ := X₁.ctorThrowS hexec htr (own := own) (cls := cls) (names := names) (ic := ic) hown' hcls hnames h (fun x hx => nomatch hx) hfX hkX hcellA (by rw [hhp, hT]; exact Nat.le_refl _) (msg := .ref sa) rfl
    (g := { method := m, pc := pc + 6, locals := ls, stack := .ref sa :: .ref T.heap.size :: .ref T.heap.size :: rest, locked := none }) rfl hsize rfl rfl (rest := rest) rfl
    (by rw [hb]; exact d6) (by rw [hb]; exact d9) hout hRframes (by simp only [List.map_cons, List.sum_cons, hcat]; omega) hlocks
  obtain ⟨f1, f2⟩ := vx_frame hsame
  rw [hhp] at f1 f2
  have hWs : s.WarmedH U.vm := State.WarmedH.trans hW0 hW
  have hcl : s.vm.findClass cls = some ce.cls := by
    have h9 := hO.cls
    rw [hvm] at h9
    exact h9
  have hall : s.sameButNew ({ U with vm := s.vm } : State) locs mc ms := by
    subst hA
    obtain ⟨e1, e2⟩ := hsame
    rw [State.setFrames_setFrames] at e1
    have h2 : (T.setVm s.vm).sameButNew ({ U with vm := s.vm } : State) [] (0 + 1) (0 + 6) := ⟨e1, e2⟩
    have h3 := X.same.trans h2
    rw [List.append_nil] at h3
    exact h3.mono hc hs
  refine ⟨U, ?_, .threw T.heap.size, hrun, hend, Or.inr ⟨T.heap.size, rfl, cls, ce, locs, hx U hWs.alike f1 (fun q hq => f2 q hq (fun z hz => nomatch hz)), hce, hO.vm, hcl, hWs, hall, hf⟩⟩
  refine st1 _ ?_
  show Steps p.tables e below (T1.setTop { method := m, pc := pc + 3, locals := ls, stack := .ref T.heap.size :: rest, locked := none }) _
  jvm_step X₁.here [X₁.here.top, hexec, d3', Value.category]
  exact X₁.ldcString hexec (own := own) (text := text) (index := is) (a := sa) hown' hstr'.1 hstr'.2
    (g := { method := m, pc := pc + 4, locals := ls, stack := .ref T.heap.size :: .ref T.heap.size :: rest, locked := none }) rfl d4' _ hsteps
/-- 'throw new E("text")', the text by a wide index -/
theorem vx_throwSW {cc : ByteArray} {pc : Nat} (hexec : p.tables.exec = Jvm.exec) (hb : c.code = cc) (hl : l.stackTraces = false) {own cls text : String} {names : List String} {ik is ic mc ms sa : Nat} {A : Nat → Prop}
    (hown : s.vm.findClass own = some m.cls) (hcls : Bundle.fit cls = true) (hnames : ∀ n ∈ names, Bundle.fit n = true)
    (hk : (Cond.classLink own ik cls).before args s = true) (hini : (Cond.initialized cls).before args s = true) (hstr : vk_R own is text sa s) (hat : ∀ w ∈ vx_atS own ic cls names, w.before args s = true)
    (hgood : ∀ w ∈ Cond.classLink own ik cls :: Cond.initialized cls :: vx_atS own ic cls names, vx_ot w = true)
    (hU : vx_Zq Bundle.tN "UNASSIGNED_STACK" Bundle.steD A s s.heap) (hN : vx_Zq Bundle.tN "SUPPRESSED_SENTINEL" Bundle.listD A s s.heap) (hS : va_S A s.heap H locs) (hsize : ls.size = c.maxLocals)
    (d0 : decode cc pc = .ok (.new ik, 3)) (d3 : decode cc (pc + 3) = .ok (.dup, 1)) (d4 : decode cc (pc + 4) = .ok (.ldc_w is, 3)) (d7 : decode cc (pc + 7) = .ok (.invokespecial ic, 3)) (d10 : decode cc (pc + 10) = .ok (.athrow, 1))
    (hout : ∀ x ∈ c.exceptionTable.toList, covers x (pc + 10) = false)
    (hRframes : names.length + 3 < R.frames) (hRlocals : (rest.map fun v => v.category).sum + (13 * (names.length + 1) + 43) ≤ R.locals) (hRcells : cells + 1 ≤ R.cells) (hRslots : slots + 6 ≤ R.slots) (hlocks : meth.locks = false)
    (hx : ∀ t : State, s.vm.Alike t.vm → H.size ≤ t.heap.size → (∀ q : Nat, q < H.size → t.heap[q]? = H[q]?) → XC cls s t)
    (hf : ∀ z ∈ locs, free z.base) (hc : cells + 1 ≤ mc) (hs : slots + 6 ≤ ms) :
    W p l e R s m args below meth c H locs cells slots (vx_MQ below Qc XC args s mc ms free) (F0 m pc ls rest) := by
  intro T hT X
  have htr : e.platform.stackTraces = false := (show e.platform.stackTraces = l.stackTraces by rw [X.admits.platform]).trans hl
  have Y := vx_rebase X (R' := { frames := R.frames, locals := R.locals, cells := 1, slots := 6 }) (Nat.le_refl _) (Nat.le_refl _) hRcells hRslots
  obtain ⟨s', hA⟩ : ∃ z, z = (T.setVm s.vm).setFrames (.invoking m args :: below) := ⟨_, rfl⟩
  rw [← hA] at Y
  have hvm : s'.vm = s.vm := by rw [hA]; rfl
  have hhp : s'.heap = H := by rw [hA]; exact hT
  have hW0 : s.WarmedH s'.vm := by rw [hvm]; exact State.WarmedH.refl s
  have hat' : ∀ w ∈ vx_atS own ic cls names, w.before args s' = true := fun w hw => vx_ot_at hW0 hvm.symm (hgood w (List.mem_cons_of_mem _ (List.mem_cons_of_mem _ hw))) (hat w hw)
  have hk' : (Cond.classLink own ik cls).before args s' = true := vx_ot_at hW0 hvm.symm (hgood _ List.mem_cons_self) hk
  have hini' : (Cond.initialized cls).before args s' = true := vx_ot_at hW0 hvm.symm (hgood _ (List.mem_cons_of_mem _ List.mem_cons_self)) hini
  have hU' : vx_Zq Bundle.tN "UNASSIGNED_STACK" Bundle.steD A s' s'.heap := by rw [hhp]; exact vx_Zq.moved hW0.alike (hU.kept hS.2.1)
  have hN' : vx_Zq Bundle.tN "SUPPRESSED_SENTINEL" Bundle.listD A s' s'.heap := by rw [hhp]; exact vx_Zq.moved hW0.alike (hN.kept hS.2.1)
  have h : ∀ w ∈ Bundle.ownAtoms own ic cls names, w.before args s' = true := vx_own hat' (vx_isRefq hU'.1) (vx_isRefq hN'.1) hU'.2.word hN'.2.word
  have hown' : s'.vm.findClass own = some m.cls := by rw [hvm]; exact hown
  have hins : (Cond.instantiable cls 6).before args s' = true := h _ (by simp [Bundle.ownAtoms])
  obtain ⟨vm₁, cX, kX, hfX, hkX, -, -, X₁, st1⟩ := Y.newCold hexec (own := own) (C := cls) (index := ik) (n := 6) hown' hk' hins hini'
    (g := F0 m pc ls rest) rfl (by rw [hb]; exact d0) (Nat.le_refl _) (Nat.le_refl _)
  generalize hT1 : (T.setVm vm₁).pushCell { cls := cX, slots := kX.instanceTypes.map defaultValue, vm := .none } = T1 at X₁ st1
  have hcat : (Value.ref T.heap.size).category = 1 := rfl
  have hcellA : T1.heap[T.heap.size]? = some (freshCell cX kX) := by rw [← hT1]; exact State.heap_pushCell_size _ _
  have d3' : decode c.code (pc + 3) = .ok (.dup, 1) := by rw [hb]; exact d3
  have d4' : decode c.code (pc + 4) = .ok (.ldc_w is, 3) := by rw [hb]; exact d4
  have hstr' : vk_R own is text sa s' := vk_R.warm hW0 hstr
  obtain ⟨U, hsteps, hrun, hend, hW, hsame, ce, hce, hO⟩ := X₁.ctorThrowS hexec htr (own := own) (cls := cls) (names := names) (ic := ic) hown' hcls hnames h (fun x hx => nomatch hx) hfX hkX hcellA (by rw [hhp, hT]; exact Nat.le_refl _) (msg := .ref sa) rfl
    (g := { method := m, pc := pc + 7, locals := ls, stack := .ref sa :: .ref T.heap.size :: .ref T.heap.size :: rest, locked := none }) rfl hsize rfl rfl (rest := rest) rfl
    (by rw [hb]; exact d7) (by rw [hb]; exact d10) hout hRframes (by simp only [List.map_cons, List.sum_cons, hcat]; omega) hlocks
  obtain ⟨f1, f2⟩ := vx_frame hsame
  rw [hhp] at f1 f2
  have hWs : s.WarmedH U.vm := State.WarmedH.trans hW0 hW
  have hcl : s.vm.findClass cls = some ce.cls := by
    have h9 := hO.cls
    rw [hvm] at h9
    exact h9
  have hall : s.sameButNew ({ U with vm := s.vm } : State) locs mc ms := by
    subst hA
    obtain ⟨e1, e2⟩ := hsame
    rw [State.setFrames_setFrames] at e1
    have h2 : (T.setVm s.vm).sameButNew ({ U with vm := s.vm } : State) [] (0 + 1) (0 + 6) := ⟨e1, e2⟩
    have h3 := X.same.trans h2
    rw [List.append_nil] at h3
    exact h3.mono hc hs
  refine ⟨U, ?_, .threw T.heap.size, hrun, hend, Or.inr ⟨T.heap.size, rfl, cls, ce, locs, hx U hWs.alike f1 (fun q hq => f2 q hq (fun z hz => nomatch hz)), hce, hO.vm, hcl, hWs, hall, hf⟩⟩
  refine st1 _ ?_
  show Steps p.tables e below (T1.setTop { method := m, pc := pc + 3, locals := ls, stack := .ref T.heap.size :: rest, locked := none }) _
  jvm_step X₁.here [X₁.here.top, hexec, d3', Value.category]
  exact X₁.ldcStringW hexec (own := own) (text := text) (index := is) (a := sa) hown' hstr'.1 hstr'.2
    (g := { method := m, pc := pc + 4, locals := ls, stack := .ref T.heap.size :: .ref T.heap.size :: rest, locked := none }) rfl d4' _ hsteps
end Ends
section Bodies
variable {l : Launch}
theorem vx_ofW {y : MethodName} {ws ws' : List Cond} {rm : Room} {Pc : Array Value → State → Prop} {Qc : Array Value → State → Outcome → State → Prop} {XC : String → State → State → Prop} {mc ms : Nat} {free : Addr → Prop} {cc : ByteArray} {maxL : Nat} {ret : Option FieldType}
    (hy : plainName y.cls = true) (hw : ws = Cond.code y cc maxL ret :: ws')
    (body : ∀ p e s m args below meth c s₁, BodyLoose p l y (headSpec ws rm) cc maxL ret e s m args below meth c s₁ → c.maxLocals = maxL → (∀ x ∈ c.exceptionTable.toList, False) → Pc args s →
      W p l e (headSpec ws rm).room s m args below meth c s.heap [] 0 0 (vx_MQ below Qc XC args s mc ms free) (entryFrame m args maxL)) : vx_Met l y ws rm Pc Qc XC mc ms free := by
  refine MetFree.of_bodyS (code := cc) (maxLocals := maxL) (ret := ret) hy ?_ ?_
  · intro args s m h hn
    obtain ⟨meth, c, h1, h2, h3, h4, h5, h6, -, -⟩ := Cond.code_spec hn (atoms_spec (ws := ws) h _ (by rw [hw]; exact List.mem_cons_self))
    exact ⟨meth, c, h1, h2, h3, h4, h5, h6⟩
  · intro p e s m args below meth c s₁ B hml hP _
    have hh0 : s₁.heap = s.heap := by rw [B.state]; rfl
    have ht : ∀ x ∈ c.exceptionTable.toList, False := by
      obtain ⟨meth9, c9, h1, h2, -, -, -, -, h7, -⟩ := Cond.code_spec B.named (atoms_spec (ws := ws) B.pre _ (by rw [hw]; exact List.mem_cons_self))
      cases Option.some.inj (h1.symm.trans B.method)
      cases Option.some.inj (h2.symm.trans (Stand.of_body B).code)
      intro x hx
      rw [Array.isEmpty_iff.mp h7] at hx
      cases hx
    obtain ⟨t, a1, o, b1, b2, b3⟩ := body p e s m args below meth c s₁ B hml ht hP s₁ hh0 (Stand.of_body B)
    exact ⟨t, o, a1, b1, b2, b3⟩
/-- the table of a body with handlers -/
theorem vx_table {p : Program} {x y : MethodName} {S : Spec} {cc bytes : ByteArray} {maxL maxL' : Nat} {ret ret' : Option FieldType} {e : Env} {s s₁ : State} {m : MethodId} {args : Array Value} {below : List Frame} {meth : Method} {c : Code} {hh : List (Nat × Nat × Nat × Nat)}
    (B : BodyLoose p l y S cc maxL ret e s m args below meth c s₁) (h : (Cond.codeWith y bytes maxL' ret' hh).before args s = true) : c.exceptionTable.toList = tableOf hh := by
  obtain ⟨m9, meth9, c9, hn9, h1, h2, -, -, h6, -⟩ := Cond.codeWith_spec h
  cases Option.some.inj (hn9.symm.trans B.named)
  cases Option.some.inj (h1.symm.trans B.method)
  cases Option.some.inj (h2.symm.trans (Stand.of_body B).code)
  rw [← h6, table_eq]
end Bodies
end VXA
/-! ===== END ===== -/
/-! ===== BEGIN a static call of a method with an exception table ===== -/
section VXS
variable {p : Program} {l : Launch} {e : Env} {R : Room} {s : State} {m : MethodId} {args : Array Value} {below : List Frame} {meth : Method} {c : Code} {T : State} {H : Heap} {locs : List Loc} {cells slots : Nat}
abbrev vx_CSW (R : Room) (s : State) (args : Array Value) (own : String) (index : Nat) (y : MethodName) (bytes : ByteArray) (maxL : Nat) (ret : Option FieldType) (hh : List (Nat × Nat × Nat × Nat)) (ws : List Cond) (rm : Room) (mc ms n : Nat) : Prop :=
  (rm.cells = mc ∧ rm.slots = ms ∧ rm.frames + 1 ≤ R.frames ∧ 8 + (maxL + 11) + rm.locals ≤ R.locals ∧ (∀ w ∈ ws, ∀ (a' : Array Value) (U : State), s.WarmedH U.vm → w.before a' U = true) ∧ Cond.codeWith y bytes maxL ret hh ∈ ws) ∧
  (Cond.codeWith y bytes maxL ret hh).before args s = true ∧ (Cond.initialized y.cls).before args s = true ∧ (y.cls ≠ "java/lang/invoke/MethodHandle" ∧ y.cls ≠ "java/lang/invoke/VarHandle") ∧
  (∀ sig, parseMethodDescriptor y.desc = some sig → n = sig.parameters.length) ∧ (Cond.methodLink own index y).before args s = true ∧ (Cond.static y).before args s = true
theorem vx_cwSW {own : String} {index maxL mc ms : Nat} {y : MethodName} {bytes : ByteArray} {ret : Option FieldType} {hh : List (Nat × Nat × Nat × Nat)} {Ts ws ws' : List Cond} {rm : Room} (n : Nat) (ht : ∀ w ∈ Ts, w.before args s = true) (hT : GoodIn Ts (va_wsS own index y ws)) (hw : ws = Cond.codeWith y bytes maxL ret hh :: ws') (hrc : rm.cells = mc) (hrs : rm.slots = ms)
    (hd : y.cls ≠ "java/lang/invoke/MethodHandle" ∧ y.cls ≠ "java/lang/invoke/VarHandle" ∧ (parseMethodDescriptor y.desc).map (fun d => d.parameters.length) = some n) (hR : rm.frames + 1 ≤ R.frames ∧ 8 + (maxL + 11) + rm.locals ≤ R.locals) :
    vx_CSW R s args own index y bytes maxL ret hh ws rm mc ms n := by
  have ok : ∀ w ∈ va_wsS own index y ws, w.before args s = true := fun w h => ht w (hT w h).1
  have hG : GoodIn Ts ws := fun w h => hT w (by unfold va_wsS; exact List.mem_append_right _ h)
  have hc : Cond.codeWith y bytes maxL ret hh ∈ ws := by rw [hw]; exact List.mem_cons_self
  refine ⟨⟨hrc, hrs, hR.1, hR.2, pay_in ht hG, hc⟩, ht _ (hG _ hc).1, ok _ (by simp [va_wsS]), ⟨hd.1, hd.2.1⟩, fun sig h => ?_, ok _ (by simp [va_wsS]), ok _ (by simp [va_wsS])⟩
  have h2 := hd.2.2
  rw [h] at h2
  exact (Option.some.inj h2).symm
theorem vx_callSW (X : Stand p l e R s m args below meth c T locs cells slots) (hexec : p.tables.exec = Jvm.exec) {own : String} {index : Nat} {y : MethodName} {bytes : ByteArray} {maxL : Nat} {ret : Option FieldType} {hh : List (Nat × Nat × Nat × Nat)}
    (hown : s.vm.findClass own = some m.cls) (hlink : (Cond.methodLink own index y).before args s = true) (hstat : (Cond.static y).before args s = true) (hinit : (Cond.initialized y.cls).before args s = true)
    (hcode : (Cond.codeWith y bytes maxL ret hh).before args s = true) (hy : y.cls ≠ "java/lang/invoke/MethodHandle" ∧ y.cls ≠ "java/lang/invoke/VarHandle")
    {W9 : Nat} {Pre : Pt → Array Value → Prop} {Post : Pt → Array Value → Option Value → Pt → Prop} (hK : Back l R p e below s args y 3 W9 Pre Post)
    {g : JFrame} (hg : g.method = m) (hsize : g.locals.size = c.maxLocals) {argsL rest : List Value} (hlen : ∀ sig, parseMethodDescriptor y.desc = some sig → argsL.length = sig.parameters.length)
    (hstack : g.stack = argsL.reverse ++ rest) (hW : 2 * g.monitorRoom + (rest.map fun v => v.category).sum ≤ W9) (hdg : decode c.code g.pc = .ok (.invokestatic index, 3))
    (hpre : ∀ vm₁, s.WarmedH vm₁ → Pre ⟨T.setVm vm₁, locs, cells, slots⟩ argsL.toArray) :
    ∃ (v : Option Value) (vm₁ : Vm) (B : Pt), s.WarmedH vm₁ ∧ Stand p l e R s m args below meth c B.U B.locs B.cells B.slots ∧ Post ⟨T.setVm vm₁, locs, cells, slots⟩ argsL.toArray v B ∧
      ∀ target, Steps p.tables e below (B.U.setTop { g with pc := g.pc + 3, stack := v.toList ++ rest }) target → Steps p.tables e below (T.setTop g) target := by
  obtain ⟨mk, methM, cM, hnamed, hmethM, -, -, -, -, -, -, hsigM⟩ := Cond.codeWith_spec hcode
  have hstatic : methM.isStatic = true := Cond.static_spec hnamed hmethM hstat
  obtain ⟨kP, hkP, -⟩ := className_of_methodNamed hnamed
  have hinitP : kP.init = .initialized := Cond.initialized_spec (findClass_of_methodNamed hnamed) hkP hinit
  obtain ⟨vm₁, X₁, hstep₁⟩ := X.invokestatic hexec hown hlink hnamed hmethM hstatic hkP hinitP hy (g := g) hg (argsL := argsL) (rest := rest) (hlen _ hsigM) hstack hdg
  obtain ⟨v, B, X', hpost, hsteps⟩ := hK m meth c ⟨T.setVm vm₁, locs, cells, slots⟩ { g with stack := rest } (.invokestatic index) mk argsL.toArray X₁ hg hsize hdg hW (X₁.named hnamed) (hpre vm₁ X₁.warmed)
  exact ⟨v, vm₁, B, X₁.warmed, X', hpost, fun target h => hstep₁ _ fun acts => by rw [doInvoke_state]; exact hsteps.trans h⟩
theorem vx_runSW {y : MethodName} {bytes cc : ByteArray} {maxL nL mc ms n index : Nat} {ret : Option FieldType} {hh : List (Nat × Nat × Nat × Nat)} {ws : List Cond} {rm : Room} {Pc : Array Value → State → Prop} {Qc : Array Value → State → Outcome → State → Prop} {free : Addr → Prop} {Ts : List Cond} {own : String} {As rest : List Value} {g : JFrame}
    (S : CallFix p m c cc nL s args Ts own) (hM : Met l y ws rm Pc Qc mc ms free) (cw : vx_CSW R s args own index y bytes maxL ret hh ws rm mc ms n) (hp : PreS s H Pc As)
    (hg : g.method = m) (hn : As.length = n) (hsize : g.locals.size = nL) (hstack : g.stack = As.reverse ++ rest) (hW : 2 * g.monitorRoom + (rest.map fun v => v.category).sum ≤ 8) (hdg : decode cc g.pc = .ok (.invokestatic index, 3)) (hf : cells + mc ≤ R.cells ∧ slots + ms ≤ R.slots) :
    va_Run p l e R s m args below meth c H locs cells slots mc ms g rest (Qc As.toArray) (free) := by
  obtain ⟨⟨hrc, hrs, hfr, hlo, hws, hcw⟩, hcode, hini, hy, hlen, hl, hstt⟩ := cw
  have hK : Back l R p e below s args y 3 8 (PreOf R mc ms Pc) (PostOf Qc mc ms free) := va_backW (hh := hh) (bytes := bytes) (maxL := maxL) (ret := ret) hM hp.1 hrc hrs hfr hlo hws hcw (fun a' U hW => word_at hW (Or.inl (by first | rfl | simp [Cond.onTables, Cond.keeps, Cond.steady])) hini)
  obtain ⟨hx, hb, hml, ho, -⟩ := S
  intro T hT X
  obtain ⟨v, vm₁, ⟨U', l2, c2, s2⟩, hW₁, X', ⟨g', mk, t, L, e1, e2, hq, h1, hL, h2, h3⟩, st⟩ := vx_callSW X hx (hh := hh) (bytes := bytes) (maxL := maxL) (ret := ret) ho hl hstt hini hcode hy hK hg (hsize.trans hml.symm) (argsL := As) (rest := rest) (fun sig h => hn.trans (hlen sig h)) hstack hW (by rw [hb]; exact hdg)
    (fun vm₁ hW₁ => ⟨hf.1, hf.2, hp.2 (T.setVm vm₁) hT hW₁⟩)
  dsimp only [Pt.U, Pt.locs, Pt.cells, Pt.slots] at X' e1 e2 h1 h2 h3 st
  subst h1; subst h2; subst h3
  exact ⟨v, (T.setVm vm₁).calling g' mk As.toArray, t, U', L, hT, X', hL, e1, e2, hq, st⟩
/-- not caught here, past rows that name other classes: it goes on to the caller -/
theorem vx_outP {p : Program} {l : Launch} {e : Env} {R : Room} {s : State} {m : MethodId} {args : Array Value} {below : List Frame} {meth : Method} {c : Code} {H : Heap} {locs : List Loc} {cells slots : Nat} {free : Addr → Prop} {ls : Array Slot} {rest : List Value} {Qc : Array Value → State → Outcome → State → Prop} {XC : String → State → State → Prop}
    {pc : Nat} {own E : String} {ce : Cell} {q : Addr} {mc ms : Nat} (hown : s.vm.findClass own = some m.cls) (hlocks : meth.locks = false)
    (hpass : ∀ z ∈ c.exceptionTable.toList, covers z pc = false ∨ (z.catchType ≠ 0 ∧ ∃ nm : String, (Cond.classLink own z.catchType nm).before args s = true ∧ va_Nc E nm s)) (hcell : H[q]? = some ce) (hv : ce.vm = .none) (hcl : s.vm.findClass E = some ce.cls)
    (hx : ∀ t : State, t.heap = H → s.vm.Alike t.vm → XC E s t) (hf : ∀ z ∈ locs, free z.base) (hc : cells ≤ mc) (hs : slots ≤ ms) :
    vx_W p l e R s m args below meth c H locs cells slots (vx_MQ below Qc XC args s mc ms free) (F0 m pc ls rest) q := by
  intro T hT X
  have hpl : e.platform.magicAccessors = ({} : Platform).magicAccessors := by rw [X.admits.platform]
  obtain ⟨vm', hW', X', st⟩ := X.outThrough hlocks q (g := F0 m pc ls rest) rfl rfl rfl (cell := ce) (by rw [hT]; exact hcell) (by rw [hv]; rfl)
    (by obtain ⟨k9, h9, -⟩ := Vm.findClass_spec hcl; exact ⟨k9, h9⟩) (fun z hz => by
      rcases hpass z hz with h | ⟨hz0, nm, hl1, hn1⟩
      · exact Or.inl h
      · obtain ⟨c6, hc6, hcl6⟩ := Cond.classLink_spec hown hl1 e.platform hpl
        obtain ⟨a8, b8, h1, h2, h3⟩ := hn1
        cases Option.some.inj (h1.symm.trans hcl)
        cases Option.some.inj (h2.symm.trans hc6)
        exact Or.inr ⟨hz0, _, hcl6, h3⟩)
  obtain ⟨g₀, hfr⟩ := X'.frames_eq
  have hcell9 : ((T.setVm vm').setFrames (.throwing q :: below)).heap[q]? = some ce := by
    show T.heap[q]? = some ce
    rw [hT]; exact hcell
  have hend : Ended ((T.setVm vm').setFrames (.throwing q :: below)) below (.threw q) := State.frames_setFrames _ (State.cur_lt_of_frames hfr)
  refine ⟨(T.setVm vm').setFrames (.throwing q :: below), ?_, .threw q, X'.here.running, hend, Or.inr ⟨q, rfl, E, ce, locs, hx _ hT (X'.ends _).1.alike, hcell9, hv, hcl, (X'.ends _).1, (X'.ends _).2.mono hc hs, hf⟩⟩
  rw [X.pushThrowing_eq]
  exact st
/-- a thing of a world lies in the heap -/
theorem vx_lt {D : va_G} {cl : List vw_C} {ws : va_W} {H1 : Heap} (h : va_P D cl ws H1) {k : Nat} {q : Nat × va_E} (hk : ws[k]? = some q) : q.1 < H1.size := (h k q hk).lt
end VXS
/-! ===== END ===== -/
/-! ===== BEGIN methods with a table of their own: called by a name, returning or throwing ===== -/
section VXH
/-! vx_backW, vx_callVX, vx_callSX, vx_callVW, vx_runVW, vx_runVX, vx_runSX, vx_ofWH follow the same proofs as their sisters above (Free/Laws.lean, Shelf42/LK1.lean); vx_outP calls Shelf42/NT130.lean (outThrough). -/
section
variable {l : Launch} {R : Room} {p : Program} {e : Env} {below : List Frame} {s : State} {sargs : Array Value} {y : MethodName} {len W9 : Nat}
theorem vx_backW {ws : List Cond} {rm : Room} {Pc : Array Value → State → Prop} {Qc : Array Value → State → Outcome → State → Prop} {XC : String → State → State → Prop} {mc ms : Nat} {free : Addr → Prop} {bytes : ByteArray} {maxL : Nat} {ret : Option FieldType} {hh : List (Nat × Nat × Nat × Nat)}
    (hM : vx_Met l y ws rm Pc Qc XC mc ms free) (hblind : FrameBlind Pc) (hrc : rm.cells = mc) (hrs : rm.slots = ms)
    (hframes : rm.frames + 1 ≤ R.frames) (hlocals : W9 + (maxL + 11) + rm.locals ≤ R.locals)
    (hws : ∀ w ∈ ws, ∀ a' U, s.WarmedH U.vm → w.before a' U = true) (hcode : Cond.codeWith y bytes maxL ret hh ∈ ws) (hinit : ∀ a' U, s.WarmedH U.vm → (Cond.initialized y.cls).before a' U = true) :
    vx_Back l R p e below s sargs y len W9 (PreOf R mc ms Pc) (PostOf Qc mc ms free) (vx_Post XC mc ms free) := by
  intro m meth c A g ig mk a X hg hsize hdg hW hn hp
  have h1 : (headSpec ws rm).pre.before a A.U = true := atoms_intro fun w hw => hws w hw _ _ X.warmed
  have h2 : (Cond.codeWith y bytes maxL ret hh).before a A.U = true := hws _ hcode _ _ X.warmed
  have h3 : (Cond.initialized y.cls).before a A.U = true := hinit _ _ X.warmed
  have h4 : A.cells + (headSpec ws rm).room.cells ≤ R.cells := by rw [show (headSpec ws rm).room.cells = mc from hrc]; exact hp.1
  have h5 : A.slots + (headSpec ws rm).room.slots ≤ R.slots := by rw [show (headSpec ws rm).room.slots = ms from hrs]; exact hp.2.1
  have hPc : Pc a (A.U.calling g mk a) := hblind _ _ _ _ hp.2.2
  obtain ⟨U, Ls, c0, s0⟩ := A
  dsimp only [Pt.U, Pt.locs, Pt.cells, Pt.slots] at h1 h2 h3 h4 h5 X hn hPc ⊢
  obtain ⟨m9, methY, cY, hn9, hmY, hcY, -, hlY, -⟩ := Cond.codeWith_spec h2
  cases Option.some.inj (hn9.symm.trans hn)
  obtain ⟨kY, hkY, -⟩ := className_of_methodNamed hn
  have hinitY : kY.init = .initialized := Cond.initialized_spec (findClass_of_methodNamed hn) hkY h3
  have h : At U g.method c below := by rw [hg]; exact X.here
  have hlocals9 : W9 + (maxL + 11) + (headSpec ws rm).room.locals ≤ R.locals := hlocals
  have happ : (headSpec ws rm).appliesLoose y e.platform (U.calling g mk a) = true :=
    Spec.appliesLoose_calling (g := g) h hdg hn hkY hinitY
      (X.room_calling (g := g) (R' := (headSpec ws rm).room) hsize hmY hcY hframes (by rw [hlY]; omega) h4 h5) h1
  obtain ⟨mid, hmid⟩ := h.above
  have hfr : (U.setTop g).frames = (.java g :: mid) ++ below := by rw [State.frames_setTop' g h.top, hmid]; rfl
  obtain ⟨o, s₂, hsteps, -, hend, hq⟩ := Steps.callFree hM p X.admits X.cas X.clock (acts := []) hfr happ hPc trivial
  have hq' : vx_Q Qc XC mc ms free a (U.calling g mk a) o s₂ := hq
  rw [State.frames_setTop' g h.top] at hend
  obtain ⟨g₀, hg0⟩ := Option.isSome_iff_exists.mp h.top
  obtain ⟨r, hr⟩ := State.topJava?_eq_some.mp hg0
  have hr' : (({ U with heap := s₂.heap, slotsUsed := s₂.slotsUsed } : State).setVm s₂.vm).frames = .java g₀ :: r := hr
  rcases hq' with ⟨hqc, L, hfe, hL⟩ | ⟨q, rfl, E, ce, L, hx, hce, hcv, hcl, hW₂, hsm, hL⟩
  · obtain ⟨⟨v, rfl⟩, hW₂, e2, q2, q3, q4, q5, q6⟩ := id hfe
    have e3 : s₂ = ({ (U.calling g mk a).setFrames s₂.frames with heap := s₂.heap, slotsUsed := s₂.slotsUsed } : State).setVm s₂.vm := by
      have : s₂ = ({ s₂ with vm := (U.calling g mk a).vm } : State).setVm s₂.vm := rfl
      rw [e2] at this
      exact this
    obtain ⟨c₂, i₂, len₂, hc₂, hd₂, hf₂⟩ := hend
    have hW' : U.WarmedH s₂.vm := hW₂
    have hcc : c₂ = c := by
      have h1 : s₂.code? g.method = U.code? g.method := by
        rw [State.code?_eq, State.code?_eq, hW'.alike.method?]
      exact Option.some.inj (hc₂.symm.trans (h1.trans h.code))
    subst hcc
    have hlen : len₂ = len := by rw [hdg] at hd₂; cases hd₂; rfl
    subst hlen
    have hs₂ : s₂ = (({ U with heap := s₂.heap, slotsUsed := s₂.slotsUsed } : State).setVm s₂.vm).setTop { g with pc := g.pc + len₂, stack := v.toList ++ g.stack } := by
      refine e3.trans ?_
      rw [hf₂, State.calling_eq h.top, State.setFrames_setFrames, State.setTop_of_frames _ hr', hr]
      rfl
    have hsame : U.sameButNew ({ U with heap := s₂.heap, slotsUsed := s₂.slotsUsed } : State) L mc ms := by
      refine ⟨?_, q2, q3, q4, q5, q6⟩
      obtain ⟨t, ht, -⟩ := State.frames_cons hr
      show ({ U with heap := s₂.heap, slotsUsed := s₂.slotsUsed } : State) = { U.setFrames U.frames with heap := s₂.heap, slotsUsed := s₂.slotsUsed }
      rw [State.setFrames_self ht]
    subst hg
    refine Or.inl ⟨v, ⟨(({ U with heap := s₂.heap, slotsUsed := s₂.slotsUsed } : State).setVm s₂.vm), Ls ++ L, c0 + mc, s0 + ms⟩,
      ⟨X.admits, X.cas, X.clock, X.frames, X.room, X.hears, X.method, X.code, (X.here.setHeapUsed s₂.heap s₂.slotsUsed).setVm hW'.alike, X.tail, State.WarmedH.trans X.warmed hW', X.limits, X.bytes, X.same.trans (hsame.setVm s.vm)⟩,
      ⟨g, mk, s₂, L, rfl, rfl, hqc, rfl, hL, rfl, rfl⟩, ?_⟩
    show Steps p.tables e below _ ((({ U with heap := s₂.heap, slotsUsed := s₂.slotsUsed } : State).setVm s₂.vm).setTop { g with pc := g.pc + len₂, stack := v.toList ++ g.stack })
    rw [← hs₂]
    exact hsteps
  · obtain ⟨e2, q2, q3, q4, q5, q6⟩ := id hsm
    have e3 : s₂ = ({ (U.calling g mk a).setFrames s₂.frames with heap := s₂.heap, slotsUsed := s₂.slotsUsed } : State).setVm s₂.vm := by
      have : s₂ = ({ s₂ with vm := (U.calling g mk a).vm } : State).setVm s₂.vm := rfl
      rw [e2] at this
      exact this
    have hf₂ : s₂.frames = .throwing q :: .java g :: U.frames.tail := hend
    have hW' : U.WarmedH s₂.vm := hW₂
    have hs₂ : s₂ = ((({ U with heap := s₂.heap, slotsUsed := s₂.slotsUsed } : State).setVm s₂.vm).setTop g).pushFrame (.throwing q) := by
      refine e3.trans ?_
      rw [hf₂, State.calling_eq h.top, State.setFrames_setFrames, State.pushFrame, State.frames_setTop _ hr', State.setTop_of_frames _ hr', State.setFrames_setFrames, hr]
      rfl
    have hsame : U.sameButNew ({ U with heap := s₂.heap, slotsUsed := s₂.slotsUsed } : State) L mc ms := by
      refine ⟨?_, q2, q3, q4, q5, q6⟩
      obtain ⟨t, ht, -⟩ := State.frames_cons hr
      show ({ U with heap := s₂.heap, slotsUsed := s₂.slotsUsed } : State) = { U.setFrames U.frames with heap := s₂.heap, slotsUsed := s₂.slotsUsed }
      rw [State.setFrames_self ht]
    subst hg
    refine Or.inr ⟨q, ⟨(({ U with heap := s₂.heap, slotsUsed := s₂.slotsUsed } : State).setVm s₂.vm), Ls ++ L, c0 + mc, s0 + ms⟩,
      ⟨X.admits, X.cas, X.clock, X.frames, X.room, X.hears, X.method, X.code, (X.here.setHeapUsed s₂.heap s₂.slotsUsed).setVm hW'.alike, X.tail, State.WarmedH.trans X.warmed hW', X.limits, X.bytes, X.same.trans (hsame.setVm s.vm)⟩,
      ⟨g, mk, s₂, L, E, ce, rfl, rfl, hx, hce, hcv, hcl, rfl, hL, rfl, rfl⟩, ?_⟩
    show Steps p.tables e below _ (((({ U with heap := s₂.heap, slotsUsed := s₂.slotsUsed } : State).setVm s₂.vm).setTop g).pushFrame (.throwing q))
    rw [← hs₂]
    exact hsteps
end
variable {p : Program} {l : Launch} {e : Env} {R : Room} {s : State} {m : MethodId} {args : Array Value} {below : List Frame} {meth : Method} {c : Code} {T : State} {H : Heap} {locs : List Loc} {cells slots : Nat}
theorem vx_callVX (X : Stand p l e R s m args below meth c T locs cells slots) (hexec : p.tables.exec = Jvm.exec) {own C : String} {index : Nat} {y : MethodName} {bytes : ByteArray} {maxL : Nat} {ret : Option FieldType} {hh : List (Nat × Nat × Nat × Nat)}
    (hown : s.vm.findClass own = some m.cls) (hlink : (Cond.methodLink own index y).before args s = true) (hinst : (Cond.instanceMethod y).before args s = true) (hsel : (Cond.selects C y y).before args s = true)
    (hcode : (Cond.codeWith y bytes maxL ret hh).before args s = true) (hy : y.cls ≠ "java/lang/invoke/MethodHandle" ∧ y.cls ≠ "java/lang/invoke/VarHandle")
    {W9 : Nat} {Pre : Pt → Array Value → Prop} {Post : Pt → Array Value → Option Value → Pt → Prop} {PostX : Pt → Array Value → Addr → Pt → Prop} (hK : vx_Back l R p e below s args y 3 W9 Pre Post PostX)
    {b : Addr} {cellB : Cell} (hcell : T.heap[b]? = some cellB) (hobj : cellB.vm.isStatics = false) (hcls : s.vm.findClass C = some cellB.cls)
    {g : JFrame} (hg : g.method = m) (hsize : g.locals.size = c.maxLocals) {argsL rest : List Value} (hlen : ∀ sig, parseMethodDescriptor y.desc = some sig → argsL.length = sig.parameters.length)
    (hstack : g.stack = argsL.reverse ++ .ref b :: rest) (hW : 2 * g.monitorRoom + (rest.map fun v => v.category).sum ≤ W9) (hdg : decode c.code g.pc = .ok (.invokevirtual index, 3))
    (hpre : ∀ vm₁, s.WarmedH vm₁ → Pre ⟨T.setVm vm₁, locs, cells, slots⟩ (Value.ref b :: argsL).toArray) :
    (∃ (v : Option Value) (vm₁ : Vm) (B : Pt), s.WarmedH vm₁ ∧ Stand p l e R s m args below meth c B.U B.locs B.cells B.slots ∧ Post ⟨T.setVm vm₁, locs, cells, slots⟩ (Value.ref b :: argsL).toArray v B ∧
      ∀ target, Steps p.tables e below (B.U.setTop { g with pc := g.pc + 3, stack := v.toList ++ rest }) target → Steps p.tables e below (T.setTop g) target) ∨
    (∃ (q : Addr) (vm₁ : Vm) (B : Pt), s.WarmedH vm₁ ∧ Stand p l e R s m args below meth c B.U B.locs B.cells B.slots ∧ PostX ⟨T.setVm vm₁, locs, cells, slots⟩ (Value.ref b :: argsL).toArray q B ∧
      Steps p.tables e below (T.setTop g) ((B.U.setTop { g with stack := rest }).pushFrame (.throwing q))) := by
  obtain ⟨mk, methM, hnamed, hmethM, hstM, habM⟩ := Cond.instanceMethod_spec hinst
  obtain ⟨m8, methM', cM, hn8, hmethM', -, -, -, -, -, -, hsigM⟩ := Cond.codeWith_spec hcode
  cases Option.some.inj (hn8.symm.trans hnamed)
  cases hmethM.symm.trans hmethM'
  obtain ⟨c2, r2, m2, q1, q2, q3, q4, kP, hkP, hkPi⟩ := Cond.selects_spec hsel
  cases hcls.symm.trans q1
  cases (State.methodFound?_of_named hnamed hy).symm.trans q2
  cases hnamed.symm.trans q3
  have hselP : selectMethod e.platform s.vm cellB.cls mk = .method mk := by rw [Launch.admits_selectMethod X.admits]; exact q4
  obtain ⟨vm₁, X₁, hstep₁⟩ := X.invokevirtual hexec hown hlink hnamed hmethM hstM hkP hkPi hy (a := b) (cell := cellB) hcell
    (fun z h => by rw [h] at hobj; cases hobj) hselP hmethM habM hkP hkPi (g := g) hg (argsL := argsL) (rest := rest) (hlen _ hsigM) hstack hdg
  rcases hK m meth c ⟨T.setVm vm₁, locs, cells, slots⟩ { g with stack := rest } (.invokevirtual index) mk (Value.ref b :: argsL).toArray X₁ hg hsize hdg hW (X₁.named hnamed) (hpre vm₁ X₁.warmed) with ⟨v, B, X', hpost, hsteps⟩ | ⟨q, B, X', hpost, hsteps⟩
  · exact Or.inl ⟨v, vm₁, B, X₁.warmed, X', hpost, fun target h => hstep₁ _ fun acts => by rw [doInvoke_state]; exact hsteps.trans h⟩
  · exact Or.inr ⟨q, vm₁, B, X₁.warmed, X', hpost, hstep₁ _ fun acts => by rw [doInvoke_state]; exact hsteps⟩
theorem vx_callSX (X : Stand p l e R s m args below meth c T locs cells slots) (hexec : p.tables.exec = Jvm.exec) {own : String} {index : Nat} {y : MethodName} {bytes : ByteArray} {maxL : Nat} {ret : Option FieldType} {hh : List (Nat × Nat × Nat × Nat)}
    (hown : s.vm.findClass own = some m.cls) (hlink : (Cond.methodLink own index y).before args s = true) (hstat : (Cond.static y).before args s = true) (hinit : (Cond.initialized y.cls).before args s = true)
    (hcode : (Cond.codeWith y bytes maxL ret hh).before args s = true) (hy : y.cls ≠ "java/lang/invoke/MethodHandle" ∧ y.cls ≠ "java/lang/invoke/VarHandle")
    {W9 : Nat} {Pre : Pt → Array Value → Prop} {Post : Pt → Array Value → Option Value → Pt → Prop} {PostX : Pt → Array Value → Addr → Pt → Prop} (hK : vx_Back l R p e below s args y 3 W9 Pre Post PostX)
    {g : JFrame} (hg : g.method = m) (hsize : g.locals.size = c.maxLocals) {argsL rest : List Value} (hlen : ∀ sig, parseMethodDescriptor y.desc = some sig → argsL.length = sig.parameters.length)
    (hstack : g.stack = argsL.reverse ++ rest) (hW : 2 * g.monitorRoom + (rest.map fun v => v.category).sum ≤ W9) (hdg : decode c.code g.pc = .ok (.invokestatic index, 3))
    (hpre : ∀ vm₁, s.WarmedH vm₁ → Pre ⟨T.setVm vm₁, locs, cells, slots⟩ argsL.toArray) :
    (∃ (v : Option Value) (vm₁ : Vm) (B : Pt), s.WarmedH vm₁ ∧ Stand p l e R s m args below meth c B.U B.locs B.cells B.slots ∧ Post ⟨T.setVm vm₁, locs, cells, slots⟩ argsL.toArray v B ∧
      ∀ target, Steps p.tables e below (B.U.setTop { g with pc := g.pc + 3, stack := v.toList ++ rest }) target → Steps p.tables e below (T.setTop g) target) ∨
    (∃ (q : Addr) (vm₁ : Vm) (B : Pt), s.WarmedH vm₁ ∧ Stand p l e R s m args below meth c B.U B.locs B.cells B.slots ∧ PostX ⟨T.setVm vm₁, locs, cells, slots⟩ argsL.toArray q B ∧
      Steps p.tables e below (T.setTop g) ((B.U.setTop { g with stack := rest }).pushFrame (.throwing q))) := by
  obtain ⟨mk, methM, cM, hnamed, hmethM, -, -, -, -, -, -, hsigM⟩ := Cond.codeWith_spec hcode
  have hstatic : methM.isStatic = true := Cond.static_spec hnamed hmethM hstat
  obtain ⟨kP, hkP, -⟩ := className_of_methodNamed hnamed
  have hinitP : kP.init = .initialized := Cond.initialized_spec (findClass_of_methodNamed hnamed) hkP hinit
  obtain ⟨vm₁, X₁, hstep₁⟩ := X.invokestatic hexec hown hlink hnamed hmethM hstatic hkP hinitP hy (g := g) hg (argsL := argsL) (rest := rest) (hlen _ hsigM) hstack hdg
  rcases hK m meth c ⟨T.setVm vm₁, locs, cells, slots⟩ { g with stack := rest } (.invokestatic index) mk argsL.toArray X₁ hg hsize hdg hW (X₁.named hnamed) (hpre vm₁ X₁.warmed) with ⟨v, B, X', hpost, hsteps⟩ | ⟨q, B, X', hpost, hsteps⟩
  · exact Or.inl ⟨v, vm₁, B, X₁.warmed, X', hpost, fun target h => hstep₁ _ fun acts => by rw [doInvoke_state]; exact hsteps.trans h⟩
  · exact Or.inr ⟨q, vm₁, B, X₁.warmed, X', hpost, hstep₁ _ fun acts => by rw [doInvoke_state]; exact hsteps⟩
theorem vx_callVW (X : Stand p l e R s m args below meth c T locs cells slots) (hexec : p.tables.exec = Jvm.exec) {own C : String} {index : Nat} {y : MethodName} {bytes : ByteArray} {maxL : Nat} {ret : Option FieldType} {hh : List (Nat × Nat × Nat × Nat)}
    (hown : s.vm.findClass own = some m.cls) (hlink : (Cond.methodLink own index y).before args s = true) (hinst : (Cond.instanceMethod y).before args s = true) (hsel : (Cond.selects C y y).before args s = true)
    (hcode : (Cond.codeWith y bytes maxL ret hh).before args s = true) (hy : y.cls ≠ "java/lang/invoke/MethodHandle" ∧ y.cls ≠ "java/lang/invoke/VarHandle")
    {W9 : Nat} {Pre : Pt → Array Value → Prop} {Post : Pt → Array Value → Option Value → Pt → Prop} (hK : Back l R p e below s args y 3 W9 Pre Post)
    {b : Addr} {cellB : Cell} (hcell : T.heap[b]? = some cellB) (hobj : cellB.vm.isStatics = false) (hcls : s.vm.findClass C = some cellB.cls)
    {g : JFrame} (hg : g.method = m) (hsize : g.locals.size = c.maxLocals) {argsL rest : List Value} (hlen : ∀ sig, parseMethodDescriptor y.desc = some sig → argsL.length = sig.parameters.length)
    (hstack : g.stack = argsL.reverse ++ .ref b :: rest) (hW : 2 * g.monitorRoom + (rest.map fun v => v.category).sum ≤ W9) (hdg : decode c.code g.pc = .ok (.invokevirtual index, 3))
    (hpre : ∀ vm₁, s.WarmedH vm₁ → Pre ⟨T.setVm vm₁, locs, cells, slots⟩ (Value.ref b :: argsL).toArray) :
    ∃ (v : Option Value) (vm₁ : Vm) (B : Pt), s.WarmedH vm₁ ∧ Stand p l e R s m args below meth c B.U B.locs B.cells B.slots ∧ Post ⟨T.setVm vm₁, locs, cells, slots⟩ (Value.ref b :: argsL).toArray v B ∧
      ∀ target, Steps p.tables e below (B.U.setTop { g with pc := g.pc + 3, stack := v.toList ++ rest }) target → Steps p.tables e below (T.setTop g) target := by
  obtain ⟨mk, methM, hnamed, hmethM, hstM, habM⟩ := Cond.instanceMethod_spec hinst
  obtain ⟨m8, methM', cM, hn8, hmethM', -, -, -, -, -, -, hsigM⟩ := Cond.codeWith_spec hcode
  cases Option.some.inj (hn8.symm.trans hnamed)
  cases hmethM.symm.trans hmethM'
  obtain ⟨c2, r2, m2, q1, q2, q3, q4, kP, hkP, hkPi⟩ := Cond.selects_spec hsel
  cases hcls.symm.trans q1
  cases (State.methodFound?_of_named hnamed hy).symm.trans q2
  cases hnamed.symm.trans q3
  have hselP : selectMethod e.platform s.vm cellB.cls mk = .method mk := by rw [Launch.admits_selectMethod X.admits]; exact q4
  obtain ⟨vm₁, X₁, hstep₁⟩ := X.invokevirtual hexec hown hlink hnamed hmethM hstM hkP hkPi hy (a := b) (cell := cellB) hcell
    (fun z h => by rw [h] at hobj; cases hobj) hselP hmethM habM hkP hkPi (g := g) hg (argsL := argsL) (rest := rest) (hlen _ hsigM) hstack hdg
  obtain ⟨v, B, X', hpost, hsteps⟩ := hK m meth c ⟨T.setVm vm₁, locs, cells, slots⟩ { g with stack := rest } (.invokevirtual index) mk (Value.ref b :: argsL).toArray X₁ hg hsize hdg hW (X₁.named hnamed) (hpre vm₁ X₁.warmed)
  exact ⟨v, vm₁, B, X₁.warmed, X', hpost, fun target h => hstep₁ _ fun acts => by rw [doInvoke_state]; exact hsteps.trans h⟩
abbrev vx_CVW (R : Room) (s : State) (args : Array Value) (own C : String) (index : Nat) (y : MethodName) (bytes : ByteArray) (maxL : Nat) (ret : Option FieldType) (hh : List (Nat × Nat × Nat × Nat)) (ws : List Cond) (rm : Room) (mc ms n : Nat) : Prop :=
  (rm.cells = mc ∧ rm.slots = ms ∧ rm.frames + 1 ≤ R.frames ∧ 8 + (maxL + 11) + rm.locals ≤ R.locals ∧ (∀ w ∈ ws, ∀ (a' : Array Value) (U : State), s.WarmedH U.vm → w.before a' U = true) ∧ Cond.codeWith y bytes maxL ret hh ∈ ws) ∧
  (Cond.codeWith y bytes maxL ret hh).before args s = true ∧ (Cond.initialized y.cls).before args s = true ∧ (y.cls ≠ "java/lang/invoke/MethodHandle" ∧ y.cls ≠ "java/lang/invoke/VarHandle") ∧
  (∀ sig, parseMethodDescriptor y.desc = some sig → n = sig.parameters.length) ∧ (Cond.methodLink own index y).before args s = true ∧ (Cond.instanceMethod y).before args s = true ∧ (Cond.selects C y y).before args s = true
theorem vx_cwVW {own C : String} {index maxL mc ms : Nat} {y : MethodName} {bytes : ByteArray} {ret : Option FieldType} {hh : List (Nat × Nat × Nat × Nat)} {Ts ws ws' : List Cond} {rm : Room} (n : Nat) (ht : ∀ w ∈ Ts, w.before args s = true) (hT : GoodIn Ts (wsV own index C y ws)) (hw : ws = Cond.codeWith y bytes maxL ret hh :: ws') (hrc : rm.cells = mc) (hrs : rm.slots = ms)
    (hd : y.cls = C ∧ y.cls ≠ "java/lang/invoke/MethodHandle" ∧ y.cls ≠ "java/lang/invoke/VarHandle" ∧ (parseMethodDescriptor y.desc).map (fun d => d.parameters.length) = some n) (hR : rm.frames + 1 ≤ R.frames ∧ 8 + (maxL + 11) + rm.locals ≤ R.locals) :
    vx_CVW R s args own C index y bytes maxL ret hh ws rm mc ms n := by
  obtain ⟨hC, hd⟩ := hd
  subst hC
  have ok : ∀ w ∈ wsV own index y.cls y ws, w.before args s = true := fun w h => ht w (hT w h).1
  have hG : GoodIn Ts ws := fun w h => hT w (by unfold wsV; exact List.mem_append_right _ h)
  have hc : Cond.codeWith y bytes maxL ret hh ∈ ws := by rw [hw]; exact List.mem_cons_self
  refine ⟨⟨hrc, hrs, hR.1, hR.2, pay_in ht hG, hc⟩, ht _ (hG _ hc).1, ok _ (by simp [wsV]), ⟨hd.1, hd.2.1⟩, fun sig h => ?_, ok _ (by simp [wsV]), ok _ (by simp [wsV]), ok _ (by simp [wsV])⟩
  have h2 := hd.2.2
  rw [h] at h2
  exact (Option.some.inj h2).symm
theorem vx_runVW {y : MethodName} {bytes cc : ByteArray} {maxL nL mc ms n index : Nat} {ret : Option FieldType} {hh : List (Nat × Nat × Nat × Nat)} {ws : List Cond} {rm : Room} {Pc : Array Value → State → Prop} {Qc : Array Value → State → Outcome → State → Prop} {free : Addr → Prop} {Ts : List Cond} {own C : String} {b : Addr} {As rest : List Value} {g : JFrame}
    (S : CallFix p m c cc nL s args Ts own) (hM : Met l y ws rm Pc Qc mc ms free) (cw : vx_CVW R s args own C index y bytes maxL ret hh ws rm mc ms n) (hp : PreV s H C b Pc As)
    (hg : g.method = m) (hn : As.length = n) (hsize : g.locals.size = nL) (hstack : g.stack = As.reverse ++ .ref b :: rest) (hW : 2 * g.monitorRoom + (rest.map fun v => v.category).sum ≤ 8) (hdg : decode cc g.pc = .ok (.invokevirtual index, 3)) (hf : cells + mc ≤ R.cells ∧ slots + ms ≤ R.slots) :
    va_Run p l e R s m args below meth c H locs cells slots mc ms g rest (Qc (Value.ref b :: As).toArray) free := by
  obtain ⟨⟨hrc, hrs, hfr, hlo, hws, hcw⟩, hcode, hini, hy, hlen, hl, hin, hse⟩ := cw
  have hK : Back l R p e below s args y 3 8 (PreOf R mc ms Pc) (PostOf Qc mc ms free) := va_backW (hh := hh) (bytes := bytes) (maxL := maxL) (ret := ret) hM hp.1 hrc hrs hfr hlo hws hcw (fun a' U hW => word_at hW (Or.inl (by first | rfl | simp [Cond.onTables, Cond.keeps, Cond.steady])) hini)
  obtain ⟨hx, hb, hml, ho, -⟩ := S
  obtain ⟨-, ⟨cellB, hcB, hoB, hclB⟩, hPc⟩ := hp
  intro T hT X
  obtain ⟨v, vm₁, ⟨U', l2, c2, s2⟩, hW₁, X', ⟨g', mk, t, L, e1, e2, hq, h1, hL, h2, h3⟩, st⟩ := vx_callVW X hx (C := C) (hh := hh) (bytes := bytes) (maxL := maxL) (ret := ret) ho hl hin hse hcode hy hK (by rw [hT]; exact hcB) hoB hclB hg (hsize.trans hml.symm) (argsL := As) (rest := rest) (fun sig h => hn.trans (hlen sig h)) hstack hW (by rw [hb]; exact hdg)
    (fun vm₁ hW₁ => ⟨hf.1, hf.2, hPc (T.setVm vm₁) hT hW₁⟩)
  dsimp only [Pt.U, Pt.locs, Pt.cells, Pt.slots] at X' e1 e2 h1 h2 h3 st
  subst h1; subst h2; subst h3
  exact ⟨v, (T.setVm vm₁).calling g' mk (Value.ref b :: As).toArray, t, U', L, hT, X', hL, e1, e2, hq, st⟩
section
variable {y : MethodName} {bytes cc : ByteArray} {maxL nL mc ms n index : Nat} {ret : Option FieldType} {ws : List Cond} {rm : Room} {Pc : Array Value → State → Prop} {Qc : Array Value → State → Outcome → State → Prop} {XC : String → State → State → Prop} {free : Addr → Prop} {Ts : List Cond} {own C : String} {b : Addr} {As rest : List Value} {g : JFrame}
theorem vx_runVX {hh : List (Nat × Nat × Nat × Nat)} (S : CallFix p m c cc nL s args Ts own) (hM : vx_Met l y ws rm Pc Qc XC mc ms free) (cw : vx_CVW R s args own C index y bytes maxL ret hh ws rm mc ms n) (hp : PreV s H C b Pc As)
    (hg : g.method = m) (hn : As.length = n) (hsize : g.locals.size = nL) (hstack : g.stack = As.reverse ++ .ref b :: rest) (hW : 2 * g.monitorRoom + (rest.map fun v => v.category).sum ≤ 8) (hdg : decode cc g.pc = .ok (.invokevirtual index, 3)) (hf : cells + mc ≤ R.cells ∧ slots + ms ≤ R.slots) :
    vx_Run p l e R s m args below meth c H locs cells slots mc ms g rest (Qc (Value.ref b :: As).toArray) XC free := by
  obtain ⟨⟨hrc, hrs, hfr, hlo, hws, hcw⟩, hcode, hini, hy, hlen, hl, hin, hse⟩ := cw
  have hK : vx_Back l R p e below s args y 3 8 (PreOf R mc ms Pc) (PostOf Qc mc ms free) (vx_Post XC mc ms free) := vx_backW (hh := hh) (bytes := bytes) (maxL := maxL) (ret := ret) hM hp.1 hrc hrs hfr hlo hws hcw (fun a' U hW => word_at hW (Or.inl (by first | rfl | simp [Cond.onTables, Cond.keeps, Cond.steady])) hini)
  obtain ⟨hx, hb, hml, ho, -⟩ := S
  obtain ⟨-, ⟨cellB, hcB, hoB, hclB⟩, hPc⟩ := hp
  intro T hT X
  rcases vx_callVX X hx (C := C) (hh := hh) (bytes := bytes) (maxL := maxL) (ret := ret) ho hl hin hse hcode hy hK (by rw [hT]; exact hcB) hoB hclB hg (hsize.trans hml.symm) (argsL := As) (rest := rest) (fun sig h => hn.trans (hlen sig h)) hstack hW (by rw [hb]; exact hdg)
    (fun vm₁ hW₁ => ⟨hf.1, hf.2, hPc (T.setVm vm₁) hT hW₁⟩) with ⟨v, vm₁, ⟨U', l2, c2, s2⟩, hW₁, X', ⟨g', mk, t, L, e1, e2, hq, h1, hL, h2, h3⟩, st⟩ | ⟨q, vm₁, ⟨U', l2, c2, s2⟩, hW₁, X', ⟨g', mk, t, L, E, ce, e1, e2, hq, hce, hcv, hcl, h1, hL, h2, h3⟩, st⟩
  · dsimp only [Pt.U, Pt.locs, Pt.cells, Pt.slots] at X' e1 e2 h1 h2 h3 st
    subst h1; subst h2; subst h3
    exact Or.inl ⟨v, (T.setVm vm₁).calling g' mk (Value.ref b :: As).toArray, t, U', L, hT, X', hL, e1, e2, hq, st⟩
  · dsimp only [Pt.U, Pt.locs, Pt.cells, Pt.slots] at X' e1 e2 h1 h2 h3 st hcl
    subst h1; subst h2; subst h3
    exact Or.inr ⟨q, (T.setVm vm₁).calling g' mk (Value.ref b :: As).toArray, t, U', L, E, ce, hT, X', hL, e1, e2, hq, hce, hcv, vx_cls hW₁ hcl, st⟩
theorem vx_runSX {hh : List (Nat × Nat × Nat × Nat)} (S : CallFix p m c cc nL s args Ts own) (hM : vx_Met l y ws rm Pc Qc XC mc ms free) (cw : vx_CSW R s args own index y bytes maxL ret hh ws rm mc ms n) (hp : PreS s H Pc As)
    (hg : g.method = m) (hn : As.length = n) (hsize : g.locals.size = nL) (hstack : g.stack = As.reverse ++ rest) (hW : 2 * g.monitorRoom + (rest.map fun v => v.category).sum ≤ 8) (hdg : decode cc g.pc = .ok (.invokestatic index, 3)) (hf : cells + mc ≤ R.cells ∧ slots + ms ≤ R.slots) :
    vx_Run p l e R s m args below meth c H locs cells slots mc ms g rest (Qc As.toArray) XC free := by
  obtain ⟨⟨hrc, hrs, hfr, hlo, hws, hcw⟩, hcode, hini, hy, hlen, hl, hstt⟩ := cw
  have hK : vx_Back l R p e below s args y 3 8 (PreOf R mc ms Pc) (PostOf Qc mc ms free) (vx_Post XC mc ms free) := vx_backW (hh := hh) (bytes := bytes) (maxL := maxL) (ret := ret) hM hp.1 hrc hrs hfr hlo hws hcw (fun a' U hW => word_at hW (Or.inl (by first | rfl | simp [Cond.onTables, Cond.keeps, Cond.steady])) hini)
  obtain ⟨hx, hb, hml, ho, -⟩ := S
  intro T hT X
  rcases vx_callSX X hx (hh := hh) (bytes := bytes) (maxL := maxL) (ret := ret) ho hl hstt hini hcode hy hK hg (hsize.trans hml.symm) (argsL := As) (rest := rest) (fun sig h => hn.trans (hlen sig h)) hstack hW (by rw [hb]; exact hdg)
    (fun vm₁ hW₁ => ⟨hf.1, hf.2, hp.2 (T.setVm vm₁) hT hW₁⟩) with ⟨v, vm₁, ⟨U', l2, c2, s2⟩, hW₁, X', ⟨g', mk, t, L, e1, e2, hq, h1, hL, h2, h3⟩, st⟩ | ⟨q, vm₁, ⟨U', l2, c2, s2⟩, hW₁, X', ⟨g', mk, t, L, E, ce, e1, e2, hq, hce, hcv, hcl, h1, hL, h2, h3⟩, st⟩
  · dsimp only [Pt.U, Pt.locs, Pt.cells, Pt.slots] at X' e1 e2 h1 h2 h3 st
    subst h1; subst h2; subst h3
    exact Or.inl ⟨v, (T.setVm vm₁).calling g' mk As.toArray, t, U', L, hT, X', hL, e1, e2, hq, st⟩
  · dsimp only [Pt.U, Pt.locs, Pt.cells, Pt.slots] at X' e1 e2 h1 h2 h3 st hcl
    subst h1; subst h2; subst h3
    exact Or.inr ⟨q, (T.setVm vm₁).calling g' mk As.toArray, t, U', L, E, ce, hT, X', hL, e1, e2, hq, hce, hcv, vx_cls hW₁ hcl, st⟩
end
end VXH
theorem vx_ofWH {l : Launch} {y : MethodName} {ws ws' : List Cond} {rm : Room} {Pc : Array Value → State → Prop} {Qc : Array Value → State → Outcome → State → Prop} {XC : String → State → State → Prop} {mc ms : Nat} {free : Addr → Prop} {cc : ByteArray} {maxL : Nat} {ret : Option FieldType} {hh : List (Nat × Nat × Nat × Nat)}
    (hy : plainName y.cls = true) (hw : ws = Cond.codeWith y cc maxL ret hh :: ws')
    (body : ∀ p e s m args below meth c s₁, BodyLoose p l y (headSpec ws rm) cc maxL ret e s m args below meth c s₁ → c.maxLocals = maxL → Pc args s →
      W p l e (headSpec ws rm).room s m args below meth c s.heap [] 0 0 (vx_MQ below Qc XC args s mc ms free) (entryFrame m args maxL)) : vx_Met l y ws rm Pc Qc XC mc ms free := by
  refine MetFree.of_bodyS (code := cc) (maxLocals := maxL) (ret := ret) hy ?_ ?_
  · intro args s m h hn
    obtain ⟨m9, meth, c, hn9, h1, h2, h3, h4, -, h5, h6, -⟩ := Cond.codeWith_spec (atoms_spec (ws := ws) h _ (by rw [hw]; exact List.mem_cons_self))
    cases hn.symm.trans hn9
    exact ⟨meth, c, h1, h2, h3, h4, h5, h6⟩
  · intro p e s m args below meth c s₁ B hml hP _
    have hh0 : s₁.heap = s.heap := by rw [B.state]; rfl
    obtain ⟨t, a1, o, b1, b2, b3⟩ := body p e s m args below meth c s₁ B hml hP s₁ hh0 (Stand.of_body B)
    exact ⟨t, o, a1, b1, b2, b3⟩
/-! ===== END ===== -/

/-! ===== BEGIN printed: names, fields, word lists, decode rows ===== -/
def RX0 : String := "TreadleLoom$Cloth"
def TX0 : u_T := fun k => match k with
  | 0 => ("TreadleLoom$Cloth", "ends", "LTreadleLoom$Row;", true)
  | _ => ("TreadleLoom$Cloth", "picks", "LTreadleLoom$Row;", true)
def tyX0 : Nat → FieldType := fun k => match k with
  | 0 => .object "TreadleLoom$Row"
  | _ => .object "TreadleLoom$Row"
abbrev wsX00 : List Cond := u_ws RX0 TX0 2
theorem nmX0 : ∀ a, a < 2 → ∀ b, b < 2 → a ≠ b → (TX0 a).2.1 ≠ (TX0 b).2.1 := by decide +kernel
theorem tyX0_ok : ∀ k, k < 2 → parseFieldDescriptor (TX0 k).2.2.1 = some (tyX0 k) := by decide +kernel
abbrev cX0_init : ByteArray := prog_2_method_1_code
def yX0_init : MethodName := ⟨RX0, "<init>", "()V"⟩
abbrev cX0_weave : ByteArray := prog_2_method_2_code
def yX0_weave : MethodName := ⟨RX0, "weave", "(LTreadleLoom$Row;LTreadleLoom$Row;LTreadleLoom$Row;)V"⟩
abbrev cX0_hasFields : ByteArray := prog_2_method_3_code
def yX0_hasFields : MethodName := ⟨RX0, "hasFields", "()Z"⟩
abbrev cX0_isUp : ByteArray := prog_2_method_4_code
def yX0_isUp : MethodName := ⟨RX0, "isUp", "(II)Z"⟩
abbrev cX0_floatAt : ByteArray := prog_2_method_5_code
def yX0_floatAt : MethodName := ⟨RX0, "floatAt", "(II)I"⟩
abbrev cX0_countFloats : ByteArray := prog_2_method_6_code
def yX0_countFloats : MethodName := ⟨RX0, "countFloats", "(I)I"⟩
abbrev cX0_longestFloat : ByteArray := prog_2_method_7_code
def yX0_longestFloat : MethodName := ⟨RX0, "longestFloat", "()I"⟩
abbrev cX0_isConnected : ByteArray := prog_2_method_8_code
def yX0_isConnected : MethodName := ⟨RX0, "isConnected", "()Z"⟩
abbrev cX0_isAllReached : ByteArray := prog_2_method_9_code
def yX0_isAllReached : MethodName := ⟨RX0, "isAllReached", "(Z)Z"⟩
abbrev cX0_endsReached : ByteArray := prog_2_method_10_code
def yX0_endsReached : MethodName := ⟨RX0, "endsReached", "(Z)I"⟩
abbrev cX0_picksReached : ByteArray := prog_2_method_11_code
def yX0_picksReached : MethodName := ⟨RX0, "picksReached", "(Z)I"⟩
abbrev cX0_nextTo : ByteArray := prog_2_method_12_code
def yX0_nextTo : MethodName := ⟨RX0, "nextTo", "(LTreadleLoom$Row;ILTreadleLoom$Row;Z)I"⟩
def RX1 : String := "TreadleLoom$Compiler"
def TX1 : u_T := fun k => match k with
  | 0 => ("TreadleLoom$Compiler", "numbers", "LTreadleLoom$Row;", true)
  | 1 => ("TreadleLoom$Compiler", "outerStarts", "LTreadleLoom$Row;", true)
  | 2 => ("TreadleLoom$Compiler", "groupStart", "I", false)
  | _ => ("TreadleLoom$Compiler", "itemStart", "I", false)
def tyX1 : Nat → FieldType := fun k => match k with
  | 0 => .object "TreadleLoom$Row"
  | 1 => .object "TreadleLoom$Row"
  | 2 => .int
  | _ => .int
abbrev wsX10 : List Cond := u_ws RX1 TX1 4
theorem nmX1 : ∀ a, a < 4 → ∀ b, b < 4 → a ≠ b → (TX1 a).2.1 ≠ (TX1 b).2.1 := by decide +kernel
theorem tyX1_ok : ∀ k, k < 4 → parseFieldDescriptor (TX1 k).2.2.1 = some (tyX1 k) := by decide +kernel
abbrev cX1_init : ByteArray := prog_3_method_1_code
def yX1_init : MethodName := ⟨RX1, "<init>", "()V"⟩
abbrev cX1_compile : ByteArray := prog_3_method_2_code
def yX1_compile : MethodName := ⟨RX1, "compile", "([LTreadleLoom$Program;ILTreadleLoom$Program;)V"⟩
abbrev cX1_read : ByteArray := prog_3_method_3_code
def yX1_read : MethodName := ⟨RX1, "read", "([LTreadleLoom$Program;II)I"⟩
abbrev cX1_hasRoom : ByteArray := prog_3_method_4_code
def yX1_hasRoom : MethodName := ⟨RX1, "hasRoom", "(I)Z"⟩
abbrev cX1_beginItem : ByteArray := prog_3_method_5_code
def yX1_beginItem : MethodName := ⟨RX1, "beginItem", "()V"⟩
abbrev cX1_openGroup : ByteArray := prog_3_method_6_code
def yX1_openGroup : MethodName := ⟨RX1, "openGroup", "()V"⟩
abbrev cX1_closeGroup : ByteArray := prog_3_method_7_code
def yX1_closeGroup : MethodName := ⟨RX1, "closeGroup", "()I"⟩
abbrev cX1_addNumber : ByteArray := prog_3_method_8_code
def yX1_addNumber : MethodName := ⟨RX1, "addNumber", "(I)I"⟩
abbrev cX1_addBlock : ByteArray := prog_3_method_9_code
def yX1_addBlock : MethodName := ⟨RX1, "addBlock", "([LTreadleLoom$Program;II)I"⟩
abbrev cX1_changeItem : ByteArray := prog_3_method_10_code
def yX1_changeItem : MethodName := ⟨RX1, "changeItem", "(I)I"⟩
abbrev cX1_repeatItem : ByteArray := prog_3_method_11_code
def yX1_repeatItem : MethodName := ⟨RX1, "repeatItem", "(I)I"⟩
abbrev cX1_addMirror : ByteArray := prog_3_method_12_code
def yX1_addMirror : MethodName := ⟨RX1, "addMirror", "()I"⟩
abbrev cX1_raiseItem : ByteArray := prog_3_method_13_code
def yX1_raiseItem : MethodName := ⟨RX1, "raiseItem", "(I)V"⟩
def RX2 : String := "TreadleLoom$Program"
def TX2 : u_T := fun k => match k with
  | 0 => ("TreadleLoom$Program", "tokens", "LTreadleLoom$Row;", true)
  | 1 => ("TreadleLoom$Program", "numbers", "LTreadleLoom$Row;", true)
  | 2 => ("TreadleLoom$Program", "fault", "I", false)
  | _ => ("TreadleLoom$Program", "faultPlace", "I", false)
def tyX2 : Nat → FieldType := fun k => match k with
  | 0 => .object "TreadleLoom$Row"
  | 1 => .object "TreadleLoom$Row"
  | 2 => .int
  | _ => .int
abbrev wsX20 : List Cond := u_ws RX2 TX2 4
theorem nmX2 : ∀ a, a < 4 → ∀ b, b < 4 → a ≠ b → (TX2 a).2.1 ≠ (TX2 b).2.1 := by decide +kernel
theorem tyX2_ok : ∀ k, k < 4 → parseFieldDescriptor (TX2 k).2.2.1 = some (tyX2 k) := by decide +kernel
abbrev cX2_init : ByteArray := prog_4_method_1_code
def yX2_init : MethodName := ⟨RX2, "<init>", "()V"⟩
abbrev cX2_accept : ByteArray := prog_4_method_2_code
def yX2_accept : MethodName := ⟨RX2, "accept", "(LTreadleLoom$Row;)V"⟩
abbrev cX2_refuse : ByteArray := prog_4_method_3_code
def yX2_refuse : MethodName := ⟨RX2, "refuse", "(II)V"⟩
def RX3 : String := "TreadleLoom$Row"
def TX3 : u_T := fun k => match k with
  | 0 => ("TreadleLoom$Row", "cells", "[I", true)
  | _ => ("TreadleLoom$Row", "size", "I", false)
def tyX3 : Nat → FieldType := fun k => match k with
  | 0 => .array .int
  | _ => .int
abbrev wsX30 : List Cond := u_ws RX3 TX3 2
theorem nmX3 : ∀ a, a < 2 → ∀ b, b < 2 → a ≠ b → (TX3 a).2.1 ≠ (TX3 b).2.1 := by decide +kernel
theorem tyX3_ok : ∀ k, k < 2 → parseFieldDescriptor (TX3 k).2.2.1 = some (tyX3 k) := by decide +kernel
abbrev cX3_init : ByteArray := prog_5_method_1_code
def yX3_init : MethodName := ⟨RX3, "<init>", "(I)V"⟩
abbrev cX3_at : ByteArray := prog_5_method_2_code
def yX3_at : MethodName := ⟨RX3, "at", "(I)I"⟩
abbrev cX3_atRound : ByteArray := prog_5_method_3_code
def yX3_atRound : MethodName := ⟨RX3, "atRound", "(I)I"⟩
abbrev cX3_put : ByteArray := prog_5_method_4_code
def yX3_put : MethodName := ⟨RX3, "put", "(II)V"⟩
abbrev cX3_add : ByteArray := prog_5_method_5_code
def yX3_add : MethodName := ⟨RX3, "add", "(I)V"⟩
abbrev cX3_last : ByteArray := prog_5_method_6_code
def yX3_last : MethodName := ⟨RX3, "last", "()I"⟩
abbrev cX3_cutTo : ByteArray := prog_5_method_7_code
def yX3_cutTo : MethodName := ⟨RX3, "cutTo", "(I)V"⟩
abbrev cX3_clear : ByteArray := prog_5_method_8_code
def yX3_clear : MethodName := ⟨RX3, "clear", "()V"⟩
abbrev cX3_copyFrom : ByteArray := prog_5_method_9_code
def yX3_copyFrom : MethodName := ⟨RX3, "copyFrom", "(LTreadleLoom$Row;)V"⟩
abbrev cX3_addAll : ByteArray := prog_5_method_10_code
def yX3_addAll : MethodName := ⟨RX3, "addAll", "(LTreadleLoom$Row;)V"⟩
abbrev cX3_turnFrom : ByteArray := prog_5_method_11_code
def yX3_turnFrom : MethodName := ⟨RX3, "turnFrom", "(I)V"⟩
abbrev cX3_leastPeriod : ByteArray := prog_5_method_12_code
def yX3_leastPeriod : MethodName := ⟨RX3, "leastPeriod", "()I"⟩
abbrev cX3_hasPeriod : ByteArray := prog_5_method_13_code
def yX3_hasPeriod : MethodName := ⟨RX3, "hasPeriod", "(I)Z"⟩
abbrev cX3_countDistinct : ByteArray := prog_5_method_14_code
def yX3_countDistinct : MethodName := ⟨RX3, "countDistinct", "()I"⟩
abbrev cX3_firstPlaceOf : ByteArray := prog_5_method_15_code
def yX3_firstPlaceOf : MethodName := ⟨RX3, "firstPlaceOf", "(I)I"⟩
abbrev cX3_countBits : ByteArray := prog_5_method_16_code
def yX3_countBits : MethodName := ⟨RX3, "countBits", "()I"⟩
abbrev cX3_countRuns : ByteArray := prog_5_method_17_code
def yX3_countRuns : MethodName := ⟨RX3, "countRuns", "(I)I"⟩
abbrev cX3_firstWithRun : ByteArray := prog_5_method_18_code
def yX3_firstWithRun : MethodName := ⟨RX3, "firstWithRun", "(I)I"⟩
abbrev cX3_longestOfRuns : ByteArray := prog_5_method_19_code
def yX3_longestOfRuns : MethodName := ⟨RX3, "longestOfRuns", "()I"⟩
def RX4 : String := "TreadleLoom"
def TX4 : u_T := fun k => match k with
  | 0 => ("TreadleLoom", "programs", "[LTreadleLoom$Program;", true)
  | 1 => ("TreadleLoom", "compiler", "LTreadleLoom$Compiler;", true)
  | 2 => ("TreadleLoom", "ties", "LTreadleLoom$Row;", true)
  | 3 => ("TreadleLoom", "woven", "LTreadleLoom$Cloth;", true)
  | 4 => ("TreadleLoom", "draft", "LTreadleLoom$Program;", true)
  | 5 => ("TreadleLoom", "trialTies", "LTreadleLoom$Row;", true)
  | _ => ("TreadleLoom", "trial", "LTreadleLoom$Cloth;", true)
def tyX4 : Nat → FieldType := fun k => match k with
  | 0 => .array (.object "TreadleLoom$Program")
  | 1 => .object "TreadleLoom$Compiler"
  | 2 => .object "TreadleLoom$Row"
  | 3 => .object "TreadleLoom$Cloth"
  | 4 => .object "TreadleLoom$Program"
  | 5 => .object "TreadleLoom$Row"
  | _ => .object "TreadleLoom$Cloth"
abbrev wsX40 : List Cond := u_ws RX4 TX4 7
theorem nmX4 : ∀ a, a < 7 → ∀ b, b < 7 → a ≠ b → (TX4 a).2.1 ≠ (TX4 b).2.1 := by decide +kernel
theorem tyX4_ok : ∀ k, k < 7 → parseFieldDescriptor (TX4 k).2.2.1 = some (tyX4 k) := by decide +kernel
abbrev cX4_init : ByteArray := prog_1_method_1_code
def yX4_init : MethodName := ⟨RX4, "<init>", "()V"⟩
abbrev cX4_token : ByteArray := prog_1_method_2_code
def yX4_token : MethodName := ⟨RX4, "token", "(II)I"⟩
abbrev cX4_untoken : ByteArray := prog_1_method_3_code
def yX4_untoken : MethodName := ⟨RX4, "untoken", "(II)I"⟩
abbrev cX4_ofProgram : ByteArray := prog_1_method_4_code
def yX4_ofProgram : MethodName := ⟨RX4, "ofProgram", "(II)I"⟩
abbrev cX4_number : ByteArray := prog_1_method_5_code
def yX4_number : MethodName := ⟨RX4, "number", "(II)I"⟩
abbrev cX4_period : ByteArray := prog_1_method_6_code
def yX4_period : MethodName := ⟨RX4, "period", "(I)I"⟩
abbrev cX4_programAt : ByteArray := prog_1_method_7_code
def yX4_programAt : MethodName := ⟨RX4, "programAt", "(I)LTreadleLoom$Program;"⟩
abbrev cX4_programForToken : ByteArray := prog_1_method_8_code
def yX4_programForToken : MethodName := ⟨RX4, "programForToken", "(II)LTreadleLoom$Program;"⟩
abbrev cX4_isToken : ByteArray := prog_1_method_9_code
def yX4_isToken : MethodName := ⟨RX4, "isToken", "(I)Z"⟩
abbrev cX4_renewFrom : ByteArray := prog_1_method_10_code
def yX4_renewFrom : MethodName := ⟨RX4, "renewFrom", "(I)V"⟩
abbrev cX4_tie : ByteArray := prog_1_method_11_code
def yX4_tie : MethodName := ⟨RX4, "tie", "(II)I"⟩
abbrev cX4_tied : ByteArray := prog_1_method_12_code
def yX4_tied : MethodName := ⟨RX4, "tied", "(I)I"⟩
abbrev cX4_swap : ByteArray := prog_1_method_14_code
def yX4_swap : MethodName := ⟨RX4, "swap", "(II)I"⟩
abbrev cX4_checkTreadle : ByteArray := prog_1_method_15_code
def yX4_checkTreadle : MethodName := ⟨RX4, "checkTreadle", "(I)V"⟩
abbrev cX4_checkShaft : ByteArray := prog_1_method_16_code
def yX4_checkShaft : MethodName := ⟨RX4, "checkShaft", "(I)V"⟩
abbrev cX4_takeTrialTies : ByteArray := prog_1_method_17_code
def yX4_takeTrialTies : MethodName := ⟨RX4, "takeTrialTies", "()I"⟩
abbrev cX4_swapInTrialTies : ByteArray := prog_1_method_18_code
def yX4_swapInTrialTies : MethodName := ⟨RX4, "swapInTrialTies", "(II)V"⟩
abbrev cX4_weave : ByteArray := prog_1_method_19_code
def yX4_weave : MethodName := ⟨RX4, "weave", "()V"⟩
abbrev cX4_cloth : ByteArray := prog_1_method_20_code
def yX4_cloth : MethodName := ⟨RX4, "cloth", "(I)I"⟩
abbrev cX4_field : ByteArray := prog_1_method_21_code
def yX4_field : MethodName := ⟨RX4, "field", "(III)I"⟩
abbrev cX4_floats : ByteArray := prog_1_method_22_code
def yX4_floats : MethodName := ⟨RX4, "floats", "(I)I"⟩
abbrev cX4_where : ByteArray := prog_1_method_23_code
def yX4_where : MethodName := ⟨RX4, "where", "(IZ)I"⟩
abbrev cX4_seen : ByteArray := prog_1_method_25_code
def yX4_seen : MethodName := ⟨RX4, "seen", "(I)I"⟩
abbrev cX4_repeat : ByteArray := prog_1_method_26_code
def yX4_repeat : MethodName := ⟨RX4, "repeat", "(Z)I"⟩
abbrev cX4_hangs : ByteArray := prog_1_method_27_code
def yX4_hangs : MethodName := ⟨RX4, "hangs", "()Z"⟩
abbrev cX4_reach : ByteArray := prog_1_method_28_code
def yX4_reach : MethodName := ⟨RX4, "reach", "(Z)I"⟩
abbrev cX4_meanFloat : ByteArray := prog_1_method_29_code
def yX4_meanFloat : MethodName := ⟨RX4, "meanFloat", "()D"⟩
abbrev cX4_checkEnd : ByteArray := prog_1_method_30_code
def yX4_checkEnd : MethodName := ⟨RX4, "checkEnd", "(I)V"⟩
abbrev cX4_checkPick : ByteArray := prog_1_method_31_code
def yX4_checkPick : MethodName := ⟨RX4, "checkPick", "(I)V"⟩
abbrev cX4_checkLength : ByteArray := prog_1_method_32_code
def yX4_checkLength : MethodName := ⟨RX4, "checkLength", "(I)V"⟩
abbrev cX4_colourAt : ByteArray := prog_1_method_33_code
def yX4_colourAt : MethodName := ⟨RX4, "colourAt", "(II)I"⟩
abbrev cX4_floatWith : ByteArray := prog_1_method_34_code
def yX4_floatWith : MethodName := ⟨RX4, "floatWith", "(II)I"⟩
abbrev cX4_hangsWith : ByteArray := prog_1_method_35_code
def yX4_hangsWith : MethodName := ⟨RX4, "hangsWith", "(II)Z"⟩
abbrev cX4_lengthWith : ByteArray := prog_1_method_36_code
def yX4_lengthWith : MethodName := ⟨RX4, "lengthWith", "(II)I"⟩
abbrev cX4_changedBy : ByteArray := prog_1_method_37_code
def yX4_changedBy : MethodName := ⟨RX4, "changedBy", "(II)I"⟩
abbrev cX4_digest : ByteArray := prog_1_method_38_code
def yX4_digest : MethodName := ⟨RX4, "digest", "()J"⟩
abbrev cX4_digestOfProgram : ByteArray := prog_1_method_39_code
def yX4_digestOfProgram : MethodName := ⟨RX4, "digestOfProgram", "(JI)J"⟩
abbrev cX4_mixed : ByteArray := prog_1_method_40_code
def yX4_mixed : MethodName := ⟨RX4, "mixed", "(JI)J"⟩
abbrev cX4_weaveTrialWith : ByteArray := prog_1_method_41_code
def yX4_weaveTrialWith : MethodName := ⟨RX4, "weaveTrialWith", "(II)V"⟩
abbrev cX4_weaveTrial : ByteArray := prog_1_method_42_code
def yX4_weaveTrial : MethodName := ⟨RX4, "weaveTrial", "()V"⟩
abbrev cX4_hasBit : ByteArray := prog_1_method_43_code
def yX4_hasBit : MethodName := ⟨RX4, "hasBit", "(II)Z"⟩
abbrev cX4_fullSet : ByteArray := prog_1_method_44_code
def yX4_fullSet : MethodName := ⟨RX4, "fullSet", "(I)I"⟩
abbrev cX4_firstBit : ByteArray := prog_1_method_45_code
def yX4_firstBit : MethodName := ⟨RX4, "firstBit", "(I)I"⟩
abbrev cX4_runStarts : ByteArray := prog_1_method_46_code
def yX4_runStarts : MethodName := ⟨RX4, "runStarts", "(II)I"⟩
abbrev cX4_longestRun : ByteArray := prog_1_method_47_code
def yX4_longestRun : MethodName := ⟨RX4, "longestRun", "(I)I"⟩
abbrev cX4_runAround : ByteArray := prog_1_method_48_code
def yX4_runAround : MethodName := ⟨RX4, "runAround", "(II)I"⟩
def RX5 : String := "TreadleLoomModel$Cloth"
def TX5 : u_T := fun k => match k with
  | _ => ("", "", "", false)
def tyX5 : Nat → FieldType := fun k => match k with
  | _ => .int
abbrev wsX50 : List Cond := u_ws RX5 TX5 0
theorem nmX5 : ∀ a, a < 0 → ∀ b, b < 0 → a ≠ b → (TX5 a).2.1 ≠ (TX5 b).2.1 := by decide +kernel
theorem tyX5_ok : ∀ k, k < 0 → parseFieldDescriptor (TX5 k).2.2.1 = some (tyX5 k) := by decide +kernel
def RX6 : String := "TreadleLoomModel$Group"
def TX6 : u_T := fun k => match k with
  | _ => ("", "", "", false)
def tyX6 : Nat → FieldType := fun k => match k with
  | _ => .int
abbrev wsX60 : List Cond := u_ws RX6 TX6 0
theorem nmX6 : ∀ a, a < 0 → ∀ b, b < 0 → a ≠ b → (TX6 a).2.1 ≠ (TX6 b).2.1 := by decide +kernel
theorem tyX6_ok : ∀ k, k < 0 → parseFieldDescriptor (TX6 k).2.2.1 = some (tyX6 k) := by decide +kernel
def RX7 : String := "TreadleLoomModel$Reading"
def TX7 : u_T := fun k => match k with
  | _ => ("", "", "", false)
def tyX7 : Nat → FieldType := fun k => match k with
  | _ => .int
abbrev wsX70 : List Cond := u_ws RX7 TX7 0
theorem nmX7 : ∀ a, a < 0 → ∀ b, b < 0 → a ≠ b → (TX7 a).2.1 ≠ (TX7 b).2.1 := by decide +kernel
theorem tyX7_ok : ∀ k, k < 0 → parseFieldDescriptor (TX7 k).2.2.1 = some (tyX7 k) := by decide +kernel
def RX8 : String := "TreadleLoomModel"
def TX8 : u_T := fun k => match k with
  | _ => ("", "", "", false)
def tyX8 : Nat → FieldType := fun k => match k with
  | _ => .int
abbrev wsX80 : List Cond := u_ws RX8 TX8 0
theorem nmX8 : ∀ a, a < 0 → ∀ b, b < 0 → a ≠ b → (TX8 a).2.1 ≠ (TX8 b).2.1 := by decide +kernel
theorem tyX8_ok : ∀ k, k < 0 → parseFieldDescriptor (TX8 k).2.2.1 = some (tyX8 k) := by decide +kernel
def RJx145de : String := "java/io/Serializable"
def TJx145de : u_T := fun k => match k with
  | _ => ("", "", "", false)
def tyJx145de : Nat → FieldType := fun k => match k with
  | _ => .int
abbrev wsJx145de0 : List Cond := u_ws RJx145de TJx145de 0
theorem nmJx145de : ∀ a, a < 0 → ∀ b, b < 0 → a ≠ b → (TJx145de a).2.1 ≠ (TJx145de b).2.1 := by decide +kernel
theorem tyJx145de_ok : ∀ k, k < 0 → parseFieldDescriptor (TJx145de k).2.2.1 = some (tyJx145de k) := by decide +kernel
def RJxb160c : String := "java/lang/Comparable"
def TJxb160c : u_T := fun k => match k with
  | _ => ("", "", "", false)
def tyJxb160c : Nat → FieldType := fun k => match k with
  | _ => .int
abbrev wsJxb160c0 : List Cond := u_ws RJxb160c TJxb160c 0
theorem nmJxb160c : ∀ a, a < 0 → ∀ b, b < 0 → a ≠ b → (TJxb160c a).2.1 ≠ (TJxb160c b).2.1 := by decide +kernel
theorem tyJxb160c_ok : ∀ k, k < 0 → parseFieldDescriptor (TJxb160c k).2.2.1 = some (tyJxb160c k) := by decide +kernel
def RJxe99ae : String := "java/lang/Double"
def TJxe99ae : u_T := fun k => match k with
  | _ => ("", "", "", false)
def tyJxe99ae : Nat → FieldType := fun k => match k with
  | _ => .int
abbrev wsJxe99ae0 : List Cond := u_ws RJxe99ae TJxe99ae 0
theorem nmJxe99ae : ∀ a, a < 0 → ∀ b, b < 0 → a ≠ b → (TJxe99ae a).2.1 ≠ (TJxe99ae b).2.1 := by decide +kernel
theorem tyJxe99ae_ok : ∀ k, k < 0 → parseFieldDescriptor (TJxe99ae k).2.2.1 = some (tyJxe99ae k) := by decide +kernel
def RJ6 : String := "java/lang/Integer"
def TJ6 : u_T := fun k => match k with
  | _ => ("", "", "", false)
def tyJ6 : Nat → FieldType := fun k => match k with
  | _ => .int
abbrev wsJ60 : List Cond := u_ws RJ6 TJ6 0
theorem nmJ6 : ∀ a, a < 0 → ∀ b, b < 0 → a ≠ b → (TJ6 a).2.1 ≠ (TJ6 b).2.1 := by decide +kernel
theorem tyJ6_ok : ∀ k, k < 0 → parseFieldDescriptor (TJ6 k).2.2.1 = some (tyJ6 k) := by decide +kernel
abbrev cJ6_bitCount_0f7a4 : ByteArray := prog_16_method_49_code
def yJ6_bitCount_0f7a4 : MethodName := ⟨RJ6, "bitCount", "(I)I"⟩
def RJ9 : String := "java/lang/Math"
def TJ9 : u_T := fun k => match k with
  | _ => ("", "", "", false)
def tyJ9 : Nat → FieldType := fun k => match k with
  | _ => .int
abbrev wsJ90 : List Cond := u_ws RJ9 TJ9 0
theorem nmJ9 : ∀ a, a < 0 → ∀ b, b < 0 → a ≠ b → (TJ9 a).2.1 ≠ (TJ9 b).2.1 := by decide +kernel
theorem tyJ9_ok : ∀ k, k < 0 → parseFieldDescriptor (TJ9 k).2.2.1 = some (tyJ9 k) := by decide +kernel
abbrev cJ9_abs_294c1 : ByteArray := prog_17_method_64_code
def yJ9_abs_294c1 : MethodName := ⟨RJ9, "abs", "(D)D"⟩
abbrev cJ9_max_7cf53 : ByteArray := prog_17_method_65_code
def yJ9_max_7cf53 : MethodName := ⟨RJ9, "max", "(II)I"⟩
abbrev cJ9_min_7cf53 : ByteArray := prog_17_method_69_code
def yJ9_min_7cf53 : MethodName := ⟨RJ9, "min", "(II)I"⟩
def RJxd2413 : String := "java/lang/Number"
def TJxd2413 : u_T := fun k => match k with
  | _ => ("", "", "", false)
def tyJxd2413 : Nat → FieldType := fun k => match k with
  | _ => .int
abbrev wsJxd24130 : List Cond := u_ws RJxd2413 TJxd2413 0
theorem nmJxd2413 : ∀ a, a < 0 → ∀ b, b < 0 → a ≠ b → (TJxd2413 a).2.1 ≠ (TJxd2413 b).2.1 := by decide +kernel
theorem tyJxd2413_ok : ∀ k, k < 0 → parseFieldDescriptor (TJxd2413 k).2.2.1 = some (tyJxd2413 k) := by decide +kernel
def RJ0 : String := "java/lang/String"
def TJ0 : u_T := fun k => match k with
  | _ => ("", "", "", false)
def tyJ0 : Nat → FieldType := fun k => match k with
  | _ => .int
abbrev wsJ00 : List Cond := u_ws RJ0 TJ0 0
theorem nmJ0 : ∀ a, a < 0 → ∀ b, b < 0 → a ≠ b → (TJ0 a).2.1 ≠ (TJ0 b).2.1 := by decide +kernel
theorem tyJ0_ok : ∀ k, k < 0 → parseFieldDescriptor (TJ0 k).2.2.1 = some (tyJ0 k) := by decide +kernel
def RJxfd54e : String := "java/lang/constant/Constable"
def TJxfd54e : u_T := fun k => match k with
  | _ => ("", "", "", false)
def tyJxfd54e : Nat → FieldType := fun k => match k with
  | _ => .int
abbrev wsJxfd54e0 : List Cond := u_ws RJxfd54e TJxfd54e 0
theorem nmJxfd54e : ∀ a, a < 0 → ∀ b, b < 0 → a ≠ b → (TJxfd54e a).2.1 ≠ (TJxfd54e b).2.1 := by decide +kernel
theorem tyJxfd54e_ok : ∀ k, k < 0 → parseFieldDescriptor (TJxfd54e k).2.2.1 = some (tyJxfd54e k) := by decide +kernel
def RJx3cf43 : String := "java/lang/constant/ConstantDesc"
def TJx3cf43 : u_T := fun k => match k with
  | _ => ("", "", "", false)
def tyJx3cf43 : Nat → FieldType := fun k => match k with
  | _ => .int
abbrev wsJx3cf430 : List Cond := u_ws RJx3cf43 TJx3cf43 0
theorem nmJx3cf43 : ∀ a, a < 0 → ∀ b, b < 0 → a ≠ b → (TJx3cf43 a).2.1 ≠ (TJx3cf43 b).2.1 := by decide +kernel
theorem tyJx3cf43_ok : ∀ k, k < 0 → parseFieldDescriptor (TJx3cf43 k).2.2.1 = some (tyJx3cf43 k) := by decide +kernel
def RL : String := "TreadleLoomLaw"
abbrev cL_below : ByteArray := method_2_code
def yL_below : MethodName := ⟨RL, "below", "(II)I"⟩
abbrev cL_cell : ByteArray := method_3_code
def yL_cell : MethodName := ⟨RL, "cell", "([II)I"⟩
abbrev cL_law : ByteArray := code
def yL_law : MethodName := ⟨RL, "law", "([I)Z"⟩
def wsX3_init : List Cond := .code yX3_init cX3_init 2 none :: ([.methodLink RX3 1 objectInit, .instanceMethod objectInit, .code objectInit ⟨#[0xb1]⟩ 1 none, .methodLink RX3 7 Lib.Math.max.name, .static Lib.Math.max.name, .initialized "java/lang/Math", .code Lib.Math.max.name Lib.Math.max.code 2 (some .int), .arrayClass .int, .fieldLink RX3 13 "TreadleLoom$Row" "cells" "[I"] ++ wsX30)
def wsX0_init : List Cond := .code yX0_init cX0_init 1 none :: ([.methodLink RX0 3 objectInit, .instanceMethod objectInit, .code objectInit ⟨#[0xb1]⟩ 1 none, .classLink RX0 9 RX3, .instantiable RX3 2, .initialized RX3, .fieldLink RX0 14 "TreadleLoom$Cloth" "ends" "LTreadleLoom$Row;", .fieldLink RX0 20 "TreadleLoom$Cloth" "picks" "LTreadleLoom$Row;", .methodLink RX0 11 yX3_init, .instanceMethod yX3_init, .code yX3_init cX3_init 2 none, .methodLink RX3 1 objectInit, .methodLink RX3 7 Lib.Math.max.name, .static Lib.Math.max.name, .initialized "java/lang/Math", .code Lib.Math.max.name Lib.Math.max.code 2 (some .int), .arrayClass .int, .fieldLink RX3 13 "TreadleLoom$Row" "cells" "[I"] ++ wsX30 ++ wsX00)
def wsX3_clear : List Cond := .code yX3_clear cX3_clear 1 none :: ([.fieldLink RX3 19 "TreadleLoom$Row" "size" "I"] ++ wsX30)
def wsX3_add : List Cond := .code yX3_add cX3_add 2 none :: ([.fieldLink RX3 19 "TreadleLoom$Row" "size" "I", .fieldLink RX3 13 "TreadleLoom$Row" "cells" "[I"] ++ wsX30)
def wsX3_at : List Cond := .code yX3_at cX3_at 2 (some .int) :: ([.fieldLink RX3 19 "TreadleLoom$Row" "size" "I", .fieldLink RX3 13 "TreadleLoom$Row" "cells" "[I"] ++ wsX30)
def wsX4_hasBit : List Cond := .code yX4_hasBit cX4_hasBit 2 (some .boolean) :: ([])
def wsX3_put : List Cond := .code yX3_put cX3_put 3 none :: ([.fieldLink RX3 19 "TreadleLoom$Row" "size" "I", .fieldLink RX3 13 "TreadleLoom$Row" "cells" "[I"] ++ wsX30)
def wsX0_weave : List Cond := .code yX0_weave cX0_weave 8 none :: ([.fieldLink RX0 14 "TreadleLoom$Cloth" "ends" "LTreadleLoom$Row;", .fieldLink RX0 20 "TreadleLoom$Cloth" "picks" "LTreadleLoom$Row;", .methodLink RX0 23 yX3_clear, .instanceMethod yX3_clear, .selects RX3 yX3_clear yX3_clear, .initialized RX3, .code yX3_clear cX3_clear 1 none, .fieldLink RX3 19 "TreadleLoom$Row" "size" "I", .methodLink RX0 30 yX3_add, .instanceMethod yX3_add, .selects RX3 yX3_add yX3_add, .code yX3_add cX3_add 2 none, .fieldLink RX3 13 "TreadleLoom$Row" "cells" "[I", .methodLink RX0 33 yX3_at, .instanceMethod yX3_at, .selects RX3 yX3_at yX3_at, .code yX3_at cX3_at 2 (some .int), .static yX4_hasBit, .initialized RX4, .code yX4_hasBit cX4_hasBit 2 (some .boolean), .methodLink RX0 41 yX3_put, .instanceMethod yX3_put, .selects RX3 yX3_put yX3_put, .code yX3_put cX3_put 3 none] ++ wsX00 ++ wsX30)
def wsX0_hasFields : List Cond := .code yX0_hasFields cX0_hasFields 1 (some .boolean) :: ([.fieldLink RX0 14 "TreadleLoom$Cloth" "ends" "LTreadleLoom$Row;", .fieldLink RX0 20 "TreadleLoom$Cloth" "picks" "LTreadleLoom$Row;"] ++ wsX00 ++ wsX30)
def wsX0_isUp : List Cond := .code yX0_isUp cX0_isUp 3 (some .boolean) :: ([.fieldLink RX0 14 "TreadleLoom$Cloth" "ends" "LTreadleLoom$Row;", .methodLink RX0 33 yX3_at, .instanceMethod yX3_at, .selects RX3 yX3_at yX3_at, .initialized RX3, .code yX3_at cX3_at 2 (some .int), .fieldLink RX3 19 "TreadleLoom$Row" "size" "I", .fieldLink RX3 13 "TreadleLoom$Row" "cells" "[I", .static yX4_hasBit, .initialized RX4, .code yX4_hasBit cX4_hasBit 2 (some .boolean)] ++ wsX00 ++ wsX30)
def wsX4_runAround : List Cond := .code yX4_runAround cX4_runAround 4 (some .int) :: ([.methodLink RX4 291 yX4_hasBit, .static yX4_hasBit, .initialized RX4, .code yX4_hasBit cX4_hasBit 2 (some .boolean)])
def wsX0_floatAt : List Cond := .code yX0_floatAt cX0_floatAt 3 (some .int) :: ([.fieldLink RX0 14 "TreadleLoom$Cloth" "ends" "LTreadleLoom$Row;", .fieldLink RX0 20 "TreadleLoom$Cloth" "picks" "LTreadleLoom$Row;", .methodLink RX0 45 yX0_isUp, .instanceMethod yX0_isUp, .selects RX0 yX0_isUp yX0_isUp, .initialized RX0, .code yX0_isUp cX0_isUp 3 (some .boolean), .methodLink RX0 33 yX3_at, .instanceMethod yX3_at, .selects RX3 yX3_at yX3_at, .initialized RX3, .code yX3_at cX3_at 2 (some .int), .fieldLink RX3 19 "TreadleLoom$Row" "size" "I", .fieldLink RX3 13 "TreadleLoom$Row" "cells" "[I", .static yX4_hasBit, .initialized RX4, .code yX4_hasBit cX4_hasBit 2 (some .boolean), .static yX4_runAround, .code yX4_runAround cX4_runAround 4 (some .int), .methodLink RX4 291 yX4_hasBit] ++ wsX00 ++ wsX30)
def wsX4_runStarts : List Cond := .code yX4_runStarts cX4_runStarts 4 (some .int) :: ([])
def wsJ6_bitCount_0f7a4 : List Cond := .code yJ6_bitCount_0f7a4 cJ6_bitCount_0f7a4 1 (some .int) :: ([.constant RJ6 265 (1431655765), .constant RJ6 266 (858993459), .constant RJ6 267 (252645135)])
def wsX3_countRuns : List Cond := .code yX3_countRuns cX3_countRuns 4 (some .int) :: ([.fieldLink RX3 19 "TreadleLoom$Row" "size" "I", .methodLink RX3 23 yX3_at, .instanceMethod yX3_at, .selects RX3 yX3_at yX3_at, .initialized RX3, .code yX3_at cX3_at 2 (some .int), .fieldLink RX3 13 "TreadleLoom$Row" "cells" "[I", .static yX4_runStarts, .initialized RX4, .code yX4_runStarts cX4_runStarts 4 (some .int), .methodLink RX3 52 yJ6_bitCount_0f7a4, .static yJ6_bitCount_0f7a4, .initialized RJ6, .code yJ6_bitCount_0f7a4 cJ6_bitCount_0f7a4 1 (some .int), .constant RJ6 265 (1431655765), .constant RJ6 266 (858993459), .constant RJ6 267 (252645135)] ++ wsX30)
def wsX0_countFloats : List Cond := .code yX0_countFloats cX0_countFloats 2 (some .int) :: ([.fieldLink RX0 14 "TreadleLoom$Cloth" "ends" "LTreadleLoom$Row;", .fieldLink RX0 20 "TreadleLoom$Cloth" "picks" "LTreadleLoom$Row;", .methodLink RX0 52 yX3_countRuns, .instanceMethod yX3_countRuns, .selects RX3 yX3_countRuns yX3_countRuns, .initialized RX3, .code yX3_countRuns cX3_countRuns 4 (some .int), .fieldLink RX3 19 "TreadleLoom$Row" "size" "I", .methodLink RX3 23 yX3_at, .instanceMethod yX3_at, .selects RX3 yX3_at yX3_at, .code yX3_at cX3_at 2 (some .int), .fieldLink RX3 13 "TreadleLoom$Row" "cells" "[I", .static yX4_runStarts, .initialized RX4, .code yX4_runStarts cX4_runStarts 4 (some .int), .methodLink RX3 52 yJ6_bitCount_0f7a4, .static yJ6_bitCount_0f7a4, .initialized RJ6, .code yJ6_bitCount_0f7a4 cJ6_bitCount_0f7a4 1 (some .int), .constant RJ6 265 (1431655765), .constant RJ6 266 (858993459), .constant RJ6 267 (252645135)] ++ wsX00 ++ wsX30)
def wsX4_longestRun : List Cond := .code yX4_longestRun cX4_longestRun 3 (some .int) :: ([])
def wsX3_longestOfRuns : List Cond := .code yX3_longestOfRuns cX3_longestOfRuns 3 (some .int) :: ([.fieldLink RX3 19 "TreadleLoom$Row" "size" "I", .methodLink RX3 7 Lib.Math.max.name, .static Lib.Math.max.name, .initialized "java/lang/Math", .code Lib.Math.max.name Lib.Math.max.code 2 (some .int), .methodLink RX3 23 yX3_at, .instanceMethod yX3_at, .selects RX3 yX3_at yX3_at, .initialized RX3, .code yX3_at cX3_at 2 (some .int), .fieldLink RX3 13 "TreadleLoom$Row" "cells" "[I", .static yX4_longestRun, .initialized RX4, .code yX4_longestRun cX4_longestRun 3 (some .int)] ++ wsX30)
def wsX0_longestFloat : List Cond := .code yX0_longestFloat cX0_longestFloat 1 (some .int) :: ([.fieldLink RX0 14 "TreadleLoom$Cloth" "ends" "LTreadleLoom$Row;", .fieldLink RX0 20 "TreadleLoom$Cloth" "picks" "LTreadleLoom$Row;", .methodLink RX0 59 Lib.Math.max.name, .static Lib.Math.max.name, .initialized "java/lang/Math", .code Lib.Math.max.name Lib.Math.max.code 2 (some .int), .methodLink RX0 55 yX3_longestOfRuns, .instanceMethod yX3_longestOfRuns, .selects RX3 yX3_longestOfRuns yX3_longestOfRuns, .initialized RX3, .code yX3_longestOfRuns cX3_longestOfRuns 3 (some .int), .fieldLink RX3 19 "TreadleLoom$Row" "size" "I", .methodLink RX3 7 Lib.Math.max.name, .methodLink RX3 23 yX3_at, .instanceMethod yX3_at, .selects RX3 yX3_at yX3_at, .code yX3_at cX3_at 2 (some .int), .fieldLink RX3 13 "TreadleLoom$Row" "cells" "[I", .static yX4_longestRun, .initialized RX4, .code yX4_longestRun cX4_longestRun 3 (some .int)] ++ wsX00 ++ wsX30)
def wsX4_fullSet : List Cond := .code yX4_fullSet cX4_fullSet 1 (some .int) :: ([])
def wsX0_nextTo : List Cond := .code yX0_nextTo cX0_nextTo 6 (some .int) :: ([.static yX4_hasBit, .initialized RX4, .code yX4_hasBit cX4_hasBit 2 (some .boolean), .methodLink RX0 33 yX3_at, .instanceMethod yX3_at, .selects RX3 yX3_at yX3_at, .initialized RX3, .code yX3_at cX3_at 2 (some .int), .fieldLink RX3 19 "TreadleLoom$Row" "size" "I", .fieldLink RX3 13 "TreadleLoom$Row" "cells" "[I", .static yX4_fullSet, .code yX4_fullSet cX4_fullSet 1 (some .int)] ++ wsX30)
def wsX0_endsReached : List Cond := .code yX0_endsReached cX0_endsReached 6 (some .int) :: ([.fieldLink RX0 14 "TreadleLoom$Cloth" "ends" "LTreadleLoom$Row;", .fieldLink RX0 20 "TreadleLoom$Cloth" "picks" "LTreadleLoom$Row;", .methodLink RX0 82 yX0_nextTo, .static yX0_nextTo, .initialized RX0, .code yX0_nextTo cX0_nextTo 6 (some .int), .static yX4_hasBit, .initialized RX4, .code yX4_hasBit cX4_hasBit 2 (some .boolean), .methodLink RX0 33 yX3_at, .instanceMethod yX3_at, .selects RX3 yX3_at yX3_at, .initialized RX3, .code yX3_at cX3_at 2 (some .int), .fieldLink RX3 19 "TreadleLoom$Row" "size" "I", .fieldLink RX3 13 "TreadleLoom$Row" "cells" "[I", .static yX4_fullSet, .code yX4_fullSet cX4_fullSet 1 (some .int)] ++ wsX00 ++ wsX30)
def wsX0_picksReached : List Cond := .code yX0_picksReached cX0_picksReached 2 (some .int) :: ([.fieldLink RX0 14 "TreadleLoom$Cloth" "ends" "LTreadleLoom$Row;", .fieldLink RX0 20 "TreadleLoom$Cloth" "picks" "LTreadleLoom$Row;", .methodLink RX0 72 yX0_endsReached, .instanceMethod yX0_endsReached, .selects RX0 yX0_endsReached yX0_endsReached, .initialized RX0, .code yX0_endsReached cX0_endsReached 6 (some .int), .methodLink RX0 82 yX0_nextTo, .static yX0_nextTo, .code yX0_nextTo cX0_nextTo 6 (some .int), .static yX4_hasBit, .initialized RX4, .code yX4_hasBit cX4_hasBit 2 (some .boolean), .methodLink RX0 33 yX3_at, .instanceMethod yX3_at, .selects RX3 yX3_at yX3_at, .initialized RX3, .code yX3_at cX3_at 2 (some .int), .fieldLink RX3 19 "TreadleLoom$Row" "size" "I", .fieldLink RX3 13 "TreadleLoom$Row" "cells" "[I", .static yX4_fullSet, .code yX4_fullSet cX4_fullSet 1 (some .int)] ++ wsX00 ++ wsX30)
def wsX0_isAllReached_r1 : List Cond := [Cond.fieldLink RX0 14 "TreadleLoom$Cloth" "ends" "LTreadleLoom$Row;", Cond.fieldLink RX0 20 "TreadleLoom$Cloth" "picks" "LTreadleLoom$Row;", Cond.methodLink RX0 72 yX0_endsReached, Cond.instanceMethod yX0_endsReached, Cond.selects RX0 yX0_endsReached yX0_endsReached, Cond.initialized RX0, Cond.code yX0_endsReached cX0_endsReached 6 (some .int), Cond.methodLink RX0 82 yX0_nextTo, Cond.static yX0_nextTo, Cond.code yX0_nextTo cX0_nextTo 6 (some .int), Cond.static yX4_hasBit, Cond.initialized RX4, Cond.code yX4_hasBit cX4_hasBit 2 (some .boolean), Cond.methodLink RX0 33 yX3_at, Cond.instanceMethod yX3_at, Cond.selects RX3 yX3_at yX3_at, Cond.initialized RX3, Cond.code yX3_at cX3_at 2 (some .int), Cond.fieldLink RX3 19 "TreadleLoom$Row" "size" "I", Cond.fieldLink RX3 13 "TreadleLoom$Row" "cells" "[I", Cond.static yX4_fullSet, Cond.code yX4_fullSet cX4_fullSet 1 (some .int), Cond.methodLink RX0 79 yX0_picksReached, Cond.instanceMethod yX0_picksReached]
def wsX0_isAllReached_r2 : List Cond := [Cond.selects RX0 yX0_picksReached yX0_picksReached, Cond.code yX0_picksReached cX0_picksReached 2 (some .int)]
def wsX0_isAllReached : List Cond := .code yX0_isAllReached cX0_isAllReached 2 (some .boolean) :: ((wsX0_isAllReached_r1 ++ wsX0_isAllReached_r2) ++ wsX00 ++ wsX30)
def wsX0_isConnected_r1 : List Cond := [Cond.methodLink RX0 64 yX0_hasFields, Cond.instanceMethod yX0_hasFields, Cond.selects RX0 yX0_hasFields yX0_hasFields, Cond.initialized RX0, Cond.code yX0_hasFields cX0_hasFields 1 (some .boolean), Cond.fieldLink RX0 14 "TreadleLoom$Cloth" "ends" "LTreadleLoom$Row;", Cond.fieldLink RX0 20 "TreadleLoom$Cloth" "picks" "LTreadleLoom$Row;", Cond.methodLink RX0 68 yX0_isAllReached, Cond.instanceMethod yX0_isAllReached, Cond.selects RX0 yX0_isAllReached yX0_isAllReached, Cond.code yX0_isAllReached cX0_isAllReached 2 (some .boolean), Cond.methodLink RX0 72 yX0_endsReached, Cond.instanceMethod yX0_endsReached, Cond.selects RX0 yX0_endsReached yX0_endsReached, Cond.code yX0_endsReached cX0_endsReached 6 (some .int), Cond.methodLink RX0 82 yX0_nextTo, Cond.static yX0_nextTo, Cond.code yX0_nextTo cX0_nextTo 6 (some .int), Cond.static yX4_hasBit, Cond.initialized RX4, Cond.code yX4_hasBit cX4_hasBit 2 (some .boolean), Cond.methodLink RX0 33 yX3_at, Cond.instanceMethod yX3_at, Cond.selects RX3 yX3_at yX3_at]
def wsX0_isConnected_r2 : List Cond := [Cond.initialized RX3, Cond.code yX3_at cX3_at 2 (some .int), Cond.fieldLink RX3 19 "TreadleLoom$Row" "size" "I", Cond.fieldLink RX3 13 "TreadleLoom$Row" "cells" "[I", Cond.static yX4_fullSet, Cond.code yX4_fullSet cX4_fullSet 1 (some .int), Cond.methodLink RX0 79 yX0_picksReached, Cond.instanceMethod yX0_picksReached, Cond.selects RX0 yX0_picksReached yX0_picksReached, Cond.code yX0_picksReached cX0_picksReached 2 (some .int)]
def wsX0_isConnected : List Cond := .code yX0_isConnected cX0_isConnected 1 (some .boolean) :: ((wsX0_isConnected_r1 ++ wsX0_isConnected_r2) ++ wsX00 ++ wsX30)
def wsX1_init : List Cond := .code yX1_init cX1_init 1 none :: ([.methodLink RX1 3 objectInit, .instanceMethod objectInit, .code objectInit ⟨#[0xb1]⟩ 1 none, .classLink RX1 9 RX3, .instantiable RX3 2, .initialized RX3, .fieldLink RX1 16 "TreadleLoom$Compiler" "numbers" "LTreadleLoom$Row;", .fieldLink RX1 20 "TreadleLoom$Compiler" "outerStarts" "LTreadleLoom$Row;", .methodLink RX1 13 yX3_init, .instanceMethod yX3_init, .code yX3_init cX3_init 2 none, .methodLink RX3 1 objectInit, .methodLink RX3 7 Lib.Math.max.name, .static Lib.Math.max.name, .initialized "java/lang/Math", .code Lib.Math.max.name Lib.Math.max.code 2 (some .int), .arrayClass .int, .fieldLink RX3 13 "TreadleLoom$Row" "cells" "[I"] ++ wsX30 ++ wsX10)
def wsX1_hasRoom : List Cond := .code yX1_hasRoom cX1_hasRoom 2 (some .boolean) :: ([.fieldLink RX1 16 "TreadleLoom$Compiler" "numbers" "LTreadleLoom$Row;", .fieldLink RX1 26 "TreadleLoom$Compiler" "groupStart" "I"] ++ wsX10 ++ wsX30)
def wsX1_beginItem : List Cond := .code yX1_beginItem cX1_beginItem 1 none :: ([.fieldLink RX1 16 "TreadleLoom$Compiler" "numbers" "LTreadleLoom$Row;", .fieldLink RX1 30 "TreadleLoom$Compiler" "itemStart" "I"] ++ wsX10 ++ wsX30)
def wsX1_addNumber : List Cond := .code yX1_addNumber cX1_addNumber 2 (some .int) :: ([.fieldLink RX1 16 "TreadleLoom$Compiler" "numbers" "LTreadleLoom$Row;", .methodLink RX1 82 yX1_hasRoom, .instanceMethod yX1_hasRoom, .selects RX1 yX1_hasRoom yX1_hasRoom, .initialized RX1, .code yX1_hasRoom cX1_hasRoom 2 (some .boolean), .fieldLink RX1 26 "TreadleLoom$Compiler" "groupStart" "I", .methodLink RX1 86 yX1_beginItem, .instanceMethod yX1_beginItem, .selects RX1 yX1_beginItem yX1_beginItem, .code yX1_beginItem cX1_beginItem 1 none, .fieldLink RX1 30 "TreadleLoom$Compiler" "itemStart" "I", .methodLink RX1 73 yX3_add, .instanceMethod yX3_add, .selects RX3 yX3_add yX3_add, .initialized RX3, .code yX3_add cX3_add 2 none, .fieldLink RX3 19 "TreadleLoom$Row" "size" "I", .fieldLink RX3 13 "TreadleLoom$Row" "cells" "[I"] ++ wsX10 ++ wsX30)
def wsX1_openGroup : List Cond := .code yX1_openGroup cX1_openGroup 1 none :: ([.fieldLink RX1 20 "TreadleLoom$Compiler" "outerStarts" "LTreadleLoom$Row;", .fieldLink RX1 26 "TreadleLoom$Compiler" "groupStart" "I", .fieldLink RX1 16 "TreadleLoom$Compiler" "numbers" "LTreadleLoom$Row;", .fieldLink RX1 30 "TreadleLoom$Compiler" "itemStart" "I", .methodLink RX1 73 yX3_add, .instanceMethod yX3_add, .selects RX3 yX3_add yX3_add, .initialized RX3, .code yX3_add cX3_add 2 none, .fieldLink RX3 19 "TreadleLoom$Row" "size" "I", .fieldLink RX3 13 "TreadleLoom$Row" "cells" "[I"] ++ wsX10 ++ wsX30)
def wsX3_last : List Cond := .code yX3_last cX3_last 1 (some .int) :: ([.fieldLink RX3 19 "TreadleLoom$Row" "size" "I", .methodLink RX3 23 yX3_at, .instanceMethod yX3_at, .selects RX3 yX3_at yX3_at, .initialized RX3, .code yX3_at cX3_at 2 (some .int), .fieldLink RX3 13 "TreadleLoom$Row" "cells" "[I"] ++ wsX30)
def wsX3_cutTo : List Cond := .code yX3_cutTo cX3_cutTo 2 none :: ([.fieldLink RX3 19 "TreadleLoom$Row" "size" "I", .methodLink RX3 27 Lib.Math.min.name, .static Lib.Math.min.name, .initialized "java/lang/Math", .code Lib.Math.min.name Lib.Math.min.code 2 (some .int), .methodLink RX3 7 Lib.Math.max.name, .static Lib.Math.max.name, .code Lib.Math.max.name Lib.Math.max.code 2 (some .int)] ++ wsX30)
def wsX1_closeGroup_r1 : List Cond := [Cond.fieldLink RX1 20 "TreadleLoom$Compiler" "outerStarts" "LTreadleLoom$Row;", Cond.fieldLink RX1 26 "TreadleLoom$Compiler" "groupStart" "I", Cond.fieldLink RX1 30 "TreadleLoom$Compiler" "itemStart" "I", Cond.methodLink RX1 76 yX3_last, Cond.instanceMethod yX3_last, Cond.selects RX3 yX3_last yX3_last, Cond.initialized RX3, Cond.code yX3_last cX3_last 1 (some .int), Cond.fieldLink RX3 19 "TreadleLoom$Row" "size" "I", Cond.methodLink RX3 23 yX3_at, Cond.instanceMethod yX3_at, Cond.selects RX3 yX3_at yX3_at, Cond.code yX3_at cX3_at 2 (some .int), Cond.fieldLink RX3 13 "TreadleLoom$Row" "cells" "[I", Cond.methodLink RX1 79 yX3_cutTo, Cond.instanceMethod yX3_cutTo, Cond.selects RX3 yX3_cutTo yX3_cutTo, Cond.code yX3_cutTo cX3_cutTo 2 none, Cond.methodLink RX3 27 Lib.Math.min.name, Cond.static Lib.Math.min.name, Cond.initialized "java/lang/Math", Cond.code Lib.Math.min.name Lib.Math.min.code 2 (some .int), Cond.methodLink RX3 7 Lib.Math.max.name, Cond.static Lib.Math.max.name]
def wsX1_closeGroup_r2 : List Cond := [Cond.code Lib.Math.max.name Lib.Math.max.code 2 (some .int), Cond.methodLink RX1 82 yX1_hasRoom, Cond.instanceMethod yX1_hasRoom, Cond.selects RX1 yX1_hasRoom yX1_hasRoom, Cond.initialized RX1, Cond.code yX1_hasRoom cX1_hasRoom 2 (some .boolean), Cond.fieldLink RX1 16 "TreadleLoom$Compiler" "numbers" "LTreadleLoom$Row;"]
def wsX1_closeGroup : List Cond := .code yX1_closeGroup cX1_closeGroup 1 (some .int) :: ((wsX1_closeGroup_r1 ++ wsX1_closeGroup_r2) ++ wsX10 ++ wsX30)
def wsX3_addAll : List Cond := .code yX3_addAll cX3_addAll 3 none :: ([.fieldLink RX3 19 "TreadleLoom$Row" "size" "I", .methodLink RX3 23 yX3_at, .instanceMethod yX3_at, .selects RX3 yX3_at yX3_at, .initialized RX3, .code yX3_at cX3_at 2 (some .int), .fieldLink RX3 13 "TreadleLoom$Row" "cells" "[I", .methodLink RX3 37 yX3_add, .instanceMethod yX3_add, .selects RX3 yX3_add yX3_add, .code yX3_add cX3_add 2 none] ++ wsX30)
def wsX1_addBlock_r1 : List Cond := [Cond.fieldLink RX1 16 "TreadleLoom$Compiler" "numbers" "LTreadleLoom$Row;", Cond.methodLink RX1 82 yX1_hasRoom, Cond.instanceMethod yX1_hasRoom, Cond.selects RX1 yX1_hasRoom yX1_hasRoom, Cond.initialized RX1, Cond.code yX1_hasRoom cX1_hasRoom 2 (some .boolean), Cond.fieldLink RX1 26 "TreadleLoom$Compiler" "groupStart" "I", Cond.methodLink RX1 86 yX1_beginItem, Cond.instanceMethod yX1_beginItem, Cond.selects RX1 yX1_beginItem yX1_beginItem, Cond.code yX1_beginItem cX1_beginItem 1 none, Cond.fieldLink RX1 30 "TreadleLoom$Compiler" "itemStart" "I", Cond.methodLink RX1 93 yX3_addAll, Cond.instanceMethod yX3_addAll, Cond.selects RX3 yX3_addAll yX3_addAll, Cond.initialized RX3, Cond.code yX3_addAll cX3_addAll 3 none, Cond.fieldLink RX3 19 "TreadleLoom$Row" "size" "I", Cond.methodLink RX3 23 yX3_at, Cond.instanceMethod yX3_at, Cond.selects RX3 yX3_at yX3_at, Cond.code yX3_at cX3_at 2 (some .int), Cond.fieldLink RX3 13 "TreadleLoom$Row" "cells" "[I", Cond.methodLink RX3 37 yX3_add]
def wsX1_addBlock_r2 : List Cond := [Cond.instanceMethod yX3_add, Cond.selects RX3 yX3_add yX3_add, Cond.code yX3_add cX3_add 2 none]
def wsX1_addBlock : List Cond := .code yX1_addBlock cX1_addBlock 6 (some .int) :: ((wsX1_addBlock_r1 ++ wsX1_addBlock_r2) ++ wsX20 ++ wsX30 ++ wsX10)
def wsX3_turnFrom : List Cond := .code yX3_turnFrom cX3_turnFrom 5 none :: ([.fieldLink RX3 19 "TreadleLoom$Row" "size" "I", .methodLink RX3 23 yX3_at, .instanceMethod yX3_at, .selects RX3 yX3_at yX3_at, .initialized RX3, .code yX3_at cX3_at 2 (some .int), .fieldLink RX3 13 "TreadleLoom$Row" "cells" "[I", .methodLink RX3 41 yX3_put, .instanceMethod yX3_put, .selects RX3 yX3_put yX3_put, .code yX3_put cX3_put 3 none] ++ wsX30)
def wsX1_addMirror_r1 : List Cond := [Cond.fieldLink RX1 16 "TreadleLoom$Compiler" "numbers" "LTreadleLoom$Row;", Cond.fieldLink RX1 26 "TreadleLoom$Compiler" "groupStart" "I", Cond.methodLink RX1 108 Lib.Math.max.name, Cond.static Lib.Math.max.name, Cond.initialized "java/lang/Math", Cond.code Lib.Math.max.name Lib.Math.max.code 2 (some .int), Cond.methodLink RX1 82 yX1_hasRoom, Cond.instanceMethod yX1_hasRoom, Cond.selects RX1 yX1_hasRoom yX1_hasRoom, Cond.initialized RX1, Cond.code yX1_hasRoom cX1_hasRoom 2 (some .boolean), Cond.methodLink RX1 86 yX1_beginItem, Cond.instanceMethod yX1_beginItem, Cond.selects RX1 yX1_beginItem yX1_beginItem, Cond.code yX1_beginItem cX1_beginItem 1 none, Cond.fieldLink RX1 30 "TreadleLoom$Compiler" "itemStart" "I", Cond.methodLink RX1 41 yX3_at, Cond.instanceMethod yX3_at, Cond.selects RX3 yX3_at yX3_at, Cond.initialized RX3, Cond.code yX3_at cX3_at 2 (some .int), Cond.fieldLink RX3 19 "TreadleLoom$Row" "size" "I", Cond.fieldLink RX3 13 "TreadleLoom$Row" "cells" "[I", Cond.methodLink RX1 73 yX3_add]
def wsX1_addMirror_r2 : List Cond := [Cond.instanceMethod yX3_add, Cond.selects RX3 yX3_add yX3_add, Cond.code yX3_add cX3_add 2 none]
def wsX1_addMirror : List Cond := .code yX1_addMirror cX1_addMirror 3 (some .int) :: ((wsX1_addMirror_r1 ++ wsX1_addMirror_r2) ++ wsX10 ++ wsX30)
def wsX1_raiseItem : List Cond := .code yX1_raiseItem cX1_raiseItem 3 none :: ([.fieldLink RX1 30 "TreadleLoom$Compiler" "itemStart" "I", .fieldLink RX1 16 "TreadleLoom$Compiler" "numbers" "LTreadleLoom$Row;", .methodLink RX1 41 yX3_at, .instanceMethod yX3_at, .selects RX3 yX3_at yX3_at, .initialized RX3, .code yX3_at cX3_at 2 (some .int), .fieldLink RX3 19 "TreadleLoom$Row" "size" "I", .fieldLink RX3 13 "TreadleLoom$Row" "cells" "[I", .methodLink RX1 114 yX3_put, .instanceMethod yX3_put, .selects RX3 yX3_put yX3_put, .code yX3_put cX3_put 3 none] ++ wsX10 ++ wsX30)
def wsX1_repeatItem : List Cond := .code yX1_repeatItem cX1_repeatItem 4 (some .int) :: ([.fieldLink RX1 16 "TreadleLoom$Compiler" "numbers" "LTreadleLoom$Row;", .fieldLink RX1 30 "TreadleLoom$Compiler" "itemStart" "I", .methodLink RX1 82 yX1_hasRoom, .instanceMethod yX1_hasRoom, .selects RX1 yX1_hasRoom yX1_hasRoom, .initialized RX1, .code yX1_hasRoom cX1_hasRoom 2 (some .boolean), .fieldLink RX1 26 "TreadleLoom$Compiler" "groupStart" "I", .methodLink RX1 41 yX3_at, .instanceMethod yX3_at, .selects RX3 yX3_at yX3_at, .initialized RX3, .code yX3_at cX3_at 2 (some .int), .fieldLink RX3 19 "TreadleLoom$Row" "size" "I", .fieldLink RX3 13 "TreadleLoom$Row" "cells" "[I", .methodLink RX1 73 yX3_add, .instanceMethod yX3_add, .selects RX3 yX3_add yX3_add, .code yX3_add cX3_add 2 none] ++ wsX10 ++ wsX30)
def wsX1_changeItem_r1 : List Cond := [Cond.fieldLink RX1 30 "TreadleLoom$Compiler" "itemStart" "I", Cond.fieldLink RX1 16 "TreadleLoom$Compiler" "numbers" "LTreadleLoom$Row;", Cond.methodLink RX1 96 yX3_turnFrom, Cond.instanceMethod yX3_turnFrom, Cond.selects RX3 yX3_turnFrom yX3_turnFrom, Cond.initialized RX3, Cond.code yX3_turnFrom cX3_turnFrom 5 none, Cond.fieldLink RX3 19 "TreadleLoom$Row" "size" "I", Cond.methodLink RX3 23 yX3_at, Cond.instanceMethod yX3_at, Cond.selects RX3 yX3_at yX3_at, Cond.code yX3_at cX3_at 2 (some .int), Cond.fieldLink RX3 13 "TreadleLoom$Row" "cells" "[I", Cond.methodLink RX3 41 yX3_put, Cond.instanceMethod yX3_put, Cond.selects RX3 yX3_put yX3_put, Cond.code yX3_put cX3_put 3 none, Cond.methodLink RX1 99 yX1_addMirror, Cond.instanceMethod yX1_addMirror, Cond.selects RX1 yX1_addMirror yX1_addMirror, Cond.initialized RX1, Cond.code yX1_addMirror cX1_addMirror 3 (some .int), Cond.fieldLink RX1 26 "TreadleLoom$Compiler" "groupStart" "I", Cond.methodLink RX1 108 Lib.Math.max.name]
def wsX1_changeItem_r2 : List Cond := [Cond.static Lib.Math.max.name, Cond.initialized "java/lang/Math", Cond.code Lib.Math.max.name Lib.Math.max.code 2 (some .int), Cond.methodLink RX1 82 yX1_hasRoom, Cond.instanceMethod yX1_hasRoom, Cond.selects RX1 yX1_hasRoom yX1_hasRoom, Cond.code yX1_hasRoom cX1_hasRoom 2 (some .boolean), Cond.methodLink RX1 86 yX1_beginItem, Cond.instanceMethod yX1_beginItem, Cond.selects RX1 yX1_beginItem yX1_beginItem, Cond.code yX1_beginItem cX1_beginItem 1 none, Cond.methodLink RX1 41 yX3_at, Cond.methodLink RX1 73 yX3_add, Cond.instanceMethod yX3_add, Cond.selects RX3 yX3_add yX3_add, Cond.code yX3_add cX3_add 2 none, Cond.methodLink RX1 102 yX1_raiseItem, Cond.instanceMethod yX1_raiseItem, Cond.selects RX1 yX1_raiseItem yX1_raiseItem, Cond.code yX1_raiseItem cX1_raiseItem 3 none, Cond.methodLink RX1 114 yX3_put, Cond.methodLink RX1 105 yX1_repeatItem, Cond.instanceMethod yX1_repeatItem, Cond.selects RX1 yX1_repeatItem yX1_repeatItem]
def wsX1_changeItem_r3 : List Cond := [Cond.code yX1_repeatItem cX1_repeatItem 4 (some .int)]
def wsX1_changeItem : List Cond := .code yX1_changeItem cX1_changeItem 2 (some .int) :: ((wsX1_changeItem_r1 ++ (wsX1_changeItem_r2 ++ wsX1_changeItem_r3)) ++ wsX10 ++ wsX30)
def wsX1_read_r1 : List Cond := [Cond.methodLink RX1 57 yX1_addNumber, Cond.instanceMethod yX1_addNumber, Cond.selects RX1 yX1_addNumber yX1_addNumber, Cond.initialized RX1, Cond.code yX1_addNumber cX1_addNumber 2 (some .int), Cond.fieldLink RX1 16 "TreadleLoom$Compiler" "numbers" "LTreadleLoom$Row;", Cond.methodLink RX1 82 yX1_hasRoom, Cond.instanceMethod yX1_hasRoom, Cond.selects RX1 yX1_hasRoom yX1_hasRoom, Cond.code yX1_hasRoom cX1_hasRoom 2 (some .boolean), Cond.fieldLink RX1 26 "TreadleLoom$Compiler" "groupStart" "I", Cond.methodLink RX1 86 yX1_beginItem, Cond.instanceMethod yX1_beginItem, Cond.selects RX1 yX1_beginItem yX1_beginItem, Cond.code yX1_beginItem cX1_beginItem 1 none, Cond.fieldLink RX1 30 "TreadleLoom$Compiler" "itemStart" "I", Cond.methodLink RX1 73 yX3_add, Cond.instanceMethod yX3_add, Cond.selects RX3 yX3_add yX3_add, Cond.initialized RX3, Cond.code yX3_add cX3_add 2 none, Cond.fieldLink RX3 19 "TreadleLoom$Row" "size" "I", Cond.fieldLink RX3 13 "TreadleLoom$Row" "cells" "[I", Cond.methodLink RX1 60 yX1_openGroup]
def wsX1_read_r2 : List Cond := [Cond.instanceMethod yX1_openGroup, Cond.selects RX1 yX1_openGroup yX1_openGroup, Cond.code yX1_openGroup cX1_openGroup 1 none, Cond.fieldLink RX1 20 "TreadleLoom$Compiler" "outerStarts" "LTreadleLoom$Row;", Cond.methodLink RX1 63 yX1_closeGroup, Cond.instanceMethod yX1_closeGroup, Cond.selects RX1 yX1_closeGroup yX1_closeGroup, Cond.code yX1_closeGroup cX1_closeGroup 1 (some .int), Cond.methodLink RX1 76 yX3_last, Cond.instanceMethod yX3_last, Cond.selects RX3 yX3_last yX3_last, Cond.code yX3_last cX3_last 1 (some .int), Cond.methodLink RX3 23 yX3_at, Cond.instanceMethod yX3_at, Cond.selects RX3 yX3_at yX3_at, Cond.code yX3_at cX3_at 2 (some .int), Cond.methodLink RX1 79 yX3_cutTo, Cond.instanceMethod yX3_cutTo, Cond.selects RX3 yX3_cutTo yX3_cutTo, Cond.code yX3_cutTo cX3_cutTo 2 none, Cond.methodLink RX3 27 Lib.Math.min.name, Cond.static Lib.Math.min.name, Cond.initialized "java/lang/Math", Cond.code Lib.Math.min.name Lib.Math.min.code 2 (some .int)]
def wsX1_read_r3 : List Cond := [Cond.methodLink RX3 7 Lib.Math.max.name, Cond.static Lib.Math.max.name, Cond.code Lib.Math.max.name Lib.Math.max.code 2 (some .int), Cond.methodLink RX1 67 yX1_addBlock, Cond.instanceMethod yX1_addBlock, Cond.selects RX1 yX1_addBlock yX1_addBlock, Cond.code yX1_addBlock cX1_addBlock 6 (some .int), Cond.methodLink RX1 93 yX3_addAll, Cond.instanceMethod yX3_addAll, Cond.selects RX3 yX3_addAll yX3_addAll, Cond.code yX3_addAll cX3_addAll 3 none, Cond.methodLink RX3 37 yX3_add, Cond.methodLink RX1 70 yX1_changeItem, Cond.instanceMethod yX1_changeItem, Cond.selects RX1 yX1_changeItem yX1_changeItem, Cond.code yX1_changeItem cX1_changeItem 2 (some .int), Cond.methodLink RX1 96 yX3_turnFrom, Cond.instanceMethod yX3_turnFrom, Cond.selects RX3 yX3_turnFrom yX3_turnFrom, Cond.code yX3_turnFrom cX3_turnFrom 5 none, Cond.methodLink RX3 41 yX3_put, Cond.instanceMethod yX3_put, Cond.selects RX3 yX3_put yX3_put, Cond.code yX3_put cX3_put 3 none]
def wsX1_read_r4 : List Cond := [Cond.methodLink RX1 99 yX1_addMirror, Cond.instanceMethod yX1_addMirror, Cond.selects RX1 yX1_addMirror yX1_addMirror, Cond.code yX1_addMirror cX1_addMirror 3 (some .int), Cond.methodLink RX1 108 Lib.Math.max.name, Cond.methodLink RX1 41 yX3_at, Cond.methodLink RX1 102 yX1_raiseItem, Cond.instanceMethod yX1_raiseItem, Cond.selects RX1 yX1_raiseItem yX1_raiseItem, Cond.code yX1_raiseItem cX1_raiseItem 3 none, Cond.methodLink RX1 114 yX3_put, Cond.methodLink RX1 105 yX1_repeatItem, Cond.instanceMethod yX1_repeatItem, Cond.selects RX1 yX1_repeatItem yX1_repeatItem, Cond.code yX1_repeatItem cX1_repeatItem 4 (some .int)]
def wsX1_read : List Cond := .code yX1_read cX1_read 4 (some .int) :: ((wsX1_read_r1 ++ (wsX1_read_r2 ++ (wsX1_read_r3 ++ wsX1_read_r4))) ++ wsX10 ++ wsX30 ++ wsX20)
def wsX2_refuse : List Cond := .code yX2_refuse cX2_refuse 3 none :: ([.fieldLink RX2 20 "TreadleLoom$Program" "numbers" "LTreadleLoom$Row;", .fieldLink RX2 23 "TreadleLoom$Program" "fault" "I", .fieldLink RX2 27 "TreadleLoom$Program" "faultPlace" "I", .methodLink RX2 34 yX3_clear, .instanceMethod yX3_clear, .selects RX3 yX3_clear yX3_clear, .initialized RX3, .code yX3_clear cX3_clear 1 none, .fieldLink RX3 19 "TreadleLoom$Row" "size" "I"] ++ wsX20 ++ wsX30)
def wsX3_copyFrom : List Cond := .code yX3_copyFrom cX3_copyFrom 2 none :: ([.methodLink RX3 30 yX3_clear, .instanceMethod yX3_clear, .selects RX3 yX3_clear yX3_clear, .initialized RX3, .code yX3_clear cX3_clear 1 none, .fieldLink RX3 19 "TreadleLoom$Row" "size" "I", .methodLink RX3 33 yX3_addAll, .instanceMethod yX3_addAll, .selects RX3 yX3_addAll yX3_addAll, .code yX3_addAll cX3_addAll 3 none, .methodLink RX3 23 yX3_at, .instanceMethod yX3_at, .selects RX3 yX3_at yX3_at, .code yX3_at cX3_at 2 (some .int), .fieldLink RX3 13 "TreadleLoom$Row" "cells" "[I", .methodLink RX3 37 yX3_add, .instanceMethod yX3_add, .selects RX3 yX3_add yX3_add, .code yX3_add cX3_add 2 none] ++ wsX30)
def wsX2_accept_r1 : List Cond := [Cond.fieldLink RX2 20 "TreadleLoom$Program" "numbers" "LTreadleLoom$Row;", Cond.fieldLink RX2 23 "TreadleLoom$Program" "fault" "I", Cond.fieldLink RX2 27 "TreadleLoom$Program" "faultPlace" "I", Cond.methodLink RX2 30 yX3_copyFrom, Cond.instanceMethod yX3_copyFrom, Cond.selects RX3 yX3_copyFrom yX3_copyFrom, Cond.initialized RX3, Cond.code yX3_copyFrom cX3_copyFrom 2 none, Cond.methodLink RX3 30 yX3_clear, Cond.instanceMethod yX3_clear, Cond.selects RX3 yX3_clear yX3_clear, Cond.code yX3_clear cX3_clear 1 none, Cond.fieldLink RX3 19 "TreadleLoom$Row" "size" "I", Cond.methodLink RX3 33 yX3_addAll, Cond.instanceMethod yX3_addAll, Cond.selects RX3 yX3_addAll yX3_addAll, Cond.code yX3_addAll cX3_addAll 3 none, Cond.methodLink RX3 23 yX3_at, Cond.instanceMethod yX3_at, Cond.selects RX3 yX3_at yX3_at, Cond.code yX3_at cX3_at 2 (some .int), Cond.fieldLink RX3 13 "TreadleLoom$Row" "cells" "[I", Cond.methodLink RX3 37 yX3_add, Cond.instanceMethod yX3_add]
def wsX2_accept_r2 : List Cond := [Cond.selects RX3 yX3_add yX3_add, Cond.code yX3_add cX3_add 2 none]
def wsX2_accept : List Cond := .code yX2_accept cX2_accept 2 none :: ((wsX2_accept_r1 ++ wsX2_accept_r2) ++ wsX20 ++ wsX30)
def wsX1_compile_r1 : List Cond := [Cond.fieldLink RX1 16 "TreadleLoom$Compiler" "numbers" "LTreadleLoom$Row;", Cond.fieldLink RX1 20 "TreadleLoom$Compiler" "outerStarts" "LTreadleLoom$Row;", Cond.fieldLink RX1 26 "TreadleLoom$Compiler" "groupStart" "I", Cond.fieldLink RX1 30 "TreadleLoom$Compiler" "itemStart" "I", Cond.methodLink RX1 23 yX3_clear, Cond.instanceMethod yX3_clear, Cond.selects RX3 yX3_clear yX3_clear, Cond.initialized RX3, Cond.code yX3_clear cX3_clear 1 none, Cond.fieldLink RX3 19 "TreadleLoom$Row" "size" "I", Cond.methodLink RX1 41 yX3_at, Cond.instanceMethod yX3_at, Cond.selects RX3 yX3_at yX3_at, Cond.code yX3_at cX3_at 2 (some .int), Cond.fieldLink RX3 13 "TreadleLoom$Row" "cells" "[I", Cond.methodLink RX1 45 yX1_read, Cond.instanceMethod yX1_read, Cond.selects RX1 yX1_read yX1_read, Cond.initialized RX1, Cond.code yX1_read cX1_read 4 (some .int), Cond.methodLink RX1 57 yX1_addNumber, Cond.instanceMethod yX1_addNumber, Cond.selects RX1 yX1_addNumber yX1_addNumber, Cond.code yX1_addNumber cX1_addNumber 2 (some .int)]
def wsX1_compile_r2 : List Cond := [Cond.methodLink RX1 82 yX1_hasRoom, Cond.instanceMethod yX1_hasRoom, Cond.selects RX1 yX1_hasRoom yX1_hasRoom, Cond.code yX1_hasRoom cX1_hasRoom 2 (some .boolean), Cond.methodLink RX1 86 yX1_beginItem, Cond.instanceMethod yX1_beginItem, Cond.selects RX1 yX1_beginItem yX1_beginItem, Cond.code yX1_beginItem cX1_beginItem 1 none, Cond.methodLink RX1 73 yX3_add, Cond.instanceMethod yX3_add, Cond.selects RX3 yX3_add yX3_add, Cond.code yX3_add cX3_add 2 none, Cond.methodLink RX1 60 yX1_openGroup, Cond.instanceMethod yX1_openGroup, Cond.selects RX1 yX1_openGroup yX1_openGroup, Cond.code yX1_openGroup cX1_openGroup 1 none, Cond.methodLink RX1 63 yX1_closeGroup, Cond.instanceMethod yX1_closeGroup, Cond.selects RX1 yX1_closeGroup yX1_closeGroup, Cond.code yX1_closeGroup cX1_closeGroup 1 (some .int), Cond.methodLink RX1 76 yX3_last, Cond.instanceMethod yX3_last, Cond.selects RX3 yX3_last yX3_last, Cond.code yX3_last cX3_last 1 (some .int)]
def wsX1_compile_r3 : List Cond := [Cond.methodLink RX3 23 yX3_at, Cond.methodLink RX1 79 yX3_cutTo, Cond.instanceMethod yX3_cutTo, Cond.selects RX3 yX3_cutTo yX3_cutTo, Cond.code yX3_cutTo cX3_cutTo 2 none, Cond.methodLink RX3 27 Lib.Math.min.name, Cond.static Lib.Math.min.name, Cond.initialized "java/lang/Math", Cond.code Lib.Math.min.name Lib.Math.min.code 2 (some .int), Cond.methodLink RX3 7 Lib.Math.max.name, Cond.static Lib.Math.max.name, Cond.code Lib.Math.max.name Lib.Math.max.code 2 (some .int), Cond.methodLink RX1 67 yX1_addBlock, Cond.instanceMethod yX1_addBlock, Cond.selects RX1 yX1_addBlock yX1_addBlock, Cond.code yX1_addBlock cX1_addBlock 6 (some .int), Cond.methodLink RX1 93 yX3_addAll, Cond.instanceMethod yX3_addAll, Cond.selects RX3 yX3_addAll yX3_addAll, Cond.code yX3_addAll cX3_addAll 3 none, Cond.methodLink RX3 37 yX3_add, Cond.methodLink RX1 70 yX1_changeItem, Cond.instanceMethod yX1_changeItem, Cond.selects RX1 yX1_changeItem yX1_changeItem]
def wsX1_compile_r4 : List Cond := [Cond.code yX1_changeItem cX1_changeItem 2 (some .int), Cond.methodLink RX1 96 yX3_turnFrom, Cond.instanceMethod yX3_turnFrom, Cond.selects RX3 yX3_turnFrom yX3_turnFrom, Cond.code yX3_turnFrom cX3_turnFrom 5 none, Cond.methodLink RX3 41 yX3_put, Cond.instanceMethod yX3_put, Cond.selects RX3 yX3_put yX3_put, Cond.code yX3_put cX3_put 3 none, Cond.methodLink RX1 99 yX1_addMirror, Cond.instanceMethod yX1_addMirror, Cond.selects RX1 yX1_addMirror yX1_addMirror, Cond.code yX1_addMirror cX1_addMirror 3 (some .int), Cond.methodLink RX1 108 Lib.Math.max.name, Cond.methodLink RX1 102 yX1_raiseItem, Cond.instanceMethod yX1_raiseItem, Cond.selects RX1 yX1_raiseItem yX1_raiseItem, Cond.code yX1_raiseItem cX1_raiseItem 3 none, Cond.methodLink RX1 114 yX3_put, Cond.methodLink RX1 105 yX1_repeatItem, Cond.instanceMethod yX1_repeatItem, Cond.selects RX1 yX1_repeatItem yX1_repeatItem, Cond.code yX1_repeatItem cX1_repeatItem 4 (some .int), Cond.methodLink RX1 49 yX2_refuse]
def wsX1_compile_r5 : List Cond := [Cond.instanceMethod yX2_refuse, Cond.selects RX2 yX2_refuse yX2_refuse, Cond.initialized RX2, Cond.code yX2_refuse cX2_refuse 3 none, Cond.fieldLink RX2 20 "TreadleLoom$Program" "numbers" "LTreadleLoom$Row;", Cond.fieldLink RX2 23 "TreadleLoom$Program" "fault" "I", Cond.fieldLink RX2 27 "TreadleLoom$Program" "faultPlace" "I", Cond.methodLink RX2 34 yX3_clear, Cond.methodLink RX1 53 yX2_accept, Cond.instanceMethod yX2_accept, Cond.selects RX2 yX2_accept yX2_accept, Cond.code yX2_accept cX2_accept 2 none, Cond.methodLink RX2 30 yX3_copyFrom, Cond.instanceMethod yX3_copyFrom, Cond.selects RX3 yX3_copyFrom yX3_copyFrom, Cond.code yX3_copyFrom cX3_copyFrom 2 none, Cond.methodLink RX3 30 yX3_clear, Cond.methodLink RX3 33 yX3_addAll]
def wsX1_compile : List Cond := .code yX1_compile cX1_compile 6 none :: ((wsX1_compile_r1 ++ (wsX1_compile_r2 ++ (wsX1_compile_r3 ++ (wsX1_compile_r4 ++ wsX1_compile_r5)))) ++ wsX10 ++ wsX20 ++ wsX30)
def wsX2_init : List Cond := .code yX2_init cX2_init 1 none :: ([.methodLink RX2 3 objectInit, .instanceMethod objectInit, .code objectInit ⟨#[0xb1]⟩ 1 none, .classLink RX2 9 RX3, .instantiable RX3 2, .initialized RX3, .fieldLink RX2 14 "TreadleLoom$Program" "tokens" "LTreadleLoom$Row;", .fieldLink RX2 20 "TreadleLoom$Program" "numbers" "LTreadleLoom$Row;", .fieldLink RX2 23 "TreadleLoom$Program" "fault" "I", .fieldLink RX2 27 "TreadleLoom$Program" "faultPlace" "I", .methodLink RX2 11 yX3_init, .instanceMethod yX3_init, .code yX3_init cX3_init 2 none, .methodLink RX3 1 objectInit, .methodLink RX3 7 Lib.Math.max.name, .static Lib.Math.max.name, .initialized "java/lang/Math", .code Lib.Math.max.name Lib.Math.max.code 2 (some .int), .arrayClass .int, .fieldLink RX3 13 "TreadleLoom$Row" "cells" "[I"] ++ wsX30 ++ wsX20)
def wsX3_atRound : List Cond := .code yX3_atRound cX3_atRound 2 (some .int) :: ([.fieldLink RX3 19 "TreadleLoom$Row" "size" "I", .methodLink RX3 23 yX3_at, .instanceMethod yX3_at, .selects RX3 yX3_at yX3_at, .initialized RX3, .code yX3_at cX3_at 2 (some .int), .fieldLink RX3 13 "TreadleLoom$Row" "cells" "[I"] ++ wsX30)
def wsX3_hasPeriod : List Cond := .code yX3_hasPeriod cX3_hasPeriod 3 (some .boolean) :: ([.fieldLink RX3 19 "TreadleLoom$Row" "size" "I", .methodLink RX3 23 yX3_at, .instanceMethod yX3_at, .selects RX3 yX3_at yX3_at, .initialized RX3, .code yX3_at cX3_at 2 (some .int), .fieldLink RX3 13 "TreadleLoom$Row" "cells" "[I"] ++ wsX30)
def wsX3_leastPeriod : List Cond := .code yX3_leastPeriod cX3_leastPeriod 2 (some .int) :: ([.fieldLink RX3 19 "TreadleLoom$Row" "size" "I", .methodLink RX3 45 yX3_hasPeriod, .instanceMethod yX3_hasPeriod, .selects RX3 yX3_hasPeriod yX3_hasPeriod, .initialized RX3, .code yX3_hasPeriod cX3_hasPeriod 3 (some .boolean), .methodLink RX3 23 yX3_at, .instanceMethod yX3_at, .selects RX3 yX3_at yX3_at, .code yX3_at cX3_at 2 (some .int), .fieldLink RX3 13 "TreadleLoom$Row" "cells" "[I"] ++ wsX30)
def wsX3_firstPlaceOf : List Cond := .code yX3_firstPlaceOf cX3_firstPlaceOf 3 (some .int) :: ([.fieldLink RX3 19 "TreadleLoom$Row" "size" "I", .methodLink RX3 23 yX3_at, .instanceMethod yX3_at, .selects RX3 yX3_at yX3_at, .initialized RX3, .code yX3_at cX3_at 2 (some .int), .fieldLink RX3 13 "TreadleLoom$Row" "cells" "[I"] ++ wsX30)
def wsX3_countDistinct : List Cond := .code yX3_countDistinct cX3_countDistinct 3 (some .int) :: ([.fieldLink RX3 19 "TreadleLoom$Row" "size" "I", .methodLink RX3 23 yX3_at, .instanceMethod yX3_at, .selects RX3 yX3_at yX3_at, .initialized RX3, .code yX3_at cX3_at 2 (some .int), .fieldLink RX3 13 "TreadleLoom$Row" "cells" "[I", .methodLink RX3 49 yX3_firstPlaceOf, .instanceMethod yX3_firstPlaceOf, .selects RX3 yX3_firstPlaceOf yX3_firstPlaceOf, .code yX3_firstPlaceOf cX3_firstPlaceOf 3 (some .int)] ++ wsX30)
def wsX3_countBits : List Cond := .code yX3_countBits cX3_countBits 3 (some .int) :: ([.fieldLink RX3 19 "TreadleLoom$Row" "size" "I", .methodLink RX3 23 yX3_at, .instanceMethod yX3_at, .selects RX3 yX3_at yX3_at, .initialized RX3, .code yX3_at cX3_at 2 (some .int), .fieldLink RX3 13 "TreadleLoom$Row" "cells" "[I", .methodLink RX3 52 yJ6_bitCount_0f7a4, .static yJ6_bitCount_0f7a4, .initialized RJ6, .code yJ6_bitCount_0f7a4 cJ6_bitCount_0f7a4 1 (some .int), .constant RJ6 265 (1431655765), .constant RJ6 266 (858993459), .constant RJ6 267 (252645135)] ++ wsX30)
def wsX3_firstWithRun : List Cond := .code yX3_firstWithRun cX3_firstWithRun 3 (some .int) :: ([.fieldLink RX3 19 "TreadleLoom$Row" "size" "I", .methodLink RX3 23 yX3_at, .instanceMethod yX3_at, .selects RX3 yX3_at yX3_at, .initialized RX3, .code yX3_at cX3_at 2 (some .int), .fieldLink RX3 13 "TreadleLoom$Row" "cells" "[I", .static yX4_runStarts, .initialized RX4, .code yX4_runStarts cX4_runStarts 4 (some .int)] ++ wsX30)
def wsX4_init_r1 : List Cond := [Cond.methodLink RX4 1 objectInit, Cond.instanceMethod objectInit, Cond.code objectInit ⟨#[0xb1]⟩ 1 none, Cond.classLink RX4 9 RX2, Cond.fieldLink RX4 11 "TreadleLoom" "programs" "[LTreadleLoom$Program;", Cond.instantiable RX2 4, Cond.initialized RX2, Cond.classLink RX4 16 RX1, Cond.instantiable RX1 4, Cond.initialized RX1, Cond.fieldLink RX4 19 "TreadleLoom" "compiler" "LTreadleLoom$Compiler;", Cond.classLink RX4 23 RX3, Cond.instantiable RX3 2, Cond.initialized RX3, Cond.fieldLink RX4 28 "TreadleLoom" "ties" "LTreadleLoom$Row;", Cond.classLink RX4 35 RX0, Cond.instantiable RX0 2, Cond.initialized RX0, Cond.fieldLink RX4 38 "TreadleLoom" "woven" "LTreadleLoom$Cloth;", Cond.fieldLink RX4 42 "TreadleLoom" "draft" "LTreadleLoom$Program;", Cond.fieldLink RX4 46 "TreadleLoom" "trialTies" "LTreadleLoom$Row;", Cond.fieldLink RX4 49 "TreadleLoom" "trial" "LTreadleLoom$Cloth;", Cond.instanceMethod yX2_init, Cond.code yX2_init cX2_init 1 none]
def wsX4_init_r2 : List Cond := [Cond.methodLink RX2 3 objectInit, Cond.classLink RX2 9 RX3, Cond.fieldLink RX2 14 "TreadleLoom$Program" "tokens" "LTreadleLoom$Row;", Cond.fieldLink RX2 20 "TreadleLoom$Program" "numbers" "LTreadleLoom$Row;", Cond.fieldLink RX2 23 "TreadleLoom$Program" "fault" "I", Cond.fieldLink RX2 27 "TreadleLoom$Program" "faultPlace" "I", Cond.methodLink RX2 11 yX3_init, Cond.instanceMethod yX3_init, Cond.code yX3_init cX3_init 2 none, Cond.methodLink RX3 1 objectInit, Cond.methodLink RX3 7 Lib.Math.max.name, Cond.static Lib.Math.max.name, Cond.initialized "java/lang/Math", Cond.code Lib.Math.max.name Lib.Math.max.code 2 (some .int), Cond.arrayClass .int, Cond.fieldLink RX3 13 "TreadleLoom$Row" "cells" "[I", Cond.instanceMethod yX1_init, Cond.code yX1_init cX1_init 1 none, Cond.methodLink RX1 3 objectInit, Cond.classLink RX1 9 RX3, Cond.fieldLink RX1 16 "TreadleLoom$Compiler" "numbers" "LTreadleLoom$Row;", Cond.fieldLink RX1 20 "TreadleLoom$Compiler" "outerStarts" "LTreadleLoom$Row;", Cond.methodLink RX1 13 yX3_init, Cond.methodLink RX4 25 yX3_init]
def wsX4_init_r3 : List Cond := [Cond.methodLink RX4 32 yX3_add, Cond.instanceMethod yX3_add, Cond.selects RX3 yX3_add yX3_add, Cond.code yX3_add cX3_add 2 none, Cond.fieldLink RX3 19 "TreadleLoom$Row" "size" "I", Cond.instanceMethod yX0_init, Cond.code yX0_init cX0_init 1 none, Cond.methodLink RX0 3 objectInit, Cond.classLink RX0 9 RX3, Cond.fieldLink RX0 14 "TreadleLoom$Cloth" "ends" "LTreadleLoom$Row;", Cond.fieldLink RX0 20 "TreadleLoom$Cloth" "picks" "LTreadleLoom$Row;", Cond.methodLink RX0 11 yX3_init]
def wsX4_init : List Cond := .code yX4_init cX4_init 2 none :: ((wsX4_init_r1 ++ (wsX4_init_r2 ++ wsX4_init_r3)) ++ wsX40 ++ wsX20 ++ wsX10 ++ wsX30 ++ wsX00)
def wsX4_programAt : List Cond := .code yX4_programAt cX4_programAt 2 (some (.object "TreadleLoom$Program")) :: ([.classLink RX4 91 "java/lang/IndexOutOfBoundsException", .initialized "java/lang/IndexOutOfBoundsException", .fieldLink RX4 11 "TreadleLoom" "programs" "[LTreadleLoom$Program;"] ++ wsX40 ++ (vx_atS RX4 95 "java/lang/IndexOutOfBoundsException" ["java/lang/RuntimeException", "java/lang/Exception"]).filter goodWord)
def wsX4_isToken : List Cond := .code yX4_isToken cX4_isToken 1 (some .boolean) :: ([])
def wsX4_programForToken : List Cond := .code yX4_programForToken cX4_programForToken 4 (some (.object "TreadleLoom$Program")) :: ([.classLink RX4 70 "java/lang/IllegalArgumentException", .initialized "java/lang/IllegalArgumentException", .classLink RX4 112 "java/lang/IllegalStateException", .initialized "java/lang/IllegalStateException", .methodLink RX4 66 yX4_programAt, .instanceMethod yX4_programAt, .selects RX4 yX4_programAt yX4_programAt, .initialized RX4, .code yX4_programAt cX4_programAt 2 (some (.object "TreadleLoom$Program")), .classLink RX4 91 "java/lang/IndexOutOfBoundsException", .initialized "java/lang/IndexOutOfBoundsException", .fieldLink RX4 11 "TreadleLoom" "programs" "[LTreadleLoom$Program;", .methodLink RX4 106 yX4_isToken, .static yX4_isToken, .code yX4_isToken cX4_isToken 1 (some .boolean)] ++ wsX20 ++ wsX30 ++ wsX40 ++ (vx_atS RX4 74 "java/lang/IllegalArgumentException" ["java/lang/RuntimeException", "java/lang/Exception"]).filter goodWord ++ (vx_atS RX4 116 "java/lang/IllegalStateException" ["java/lang/RuntimeException", "java/lang/Exception"]).filter goodWord ++ (vx_atS RX4 95 "java/lang/IndexOutOfBoundsException" ["java/lang/RuntimeException", "java/lang/Exception"]).filter goodWord)
def wsX4_weave_r1 : List Cond := [Cond.fieldLink RX4 38 "TreadleLoom" "woven" "LTreadleLoom$Cloth;", Cond.fieldLink RX4 11 "TreadleLoom" "programs" "[LTreadleLoom$Program;", Cond.fieldLink RX4 28 "TreadleLoom" "ties" "LTreadleLoom$Row;", Cond.methodLink RX4 157 yX0_weave, Cond.instanceMethod yX0_weave, Cond.selects RX0 yX0_weave yX0_weave, Cond.initialized RX0, Cond.code yX0_weave cX0_weave 8 none, Cond.fieldLink RX0 14 "TreadleLoom$Cloth" "ends" "LTreadleLoom$Row;", Cond.fieldLink RX0 20 "TreadleLoom$Cloth" "picks" "LTreadleLoom$Row;", Cond.methodLink RX0 23 yX3_clear, Cond.instanceMethod yX3_clear, Cond.selects RX3 yX3_clear yX3_clear, Cond.initialized RX3, Cond.code yX3_clear cX3_clear 1 none, Cond.fieldLink RX3 19 "TreadleLoom$Row" "size" "I", Cond.methodLink RX0 30 yX3_add, Cond.instanceMethod yX3_add, Cond.selects RX3 yX3_add yX3_add, Cond.code yX3_add cX3_add 2 none, Cond.fieldLink RX3 13 "TreadleLoom$Row" "cells" "[I", Cond.methodLink RX0 33 yX3_at, Cond.instanceMethod yX3_at, Cond.selects RX3 yX3_at yX3_at]
def wsX4_weave_r2 : List Cond := [Cond.code yX3_at cX3_at 2 (some .int), Cond.static yX4_hasBit, Cond.initialized RX4, Cond.code yX4_hasBit cX4_hasBit 2 (some .boolean), Cond.methodLink RX0 41 yX3_put, Cond.instanceMethod yX3_put, Cond.selects RX3 yX3_put yX3_put, Cond.code yX3_put cX3_put 3 none]
def wsX4_weave : List Cond := .code yX4_weave cX4_weave 1 none :: ((wsX4_weave_r1 ++ wsX4_weave_r2) ++ wsX40 ++ wsX20 ++ wsX00 ++ wsX30)
def wsX4_renewFrom_r1 : List Cond := [Cond.fieldLink RX4 11 "TreadleLoom" "programs" "[LTreadleLoom$Program;", Cond.fieldLink RX4 19 "TreadleLoom" "compiler" "LTreadleLoom$Compiler;", Cond.methodLink RX4 117 yX1_compile, Cond.instanceMethod yX1_compile, Cond.selects RX1 yX1_compile yX1_compile, Cond.initialized RX1, Cond.code yX1_compile cX1_compile 6 none, Cond.fieldLink RX1 16 "TreadleLoom$Compiler" "numbers" "LTreadleLoom$Row;", Cond.fieldLink RX1 20 "TreadleLoom$Compiler" "outerStarts" "LTreadleLoom$Row;", Cond.fieldLink RX1 26 "TreadleLoom$Compiler" "groupStart" "I", Cond.fieldLink RX1 30 "TreadleLoom$Compiler" "itemStart" "I", Cond.methodLink RX1 23 yX3_clear, Cond.instanceMethod yX3_clear, Cond.selects RX3 yX3_clear yX3_clear, Cond.initialized RX3, Cond.code yX3_clear cX3_clear 1 none, Cond.fieldLink RX3 19 "TreadleLoom$Row" "size" "I", Cond.methodLink RX1 41 yX3_at, Cond.instanceMethod yX3_at, Cond.selects RX3 yX3_at yX3_at, Cond.code yX3_at cX3_at 2 (some .int), Cond.fieldLink RX3 13 "TreadleLoom$Row" "cells" "[I", Cond.methodLink RX1 45 yX1_read, Cond.instanceMethod yX1_read]
def wsX4_renewFrom_r2 : List Cond := [Cond.selects RX1 yX1_read yX1_read, Cond.code yX1_read cX1_read 4 (some .int), Cond.methodLink RX1 57 yX1_addNumber, Cond.instanceMethod yX1_addNumber, Cond.selects RX1 yX1_addNumber yX1_addNumber, Cond.code yX1_addNumber cX1_addNumber 2 (some .int), Cond.methodLink RX1 82 yX1_hasRoom, Cond.instanceMethod yX1_hasRoom, Cond.selects RX1 yX1_hasRoom yX1_hasRoom, Cond.code yX1_hasRoom cX1_hasRoom 2 (some .boolean), Cond.methodLink RX1 86 yX1_beginItem, Cond.instanceMethod yX1_beginItem, Cond.selects RX1 yX1_beginItem yX1_beginItem, Cond.code yX1_beginItem cX1_beginItem 1 none, Cond.methodLink RX1 73 yX3_add, Cond.instanceMethod yX3_add, Cond.selects RX3 yX3_add yX3_add, Cond.code yX3_add cX3_add 2 none, Cond.methodLink RX1 60 yX1_openGroup, Cond.instanceMethod yX1_openGroup, Cond.selects RX1 yX1_openGroup yX1_openGroup, Cond.code yX1_openGroup cX1_openGroup 1 none, Cond.methodLink RX1 63 yX1_closeGroup, Cond.instanceMethod yX1_closeGroup]
def wsX4_renewFrom_r3 : List Cond := [Cond.selects RX1 yX1_closeGroup yX1_closeGroup, Cond.code yX1_closeGroup cX1_closeGroup 1 (some .int), Cond.methodLink RX1 76 yX3_last, Cond.instanceMethod yX3_last, Cond.selects RX3 yX3_last yX3_last, Cond.code yX3_last cX3_last 1 (some .int), Cond.methodLink RX3 23 yX3_at, Cond.methodLink RX1 79 yX3_cutTo, Cond.instanceMethod yX3_cutTo, Cond.selects RX3 yX3_cutTo yX3_cutTo, Cond.code yX3_cutTo cX3_cutTo 2 none, Cond.methodLink RX3 27 Lib.Math.min.name, Cond.static Lib.Math.min.name, Cond.initialized "java/lang/Math", Cond.code Lib.Math.min.name Lib.Math.min.code 2 (some .int), Cond.methodLink RX3 7 Lib.Math.max.name, Cond.static Lib.Math.max.name, Cond.code Lib.Math.max.name Lib.Math.max.code 2 (some .int), Cond.methodLink RX1 67 yX1_addBlock, Cond.instanceMethod yX1_addBlock, Cond.selects RX1 yX1_addBlock yX1_addBlock, Cond.code yX1_addBlock cX1_addBlock 6 (some .int), Cond.methodLink RX1 93 yX3_addAll, Cond.instanceMethod yX3_addAll]
def wsX4_renewFrom_r4 : List Cond := [Cond.selects RX3 yX3_addAll yX3_addAll, Cond.code yX3_addAll cX3_addAll 3 none, Cond.methodLink RX3 37 yX3_add, Cond.methodLink RX1 70 yX1_changeItem, Cond.instanceMethod yX1_changeItem, Cond.selects RX1 yX1_changeItem yX1_changeItem, Cond.code yX1_changeItem cX1_changeItem 2 (some .int), Cond.methodLink RX1 96 yX3_turnFrom, Cond.instanceMethod yX3_turnFrom, Cond.selects RX3 yX3_turnFrom yX3_turnFrom, Cond.code yX3_turnFrom cX3_turnFrom 5 none, Cond.methodLink RX3 41 yX3_put, Cond.instanceMethod yX3_put, Cond.selects RX3 yX3_put yX3_put, Cond.code yX3_put cX3_put 3 none, Cond.methodLink RX1 99 yX1_addMirror, Cond.instanceMethod yX1_addMirror, Cond.selects RX1 yX1_addMirror yX1_addMirror, Cond.code yX1_addMirror cX1_addMirror 3 (some .int), Cond.methodLink RX1 108 Lib.Math.max.name, Cond.methodLink RX1 102 yX1_raiseItem, Cond.instanceMethod yX1_raiseItem, Cond.selects RX1 yX1_raiseItem yX1_raiseItem, Cond.code yX1_raiseItem cX1_raiseItem 3 none]
def wsX4_renewFrom_r5 : List Cond := [Cond.methodLink RX1 114 yX3_put, Cond.methodLink RX1 105 yX1_repeatItem, Cond.instanceMethod yX1_repeatItem, Cond.selects RX1 yX1_repeatItem yX1_repeatItem, Cond.code yX1_repeatItem cX1_repeatItem 4 (some .int), Cond.methodLink RX1 49 yX2_refuse, Cond.instanceMethod yX2_refuse, Cond.selects RX2 yX2_refuse yX2_refuse, Cond.initialized RX2, Cond.code yX2_refuse cX2_refuse 3 none, Cond.fieldLink RX2 20 "TreadleLoom$Program" "numbers" "LTreadleLoom$Row;", Cond.fieldLink RX2 23 "TreadleLoom$Program" "fault" "I", Cond.fieldLink RX2 27 "TreadleLoom$Program" "faultPlace" "I", Cond.methodLink RX2 34 yX3_clear, Cond.methodLink RX1 53 yX2_accept, Cond.instanceMethod yX2_accept, Cond.selects RX2 yX2_accept yX2_accept, Cond.code yX2_accept cX2_accept 2 none, Cond.methodLink RX2 30 yX3_copyFrom, Cond.instanceMethod yX3_copyFrom, Cond.selects RX3 yX3_copyFrom yX3_copyFrom, Cond.code yX3_copyFrom cX3_copyFrom 2 none, Cond.methodLink RX3 30 yX3_clear, Cond.methodLink RX3 33 yX3_addAll]
def wsX4_renewFrom_r6 : List Cond := [Cond.methodLink RX4 121 yX4_weave, Cond.instanceMethod yX4_weave, Cond.selects RX4 yX4_weave yX4_weave, Cond.initialized RX4, Cond.code yX4_weave cX4_weave 1 none, Cond.fieldLink RX4 38 "TreadleLoom" "woven" "LTreadleLoom$Cloth;", Cond.fieldLink RX4 28 "TreadleLoom" "ties" "LTreadleLoom$Row;", Cond.methodLink RX4 157 yX0_weave, Cond.instanceMethod yX0_weave, Cond.selects RX0 yX0_weave yX0_weave, Cond.initialized RX0, Cond.code yX0_weave cX0_weave 8 none, Cond.fieldLink RX0 14 "TreadleLoom$Cloth" "ends" "LTreadleLoom$Row;", Cond.fieldLink RX0 20 "TreadleLoom$Cloth" "picks" "LTreadleLoom$Row;", Cond.methodLink RX0 23 yX3_clear, Cond.methodLink RX0 30 yX3_add, Cond.methodLink RX0 33 yX3_at, Cond.static yX4_hasBit, Cond.code yX4_hasBit cX4_hasBit 2 (some .boolean), Cond.methodLink RX0 41 yX3_put]
def wsX4_renewFrom : List Cond := .code yX4_renewFrom cX4_renewFrom 4 none :: ((wsX4_renewFrom_r1 ++ (wsX4_renewFrom_r2 ++ (wsX4_renewFrom_r3 ++ (wsX4_renewFrom_r4 ++ (wsX4_renewFrom_r5 ++ wsX4_renewFrom_r6))))) ++ wsX40 ++ wsX10 ++ wsX20 ++ wsX30 ++ wsX00)
def wsX4_token_r1 : List Cond := [Cond.methodLink RX4 52 yX4_programForToken, Cond.instanceMethod yX4_programForToken, Cond.selects RX4 yX4_programForToken yX4_programForToken, Cond.initialized RX4, Cond.code yX4_programForToken cX4_programForToken 4 (some (.object "TreadleLoom$Program")), Cond.classLink RX4 70 "java/lang/IllegalArgumentException", Cond.initialized "java/lang/IllegalArgumentException", Cond.classLink RX4 112 "java/lang/IllegalStateException", Cond.initialized "java/lang/IllegalStateException", Cond.methodLink RX4 66 yX4_programAt, Cond.instanceMethod yX4_programAt, Cond.selects RX4 yX4_programAt yX4_programAt, Cond.code yX4_programAt cX4_programAt 2 (some (.object "TreadleLoom$Program")), Cond.classLink RX4 91 "java/lang/IndexOutOfBoundsException", Cond.initialized "java/lang/IndexOutOfBoundsException", Cond.fieldLink RX4 11 "TreadleLoom" "programs" "[LTreadleLoom$Program;", Cond.methodLink RX4 106 yX4_isToken, Cond.static yX4_isToken, Cond.code yX4_isToken cX4_isToken 1 (some .boolean), Cond.methodLink RX4 32 yX3_add, Cond.instanceMethod yX3_add, Cond.selects RX3 yX3_add yX3_add, Cond.initialized RX3, Cond.code yX3_add cX3_add 2 none]
def wsX4_token_r2 : List Cond := [Cond.fieldLink RX3 19 "TreadleLoom$Row" "size" "I", Cond.fieldLink RX3 13 "TreadleLoom$Row" "cells" "[I", Cond.methodLink RX4 59 yX4_renewFrom, Cond.instanceMethod yX4_renewFrom, Cond.selects RX4 yX4_renewFrom yX4_renewFrom, Cond.code yX4_renewFrom cX4_renewFrom 4 none, Cond.fieldLink RX4 19 "TreadleLoom" "compiler" "LTreadleLoom$Compiler;", Cond.methodLink RX4 117 yX1_compile, Cond.instanceMethod yX1_compile, Cond.selects RX1 yX1_compile yX1_compile, Cond.initialized RX1, Cond.code yX1_compile cX1_compile 6 none, Cond.fieldLink RX1 16 "TreadleLoom$Compiler" "numbers" "LTreadleLoom$Row;", Cond.fieldLink RX1 20 "TreadleLoom$Compiler" "outerStarts" "LTreadleLoom$Row;", Cond.fieldLink RX1 26 "TreadleLoom$Compiler" "groupStart" "I", Cond.fieldLink RX1 30 "TreadleLoom$Compiler" "itemStart" "I", Cond.methodLink RX1 23 yX3_clear, Cond.instanceMethod yX3_clear, Cond.selects RX3 yX3_clear yX3_clear, Cond.code yX3_clear cX3_clear 1 none, Cond.methodLink RX1 41 yX3_at, Cond.instanceMethod yX3_at, Cond.selects RX3 yX3_at yX3_at, Cond.code yX3_at cX3_at 2 (some .int)]
def wsX4_token_r3 : List Cond := [Cond.methodLink RX1 45 yX1_read, Cond.instanceMethod yX1_read, Cond.selects RX1 yX1_read yX1_read, Cond.code yX1_read cX1_read 4 (some .int), Cond.methodLink RX1 57 yX1_addNumber, Cond.instanceMethod yX1_addNumber, Cond.selects RX1 yX1_addNumber yX1_addNumber, Cond.code yX1_addNumber cX1_addNumber 2 (some .int), Cond.methodLink RX1 82 yX1_hasRoom, Cond.instanceMethod yX1_hasRoom, Cond.selects RX1 yX1_hasRoom yX1_hasRoom, Cond.code yX1_hasRoom cX1_hasRoom 2 (some .boolean), Cond.methodLink RX1 86 yX1_beginItem, Cond.instanceMethod yX1_beginItem, Cond.selects RX1 yX1_beginItem yX1_beginItem, Cond.code yX1_beginItem cX1_beginItem 1 none, Cond.methodLink RX1 73 yX3_add, Cond.methodLink RX1 60 yX1_openGroup, Cond.instanceMethod yX1_openGroup, Cond.selects RX1 yX1_openGroup yX1_openGroup, Cond.code yX1_openGroup cX1_openGroup 1 none, Cond.methodLink RX1 63 yX1_closeGroup, Cond.instanceMethod yX1_closeGroup, Cond.selects RX1 yX1_closeGroup yX1_closeGroup]
def wsX4_token_r4 : List Cond := [Cond.code yX1_closeGroup cX1_closeGroup 1 (some .int), Cond.methodLink RX1 76 yX3_last, Cond.instanceMethod yX3_last, Cond.selects RX3 yX3_last yX3_last, Cond.code yX3_last cX3_last 1 (some .int), Cond.methodLink RX3 23 yX3_at, Cond.methodLink RX1 79 yX3_cutTo, Cond.instanceMethod yX3_cutTo, Cond.selects RX3 yX3_cutTo yX3_cutTo, Cond.code yX3_cutTo cX3_cutTo 2 none, Cond.methodLink RX3 27 Lib.Math.min.name, Cond.static Lib.Math.min.name, Cond.initialized "java/lang/Math", Cond.code Lib.Math.min.name Lib.Math.min.code 2 (some .int), Cond.methodLink RX3 7 Lib.Math.max.name, Cond.static Lib.Math.max.name, Cond.code Lib.Math.max.name Lib.Math.max.code 2 (some .int), Cond.methodLink RX1 67 yX1_addBlock, Cond.instanceMethod yX1_addBlock, Cond.selects RX1 yX1_addBlock yX1_addBlock, Cond.code yX1_addBlock cX1_addBlock 6 (some .int), Cond.methodLink RX1 93 yX3_addAll, Cond.instanceMethod yX3_addAll, Cond.selects RX3 yX3_addAll yX3_addAll]
def wsX4_token_r5 : List Cond := [Cond.code yX3_addAll cX3_addAll 3 none, Cond.methodLink RX3 37 yX3_add, Cond.methodLink RX1 70 yX1_changeItem, Cond.instanceMethod yX1_changeItem, Cond.selects RX1 yX1_changeItem yX1_changeItem, Cond.code yX1_changeItem cX1_changeItem 2 (some .int), Cond.methodLink RX1 96 yX3_turnFrom, Cond.instanceMethod yX3_turnFrom, Cond.selects RX3 yX3_turnFrom yX3_turnFrom, Cond.code yX3_turnFrom cX3_turnFrom 5 none, Cond.methodLink RX3 41 yX3_put, Cond.instanceMethod yX3_put, Cond.selects RX3 yX3_put yX3_put, Cond.code yX3_put cX3_put 3 none, Cond.methodLink RX1 99 yX1_addMirror, Cond.instanceMethod yX1_addMirror, Cond.selects RX1 yX1_addMirror yX1_addMirror, Cond.code yX1_addMirror cX1_addMirror 3 (some .int), Cond.methodLink RX1 108 Lib.Math.max.name, Cond.methodLink RX1 102 yX1_raiseItem, Cond.instanceMethod yX1_raiseItem, Cond.selects RX1 yX1_raiseItem yX1_raiseItem, Cond.code yX1_raiseItem cX1_raiseItem 3 none, Cond.methodLink RX1 114 yX3_put]
def wsX4_token_r6 : List Cond := [Cond.methodLink RX1 105 yX1_repeatItem, Cond.instanceMethod yX1_repeatItem, Cond.selects RX1 yX1_repeatItem yX1_repeatItem, Cond.code yX1_repeatItem cX1_repeatItem 4 (some .int), Cond.methodLink RX1 49 yX2_refuse, Cond.instanceMethod yX2_refuse, Cond.selects RX2 yX2_refuse yX2_refuse, Cond.initialized RX2, Cond.code yX2_refuse cX2_refuse 3 none, Cond.fieldLink RX2 20 "TreadleLoom$Program" "numbers" "LTreadleLoom$Row;", Cond.fieldLink RX2 23 "TreadleLoom$Program" "fault" "I", Cond.fieldLink RX2 27 "TreadleLoom$Program" "faultPlace" "I", Cond.methodLink RX2 34 yX3_clear, Cond.methodLink RX1 53 yX2_accept, Cond.instanceMethod yX2_accept, Cond.selects RX2 yX2_accept yX2_accept, Cond.code yX2_accept cX2_accept 2 none, Cond.methodLink RX2 30 yX3_copyFrom, Cond.instanceMethod yX3_copyFrom, Cond.selects RX3 yX3_copyFrom yX3_copyFrom, Cond.code yX3_copyFrom cX3_copyFrom 2 none, Cond.methodLink RX3 30 yX3_clear, Cond.methodLink RX3 33 yX3_addAll, Cond.methodLink RX4 121 yX4_weave]
def wsX4_token_r7 : List Cond := [Cond.instanceMethod yX4_weave, Cond.selects RX4 yX4_weave yX4_weave, Cond.code yX4_weave cX4_weave 1 none, Cond.fieldLink RX4 38 "TreadleLoom" "woven" "LTreadleLoom$Cloth;", Cond.fieldLink RX4 28 "TreadleLoom" "ties" "LTreadleLoom$Row;", Cond.methodLink RX4 157 yX0_weave, Cond.instanceMethod yX0_weave, Cond.selects RX0 yX0_weave yX0_weave, Cond.initialized RX0, Cond.code yX0_weave cX0_weave 8 none, Cond.fieldLink RX0 14 "TreadleLoom$Cloth" "ends" "LTreadleLoom$Row;", Cond.fieldLink RX0 20 "TreadleLoom$Cloth" "picks" "LTreadleLoom$Row;", Cond.methodLink RX0 23 yX3_clear, Cond.methodLink RX0 30 yX3_add, Cond.methodLink RX0 33 yX3_at, Cond.static yX4_hasBit, Cond.code yX4_hasBit cX4_hasBit 2 (some .boolean), Cond.methodLink RX0 41 yX3_put]
def wsX4_token : List Cond := .code yX4_token cX4_token 4 (some .int) :: ((wsX4_token_r1 ++ (wsX4_token_r2 ++ (wsX4_token_r3 ++ (wsX4_token_r4 ++ (wsX4_token_r5 ++ (wsX4_token_r6 ++ wsX4_token_r7)))))) ++ wsX20 ++ wsX30 ++ wsX40 ++ wsX10 ++ wsX00 ++ (vx_atS RX4 74 "java/lang/IllegalArgumentException" ["java/lang/RuntimeException", "java/lang/Exception"]).filter goodWord ++ (vx_atS RX4 116 "java/lang/IllegalStateException" ["java/lang/RuntimeException", "java/lang/Exception"]).filter goodWord ++ (vx_atS RX4 95 "java/lang/IndexOutOfBoundsException" ["java/lang/RuntimeException", "java/lang/Exception"]).filter goodWord)
def wsX4_untoken_r1 : List Cond := [Cond.classLink RX4 70 "java/lang/IllegalArgumentException", Cond.initialized "java/lang/IllegalArgumentException", Cond.methodLink RX4 66 yX4_programAt, Cond.instanceMethod yX4_programAt, Cond.selects RX4 yX4_programAt yX4_programAt, Cond.initialized RX4, Cond.code yX4_programAt cX4_programAt 2 (some (.object "TreadleLoom$Program")), Cond.classLink RX4 91 "java/lang/IndexOutOfBoundsException", Cond.initialized "java/lang/IndexOutOfBoundsException", Cond.fieldLink RX4 11 "TreadleLoom" "programs" "[LTreadleLoom$Program;", Cond.methodLink RX4 77 yX3_cutTo, Cond.instanceMethod yX3_cutTo, Cond.selects RX3 yX3_cutTo yX3_cutTo, Cond.initialized RX3, Cond.code yX3_cutTo cX3_cutTo 2 none, Cond.fieldLink RX3 19 "TreadleLoom$Row" "size" "I", Cond.methodLink RX3 27 Lib.Math.min.name, Cond.static Lib.Math.min.name, Cond.initialized "java/lang/Math", Cond.code Lib.Math.min.name Lib.Math.min.code 2 (some .int), Cond.methodLink RX3 7 Lib.Math.max.name, Cond.static Lib.Math.max.name, Cond.code Lib.Math.max.name Lib.Math.max.code 2 (some .int), Cond.methodLink RX4 59 yX4_renewFrom]
def wsX4_untoken_r2 : List Cond := [Cond.instanceMethod yX4_renewFrom, Cond.selects RX4 yX4_renewFrom yX4_renewFrom, Cond.code yX4_renewFrom cX4_renewFrom 4 none, Cond.fieldLink RX4 19 "TreadleLoom" "compiler" "LTreadleLoom$Compiler;", Cond.methodLink RX4 117 yX1_compile, Cond.instanceMethod yX1_compile, Cond.selects RX1 yX1_compile yX1_compile, Cond.initialized RX1, Cond.code yX1_compile cX1_compile 6 none, Cond.fieldLink RX1 16 "TreadleLoom$Compiler" "numbers" "LTreadleLoom$Row;", Cond.fieldLink RX1 20 "TreadleLoom$Compiler" "outerStarts" "LTreadleLoom$Row;", Cond.fieldLink RX1 26 "TreadleLoom$Compiler" "groupStart" "I", Cond.fieldLink RX1 30 "TreadleLoom$Compiler" "itemStart" "I", Cond.methodLink RX1 23 yX3_clear, Cond.instanceMethod yX3_clear, Cond.selects RX3 yX3_clear yX3_clear, Cond.code yX3_clear cX3_clear 1 none, Cond.methodLink RX1 41 yX3_at, Cond.instanceMethod yX3_at, Cond.selects RX3 yX3_at yX3_at, Cond.code yX3_at cX3_at 2 (some .int), Cond.fieldLink RX3 13 "TreadleLoom$Row" "cells" "[I", Cond.methodLink RX1 45 yX1_read, Cond.instanceMethod yX1_read]
def wsX4_untoken_r3 : List Cond := [Cond.selects RX1 yX1_read yX1_read, Cond.code yX1_read cX1_read 4 (some .int), Cond.methodLink RX1 57 yX1_addNumber, Cond.instanceMethod yX1_addNumber, Cond.selects RX1 yX1_addNumber yX1_addNumber, Cond.code yX1_addNumber cX1_addNumber 2 (some .int), Cond.methodLink RX1 82 yX1_hasRoom, Cond.instanceMethod yX1_hasRoom, Cond.selects RX1 yX1_hasRoom yX1_hasRoom, Cond.code yX1_hasRoom cX1_hasRoom 2 (some .boolean), Cond.methodLink RX1 86 yX1_beginItem, Cond.instanceMethod yX1_beginItem, Cond.selects RX1 yX1_beginItem yX1_beginItem, Cond.code yX1_beginItem cX1_beginItem 1 none, Cond.methodLink RX1 73 yX3_add, Cond.instanceMethod yX3_add, Cond.selects RX3 yX3_add yX3_add, Cond.code yX3_add cX3_add 2 none, Cond.methodLink RX1 60 yX1_openGroup, Cond.instanceMethod yX1_openGroup, Cond.selects RX1 yX1_openGroup yX1_openGroup, Cond.code yX1_openGroup cX1_openGroup 1 none, Cond.methodLink RX1 63 yX1_closeGroup, Cond.instanceMethod yX1_closeGroup]
def wsX4_untoken_r4 : List Cond := [Cond.selects RX1 yX1_closeGroup yX1_closeGroup, Cond.code yX1_closeGroup cX1_closeGroup 1 (some .int), Cond.methodLink RX1 76 yX3_last, Cond.instanceMethod yX3_last, Cond.selects RX3 yX3_last yX3_last, Cond.code yX3_last cX3_last 1 (some .int), Cond.methodLink RX3 23 yX3_at, Cond.methodLink RX1 79 yX3_cutTo, Cond.methodLink RX1 67 yX1_addBlock, Cond.instanceMethod yX1_addBlock, Cond.selects RX1 yX1_addBlock yX1_addBlock, Cond.code yX1_addBlock cX1_addBlock 6 (some .int), Cond.methodLink RX1 93 yX3_addAll, Cond.instanceMethod yX3_addAll, Cond.selects RX3 yX3_addAll yX3_addAll, Cond.code yX3_addAll cX3_addAll 3 none, Cond.methodLink RX3 37 yX3_add, Cond.methodLink RX1 70 yX1_changeItem, Cond.instanceMethod yX1_changeItem, Cond.selects RX1 yX1_changeItem yX1_changeItem, Cond.code yX1_changeItem cX1_changeItem 2 (some .int), Cond.methodLink RX1 96 yX3_turnFrom, Cond.instanceMethod yX3_turnFrom, Cond.selects RX3 yX3_turnFrom yX3_turnFrom]
def wsX4_untoken_r5 : List Cond := [Cond.code yX3_turnFrom cX3_turnFrom 5 none, Cond.methodLink RX3 41 yX3_put, Cond.instanceMethod yX3_put, Cond.selects RX3 yX3_put yX3_put, Cond.code yX3_put cX3_put 3 none, Cond.methodLink RX1 99 yX1_addMirror, Cond.instanceMethod yX1_addMirror, Cond.selects RX1 yX1_addMirror yX1_addMirror, Cond.code yX1_addMirror cX1_addMirror 3 (some .int), Cond.methodLink RX1 108 Lib.Math.max.name, Cond.methodLink RX1 102 yX1_raiseItem, Cond.instanceMethod yX1_raiseItem, Cond.selects RX1 yX1_raiseItem yX1_raiseItem, Cond.code yX1_raiseItem cX1_raiseItem 3 none, Cond.methodLink RX1 114 yX3_put, Cond.methodLink RX1 105 yX1_repeatItem, Cond.instanceMethod yX1_repeatItem, Cond.selects RX1 yX1_repeatItem yX1_repeatItem, Cond.code yX1_repeatItem cX1_repeatItem 4 (some .int), Cond.methodLink RX1 49 yX2_refuse, Cond.instanceMethod yX2_refuse, Cond.selects RX2 yX2_refuse yX2_refuse, Cond.initialized RX2, Cond.code yX2_refuse cX2_refuse 3 none]
def wsX4_untoken_r6 : List Cond := [Cond.fieldLink RX2 20 "TreadleLoom$Program" "numbers" "LTreadleLoom$Row;", Cond.fieldLink RX2 23 "TreadleLoom$Program" "fault" "I", Cond.fieldLink RX2 27 "TreadleLoom$Program" "faultPlace" "I", Cond.methodLink RX2 34 yX3_clear, Cond.methodLink RX1 53 yX2_accept, Cond.instanceMethod yX2_accept, Cond.selects RX2 yX2_accept yX2_accept, Cond.code yX2_accept cX2_accept 2 none, Cond.methodLink RX2 30 yX3_copyFrom, Cond.instanceMethod yX3_copyFrom, Cond.selects RX3 yX3_copyFrom yX3_copyFrom, Cond.code yX3_copyFrom cX3_copyFrom 2 none, Cond.methodLink RX3 30 yX3_clear, Cond.methodLink RX3 33 yX3_addAll, Cond.methodLink RX4 121 yX4_weave, Cond.instanceMethod yX4_weave, Cond.selects RX4 yX4_weave yX4_weave, Cond.code yX4_weave cX4_weave 1 none, Cond.fieldLink RX4 38 "TreadleLoom" "woven" "LTreadleLoom$Cloth;", Cond.fieldLink RX4 28 "TreadleLoom" "ties" "LTreadleLoom$Row;", Cond.methodLink RX4 157 yX0_weave, Cond.instanceMethod yX0_weave, Cond.selects RX0 yX0_weave yX0_weave, Cond.initialized RX0]
def wsX4_untoken_r7 : List Cond := [Cond.code yX0_weave cX0_weave 8 none, Cond.fieldLink RX0 14 "TreadleLoom$Cloth" "ends" "LTreadleLoom$Row;", Cond.fieldLink RX0 20 "TreadleLoom$Cloth" "picks" "LTreadleLoom$Row;", Cond.methodLink RX0 23 yX3_clear, Cond.methodLink RX0 30 yX3_add, Cond.methodLink RX0 33 yX3_at, Cond.static yX4_hasBit, Cond.code yX4_hasBit cX4_hasBit 2 (some .boolean), Cond.methodLink RX0 41 yX3_put]
def wsX4_untoken : List Cond := .code yX4_untoken cX4_untoken 4 (some .int) :: ((wsX4_untoken_r1 ++ (wsX4_untoken_r2 ++ (wsX4_untoken_r3 ++ (wsX4_untoken_r4 ++ (wsX4_untoken_r5 ++ (wsX4_untoken_r6 ++ wsX4_untoken_r7)))))) ++ wsX20 ++ wsX30 ++ wsX40 ++ wsX10 ++ wsX00 ++ (vx_atS RX4 74 "java/lang/IllegalArgumentException" ["java/lang/RuntimeException", "java/lang/Exception"]).filter goodWord ++ (vx_atS RX4 95 "java/lang/IndexOutOfBoundsException" ["java/lang/RuntimeException", "java/lang/Exception"]).filter goodWord)
def wsX4_ofProgram : List Cond := .code yX4_ofProgram cX4_ofProgram 4 (some .int) :: ([.classLink RX4 70 "java/lang/IllegalArgumentException", .initialized "java/lang/IllegalArgumentException", .methodLink RX4 66 yX4_programAt, .instanceMethod yX4_programAt, .selects RX4 yX4_programAt yX4_programAt, .initialized RX4, .code yX4_programAt cX4_programAt 2 (some (.object "TreadleLoom$Program")), .classLink RX4 91 "java/lang/IndexOutOfBoundsException", .initialized "java/lang/IndexOutOfBoundsException", .fieldLink RX4 11 "TreadleLoom" "programs" "[LTreadleLoom$Program;"] ++ wsX20 ++ wsX30 ++ wsX40 ++ (vx_atS RX4 74 "java/lang/IllegalArgumentException" ["java/lang/RuntimeException", "java/lang/Exception"]).filter goodWord ++ (vx_atS RX4 95 "java/lang/IndexOutOfBoundsException" ["java/lang/RuntimeException", "java/lang/Exception"]).filter goodWord)
def wsX4_number : List Cond := .code yX4_number cX4_number 4 (some .int) :: ([.classLink RX4 91 "java/lang/IndexOutOfBoundsException", .initialized "java/lang/IndexOutOfBoundsException", .methodLink RX4 66 yX4_programAt, .instanceMethod yX4_programAt, .selects RX4 yX4_programAt yX4_programAt, .initialized RX4, .code yX4_programAt cX4_programAt 2 (some (.object "TreadleLoom$Program")), .fieldLink RX4 11 "TreadleLoom" "programs" "[LTreadleLoom$Program;", .methodLink RX4 96 yX3_at, .instanceMethod yX3_at, .selects RX3 yX3_at yX3_at, .initialized RX3, .code yX3_at cX3_at 2 (some .int), .fieldLink RX3 19 "TreadleLoom$Row" "size" "I", .fieldLink RX3 13 "TreadleLoom$Row" "cells" "[I"] ++ wsX20 ++ wsX30 ++ wsX40 ++ (vx_atS RX4 95 "java/lang/IndexOutOfBoundsException" ["java/lang/RuntimeException", "java/lang/Exception"]).filter goodWord)
def wsX4_period : List Cond := .code yX4_period cX4_period 2 (some .int) :: ([.methodLink RX4 66 yX4_programAt, .instanceMethod yX4_programAt, .selects RX4 yX4_programAt yX4_programAt, .initialized RX4, .code yX4_programAt cX4_programAt 2 (some (.object "TreadleLoom$Program")), .classLink RX4 91 "java/lang/IndexOutOfBoundsException", .initialized "java/lang/IndexOutOfBoundsException", .fieldLink RX4 11 "TreadleLoom" "programs" "[LTreadleLoom$Program;", .methodLink RX4 100 yX3_leastPeriod, .instanceMethod yX3_leastPeriod, .selects RX3 yX3_leastPeriod yX3_leastPeriod, .initialized RX3, .code yX3_leastPeriod cX3_leastPeriod 2 (some .int), .fieldLink RX3 19 "TreadleLoom$Row" "size" "I", .methodLink RX3 45 yX3_hasPeriod, .instanceMethod yX3_hasPeriod, .selects RX3 yX3_hasPeriod yX3_hasPeriod, .code yX3_hasPeriod cX3_hasPeriod 3 (some .boolean), .methodLink RX3 23 yX3_at, .instanceMethod yX3_at, .selects RX3 yX3_at yX3_at, .code yX3_at cX3_at 2 (some .int), .fieldLink RX3 13 "TreadleLoom$Row" "cells" "[I"] ++ wsX20 ++ wsX40 ++ wsX30 ++ (vx_atS RX4 95 "java/lang/IndexOutOfBoundsException" ["java/lang/RuntimeException", "java/lang/Exception"]).filter goodWord)
def wsX4_checkTreadle : List Cond := .code yX4_checkTreadle cX4_checkTreadle 1 none :: ([.classLink RX4 91 "java/lang/IndexOutOfBoundsException", .initialized "java/lang/IndexOutOfBoundsException"] ++ (vx_atS RX4 95 "java/lang/IndexOutOfBoundsException" ["java/lang/RuntimeException", "java/lang/Exception"]).filter goodWord)
def wsX4_tie_r1 : List Cond := [Cond.classLink RX4 70 "java/lang/IllegalArgumentException", Cond.initialized "java/lang/IllegalArgumentException", Cond.fieldLink RX4 28 "TreadleLoom" "ties" "LTreadleLoom$Row;", Cond.methodLink RX4 124 yX4_checkTreadle, Cond.static yX4_checkTreadle, Cond.initialized RX4, Cond.code yX4_checkTreadle cX4_checkTreadle 1 none, Cond.classLink RX4 91 "java/lang/IndexOutOfBoundsException", Cond.initialized "java/lang/IndexOutOfBoundsException", Cond.methodLink RX4 96 yX3_at, Cond.instanceMethod yX3_at, Cond.selects RX3 yX3_at yX3_at, Cond.initialized RX3, Cond.code yX3_at cX3_at 2 (some .int), Cond.fieldLink RX3 19 "TreadleLoom$Row" "size" "I", Cond.fieldLink RX3 13 "TreadleLoom$Row" "cells" "[I", Cond.methodLink RX4 129 yX3_put, Cond.instanceMethod yX3_put, Cond.selects RX3 yX3_put yX3_put, Cond.code yX3_put cX3_put 3 none, Cond.methodLink RX4 121 yX4_weave, Cond.instanceMethod yX4_weave, Cond.selects RX4 yX4_weave yX4_weave, Cond.code yX4_weave cX4_weave 1 none]
def wsX4_tie_r2 : List Cond := [Cond.fieldLink RX4 38 "TreadleLoom" "woven" "LTreadleLoom$Cloth;", Cond.fieldLink RX4 11 "TreadleLoom" "programs" "[LTreadleLoom$Program;", Cond.methodLink RX4 157 yX0_weave, Cond.instanceMethod yX0_weave, Cond.selects RX0 yX0_weave yX0_weave, Cond.initialized RX0, Cond.code yX0_weave cX0_weave 8 none, Cond.fieldLink RX0 14 "TreadleLoom$Cloth" "ends" "LTreadleLoom$Row;", Cond.fieldLink RX0 20 "TreadleLoom$Cloth" "picks" "LTreadleLoom$Row;", Cond.methodLink RX0 23 yX3_clear, Cond.instanceMethod yX3_clear, Cond.selects RX3 yX3_clear yX3_clear, Cond.code yX3_clear cX3_clear 1 none, Cond.methodLink RX0 30 yX3_add, Cond.instanceMethod yX3_add, Cond.selects RX3 yX3_add yX3_add, Cond.code yX3_add cX3_add 2 none, Cond.methodLink RX0 33 yX3_at, Cond.static yX4_hasBit, Cond.code yX4_hasBit cX4_hasBit 2 (some .boolean), Cond.methodLink RX0 41 yX3_put]
def wsX4_tie : List Cond := .code yX4_tie cX4_tie 4 (some .int) :: ((wsX4_tie_r1 ++ wsX4_tie_r2) ++ wsX40 ++ wsX30 ++ wsX20 ++ wsX00 ++ (vx_atS RX4 74 "java/lang/IllegalArgumentException" ["java/lang/RuntimeException", "java/lang/Exception"]).filter goodWord ++ (vx_atS RX4 95 "java/lang/IndexOutOfBoundsException" ["java/lang/RuntimeException", "java/lang/Exception"]).filter goodWord)
def wsX4_tied : List Cond := .code yX4_tied cX4_tied 2 (some .int) :: ([.fieldLink RX4 28 "TreadleLoom" "ties" "LTreadleLoom$Row;", .methodLink RX4 124 yX4_checkTreadle, .static yX4_checkTreadle, .initialized RX4, .code yX4_checkTreadle cX4_checkTreadle 1 none, .classLink RX4 91 "java/lang/IndexOutOfBoundsException", .initialized "java/lang/IndexOutOfBoundsException", .methodLink RX4 96 yX3_at, .instanceMethod yX3_at, .selects RX3 yX3_at yX3_at, .initialized RX3, .code yX3_at cX3_at 2 (some .int), .fieldLink RX3 19 "TreadleLoom$Row" "size" "I", .fieldLink RX3 13 "TreadleLoom$Row" "cells" "[I"] ++ wsX40 ++ wsX30 ++ (vx_atS RX4 95 "java/lang/IndexOutOfBoundsException" ["java/lang/RuntimeException", "java/lang/Exception"]).filter goodWord)
def wsX4_checkShaft : List Cond := .code yX4_checkShaft cX4_checkShaft 1 none :: ([.classLink RX4 91 "java/lang/IndexOutOfBoundsException", .initialized "java/lang/IndexOutOfBoundsException"] ++ (vx_atS RX4 95 "java/lang/IndexOutOfBoundsException" ["java/lang/RuntimeException", "java/lang/Exception"]).filter goodWord)
def wsX4_swapInTrialTies : List Cond := .code yX4_swapInTrialTies cX4_swapInTrialTies 6 none :: ([.fieldLink RX4 46 "TreadleLoom" "trialTies" "LTreadleLoom$Row;", .fieldLink RX4 28 "TreadleLoom" "ties" "LTreadleLoom$Row;", .methodLink RX4 137 yX3_clear, .instanceMethod yX3_clear, .selects RX3 yX3_clear yX3_clear, .initialized RX3, .code yX3_clear cX3_clear 1 none, .fieldLink RX3 19 "TreadleLoom$Row" "size" "I", .methodLink RX4 96 yX3_at, .instanceMethod yX3_at, .selects RX3 yX3_at yX3_at, .code yX3_at cX3_at 2 (some .int), .fieldLink RX3 13 "TreadleLoom$Row" "cells" "[I", .methodLink RX4 32 yX3_add, .instanceMethod yX3_add, .selects RX3 yX3_add yX3_add, .code yX3_add cX3_add 2 none] ++ wsX40 ++ wsX30)
def wsX4_takeTrialTies_r1 : List Cond := [Cond.fieldLink RX4 28 "TreadleLoom" "ties" "LTreadleLoom$Row;", Cond.fieldLink RX4 46 "TreadleLoom" "trialTies" "LTreadleLoom$Row;", Cond.methodLink RX4 96 yX3_at, Cond.instanceMethod yX3_at, Cond.selects RX3 yX3_at yX3_at, Cond.initialized RX3, Cond.code yX3_at cX3_at 2 (some .int), Cond.fieldLink RX3 19 "TreadleLoom$Row" "size" "I", Cond.fieldLink RX3 13 "TreadleLoom$Row" "cells" "[I", Cond.methodLink RX4 153 yX3_copyFrom, Cond.instanceMethod yX3_copyFrom, Cond.selects RX3 yX3_copyFrom yX3_copyFrom, Cond.code yX3_copyFrom cX3_copyFrom 2 none, Cond.methodLink RX3 30 yX3_clear, Cond.instanceMethod yX3_clear, Cond.selects RX3 yX3_clear yX3_clear, Cond.code yX3_clear cX3_clear 1 none, Cond.methodLink RX3 33 yX3_addAll, Cond.instanceMethod yX3_addAll, Cond.selects RX3 yX3_addAll yX3_addAll, Cond.code yX3_addAll cX3_addAll 3 none, Cond.methodLink RX3 23 yX3_at, Cond.methodLink RX3 37 yX3_add, Cond.instanceMethod yX3_add]
def wsX4_takeTrialTies_r2 : List Cond := [Cond.selects RX3 yX3_add yX3_add, Cond.code yX3_add cX3_add 2 none, Cond.methodLink RX4 121 yX4_weave, Cond.instanceMethod yX4_weave, Cond.selects RX4 yX4_weave yX4_weave, Cond.initialized RX4, Cond.code yX4_weave cX4_weave 1 none, Cond.fieldLink RX4 38 "TreadleLoom" "woven" "LTreadleLoom$Cloth;", Cond.fieldLink RX4 11 "TreadleLoom" "programs" "[LTreadleLoom$Program;", Cond.methodLink RX4 157 yX0_weave, Cond.instanceMethod yX0_weave, Cond.selects RX0 yX0_weave yX0_weave, Cond.initialized RX0, Cond.code yX0_weave cX0_weave 8 none, Cond.fieldLink RX0 14 "TreadleLoom$Cloth" "ends" "LTreadleLoom$Row;", Cond.fieldLink RX0 20 "TreadleLoom$Cloth" "picks" "LTreadleLoom$Row;", Cond.methodLink RX0 23 yX3_clear, Cond.methodLink RX0 30 yX3_add, Cond.methodLink RX0 33 yX3_at, Cond.static yX4_hasBit, Cond.code yX4_hasBit cX4_hasBit 2 (some .boolean), Cond.methodLink RX0 41 yX3_put, Cond.instanceMethod yX3_put, Cond.selects RX3 yX3_put yX3_put]
def wsX4_takeTrialTies_r3 : List Cond := [Cond.code yX3_put cX3_put 3 none]
def wsX4_takeTrialTies : List Cond := .code yX4_takeTrialTies cX4_takeTrialTies 3 (some .int) :: ((wsX4_takeTrialTies_r1 ++ (wsX4_takeTrialTies_r2 ++ wsX4_takeTrialTies_r3)) ++ wsX40 ++ wsX30 ++ wsX20 ++ wsX00)
def wsX4_swap_r1 : List Cond := [Cond.methodLink RX4 143 yX4_checkShaft, Cond.static yX4_checkShaft, Cond.initialized RX4, Cond.code yX4_checkShaft cX4_checkShaft 1 none, Cond.classLink RX4 91 "java/lang/IndexOutOfBoundsException", Cond.initialized "java/lang/IndexOutOfBoundsException", Cond.methodLink RX4 146 yX4_swapInTrialTies, Cond.instanceMethod yX4_swapInTrialTies, Cond.selects RX4 yX4_swapInTrialTies yX4_swapInTrialTies, Cond.code yX4_swapInTrialTies cX4_swapInTrialTies 6 none, Cond.fieldLink RX4 46 "TreadleLoom" "trialTies" "LTreadleLoom$Row;", Cond.fieldLink RX4 28 "TreadleLoom" "ties" "LTreadleLoom$Row;", Cond.methodLink RX4 137 yX3_clear, Cond.instanceMethod yX3_clear, Cond.selects RX3 yX3_clear yX3_clear, Cond.initialized RX3, Cond.code yX3_clear cX3_clear 1 none, Cond.fieldLink RX3 19 "TreadleLoom$Row" "size" "I", Cond.methodLink RX4 96 yX3_at, Cond.instanceMethod yX3_at, Cond.selects RX3 yX3_at yX3_at, Cond.code yX3_at cX3_at 2 (some .int), Cond.fieldLink RX3 13 "TreadleLoom$Row" "cells" "[I", Cond.methodLink RX4 32 yX3_add]
def wsX4_swap_r2 : List Cond := [Cond.instanceMethod yX3_add, Cond.selects RX3 yX3_add yX3_add, Cond.code yX3_add cX3_add 2 none, Cond.methodLink RX4 140 yX4_takeTrialTies, Cond.instanceMethod yX4_takeTrialTies, Cond.selects RX4 yX4_takeTrialTies yX4_takeTrialTies, Cond.code yX4_takeTrialTies cX4_takeTrialTies 3 (some .int), Cond.methodLink RX4 153 yX3_copyFrom, Cond.instanceMethod yX3_copyFrom, Cond.selects RX3 yX3_copyFrom yX3_copyFrom, Cond.code yX3_copyFrom cX3_copyFrom 2 none, Cond.methodLink RX3 30 yX3_clear, Cond.methodLink RX3 33 yX3_addAll, Cond.instanceMethod yX3_addAll, Cond.selects RX3 yX3_addAll yX3_addAll, Cond.code yX3_addAll cX3_addAll 3 none, Cond.methodLink RX3 23 yX3_at, Cond.methodLink RX3 37 yX3_add, Cond.methodLink RX4 121 yX4_weave, Cond.instanceMethod yX4_weave, Cond.selects RX4 yX4_weave yX4_weave, Cond.code yX4_weave cX4_weave 1 none, Cond.fieldLink RX4 38 "TreadleLoom" "woven" "LTreadleLoom$Cloth;", Cond.fieldLink RX4 11 "TreadleLoom" "programs" "[LTreadleLoom$Program;"]
def wsX4_swap_r3 : List Cond := [Cond.methodLink RX4 157 yX0_weave, Cond.instanceMethod yX0_weave, Cond.selects RX0 yX0_weave yX0_weave, Cond.initialized RX0, Cond.code yX0_weave cX0_weave 8 none, Cond.fieldLink RX0 14 "TreadleLoom$Cloth" "ends" "LTreadleLoom$Row;", Cond.fieldLink RX0 20 "TreadleLoom$Cloth" "picks" "LTreadleLoom$Row;", Cond.methodLink RX0 23 yX3_clear, Cond.methodLink RX0 30 yX3_add, Cond.methodLink RX0 33 yX3_at, Cond.static yX4_hasBit, Cond.code yX4_hasBit cX4_hasBit 2 (some .boolean), Cond.methodLink RX0 41 yX3_put, Cond.instanceMethod yX3_put, Cond.selects RX3 yX3_put yX3_put, Cond.code yX3_put cX3_put 3 none]
def wsX4_swap : List Cond := .code yX4_swap cX4_swap 3 (some .int) :: ((wsX4_swap_r1 ++ (wsX4_swap_r2 ++ wsX4_swap_r3)) ++ wsX40 ++ wsX30 ++ wsX20 ++ wsX00 ++ (vx_atS RX4 95 "java/lang/IndexOutOfBoundsException" ["java/lang/RuntimeException", "java/lang/Exception"]).filter goodWord)
def wsX4_cloth_r1 : List Cond := [Cond.classLink RX4 70 "java/lang/IllegalArgumentException", Cond.initialized "java/lang/IllegalArgumentException", Cond.fieldLink RX4 38 "TreadleLoom" "woven" "LTreadleLoom$Cloth;", Cond.fieldLink RX4 11 "TreadleLoom" "programs" "[LTreadleLoom$Program;", Cond.methodLink RX4 166 yX3_countBits, Cond.instanceMethod yX3_countBits, Cond.selects RX3 yX3_countBits yX3_countBits, Cond.initialized RX3, Cond.code yX3_countBits cX3_countBits 3 (some .int), Cond.fieldLink RX3 19 "TreadleLoom$Row" "size" "I", Cond.methodLink RX3 23 yX3_at, Cond.instanceMethod yX3_at, Cond.selects RX3 yX3_at yX3_at, Cond.code yX3_at cX3_at 2 (some .int), Cond.fieldLink RX3 13 "TreadleLoom$Row" "cells" "[I", Cond.methodLink RX3 52 yJ6_bitCount_0f7a4, Cond.static yJ6_bitCount_0f7a4, Cond.initialized RJ6, Cond.code yJ6_bitCount_0f7a4 cJ6_bitCount_0f7a4 1 (some .int), Cond.constant RJ6 265 (1431655765), Cond.constant RJ6 266 (858993459), Cond.constant RJ6 267 (252645135), Cond.methodLink RX4 169 yX0_longestFloat, Cond.instanceMethod yX0_longestFloat]
def wsX4_cloth_r2 : List Cond := [Cond.selects RX0 yX0_longestFloat yX0_longestFloat, Cond.initialized RX0, Cond.code yX0_longestFloat cX0_longestFloat 1 (some .int), Cond.fieldLink RX0 14 "TreadleLoom$Cloth" "ends" "LTreadleLoom$Row;", Cond.fieldLink RX0 20 "TreadleLoom$Cloth" "picks" "LTreadleLoom$Row;", Cond.methodLink RX0 59 Lib.Math.max.name, Cond.static Lib.Math.max.name, Cond.initialized "java/lang/Math", Cond.code Lib.Math.max.name Lib.Math.max.code 2 (some .int), Cond.methodLink RX0 55 yX3_longestOfRuns, Cond.instanceMethod yX3_longestOfRuns, Cond.selects RX3 yX3_longestOfRuns yX3_longestOfRuns, Cond.code yX3_longestOfRuns cX3_longestOfRuns 3 (some .int), Cond.methodLink RX3 7 Lib.Math.max.name, Cond.static yX4_longestRun, Cond.initialized RX4, Cond.code yX4_longestRun cX4_longestRun 3 (some .int), Cond.methodLink RX4 172 yX3_countRuns, Cond.instanceMethod yX3_countRuns, Cond.selects RX3 yX3_countRuns yX3_countRuns, Cond.code yX3_countRuns cX3_countRuns 4 (some .int), Cond.static yX4_runStarts, Cond.code yX4_runStarts cX4_runStarts 4 (some .int), Cond.methodLink RX4 175 yX3_countDistinct]
def wsX4_cloth_r3 : List Cond := [Cond.instanceMethod yX3_countDistinct, Cond.selects RX3 yX3_countDistinct yX3_countDistinct, Cond.code yX3_countDistinct cX3_countDistinct 3 (some .int), Cond.methodLink RX3 49 yX3_firstPlaceOf, Cond.instanceMethod yX3_firstPlaceOf, Cond.selects RX3 yX3_firstPlaceOf yX3_firstPlaceOf, Cond.code yX3_firstPlaceOf cX3_firstPlaceOf 3 (some .int)]
def wsX4_cloth : List Cond := .code yX4_cloth cX4_cloth 2 (some .int) :: ((wsX4_cloth_r1 ++ (wsX4_cloth_r2 ++ wsX4_cloth_r3)) ++ wsX40 ++ wsX00 ++ wsX30 ++ wsX20 ++ (vx_atS RX4 74 "java/lang/IllegalArgumentException" ["java/lang/RuntimeException", "java/lang/Exception"]).filter goodWord)
def wsX4_checkEnd : List Cond := .code yX4_checkEnd cX4_checkEnd 2 none :: ([.classLink RX4 91 "java/lang/IndexOutOfBoundsException", .initialized "java/lang/IndexOutOfBoundsException", .fieldLink RX4 38 "TreadleLoom" "woven" "LTreadleLoom$Cloth;"] ++ wsX40 ++ wsX00 ++ wsX30 ++ (vx_atS RX4 95 "java/lang/IndexOutOfBoundsException" ["java/lang/RuntimeException", "java/lang/Exception"]).filter goodWord)
def wsX4_checkPick : List Cond := .code yX4_checkPick cX4_checkPick 2 none :: ([.classLink RX4 91 "java/lang/IndexOutOfBoundsException", .initialized "java/lang/IndexOutOfBoundsException", .fieldLink RX4 38 "TreadleLoom" "woven" "LTreadleLoom$Cloth;"] ++ wsX40 ++ wsX00 ++ wsX30 ++ (vx_atS RX4 95 "java/lang/IndexOutOfBoundsException" ["java/lang/RuntimeException", "java/lang/Exception"]).filter goodWord)
def wsX4_colourAt : List Cond := .code yX4_colourAt cX4_colourAt 3 (some .int) :: ([.fieldLink RX4 38 "TreadleLoom" "woven" "LTreadleLoom$Cloth;", .fieldLink RX4 11 "TreadleLoom" "programs" "[LTreadleLoom$Program;", .methodLink RX4 186 yX0_isUp, .instanceMethod yX0_isUp, .selects RX0 yX0_isUp yX0_isUp, .initialized RX0, .code yX0_isUp cX0_isUp 3 (some .boolean), .fieldLink RX0 14 "TreadleLoom$Cloth" "ends" "LTreadleLoom$Row;", .methodLink RX0 33 yX3_at, .instanceMethod yX3_at, .selects RX3 yX3_at yX3_at, .initialized RX3, .code yX3_at cX3_at 2 (some .int), .fieldLink RX3 19 "TreadleLoom$Row" "size" "I", .fieldLink RX3 13 "TreadleLoom$Row" "cells" "[I", .static yX4_hasBit, .initialized RX4, .code yX4_hasBit cX4_hasBit 2 (some .boolean), .methodLink RX4 241 yX3_atRound, .instanceMethod yX3_atRound, .selects RX3 yX3_atRound yX3_atRound, .code yX3_atRound cX3_atRound 2 (some .int), .methodLink RX3 23 yX3_at] ++ wsX40 ++ wsX20 ++ wsX00 ++ wsX30)
def wsX4_field_r1 : List Cond := [Cond.classLink RX4 70 "java/lang/IllegalArgumentException", Cond.initialized "java/lang/IllegalArgumentException", Cond.fieldLink RX4 38 "TreadleLoom" "woven" "LTreadleLoom$Cloth;", Cond.methodLink RX4 180 yX4_checkEnd, Cond.instanceMethod yX4_checkEnd, Cond.selects RX4 yX4_checkEnd yX4_checkEnd, Cond.initialized RX4, Cond.code yX4_checkEnd cX4_checkEnd 2 none, Cond.classLink RX4 91 "java/lang/IndexOutOfBoundsException", Cond.initialized "java/lang/IndexOutOfBoundsException", Cond.methodLink RX4 183 yX4_checkPick, Cond.instanceMethod yX4_checkPick, Cond.selects RX4 yX4_checkPick yX4_checkPick, Cond.code yX4_checkPick cX4_checkPick 2 none, Cond.methodLink RX4 186 yX0_isUp, Cond.instanceMethod yX0_isUp, Cond.selects RX0 yX0_isUp yX0_isUp, Cond.initialized RX0, Cond.code yX0_isUp cX0_isUp 3 (some .boolean), Cond.fieldLink RX0 14 "TreadleLoom$Cloth" "ends" "LTreadleLoom$Row;", Cond.methodLink RX0 33 yX3_at, Cond.instanceMethod yX3_at, Cond.selects RX3 yX3_at yX3_at, Cond.initialized RX3]
def wsX4_field_r2 : List Cond := [Cond.code yX3_at cX3_at 2 (some .int), Cond.fieldLink RX3 19 "TreadleLoom$Row" "size" "I", Cond.fieldLink RX3 13 "TreadleLoom$Row" "cells" "[I", Cond.static yX4_hasBit, Cond.code yX4_hasBit cX4_hasBit 2 (some .boolean), Cond.methodLink RX4 190 yX4_colourAt, Cond.instanceMethod yX4_colourAt, Cond.selects RX4 yX4_colourAt yX4_colourAt, Cond.code yX4_colourAt cX4_colourAt 3 (some .int), Cond.fieldLink RX4 11 "TreadleLoom" "programs" "[LTreadleLoom$Program;", Cond.methodLink RX4 241 yX3_atRound, Cond.instanceMethod yX3_atRound, Cond.selects RX3 yX3_atRound yX3_atRound, Cond.code yX3_atRound cX3_atRound 2 (some .int), Cond.methodLink RX3 23 yX3_at, Cond.methodLink RX4 194 yX0_floatAt, Cond.instanceMethod yX0_floatAt, Cond.selects RX0 yX0_floatAt yX0_floatAt, Cond.code yX0_floatAt cX0_floatAt 3 (some .int), Cond.fieldLink RX0 20 "TreadleLoom$Cloth" "picks" "LTreadleLoom$Row;", Cond.methodLink RX0 45 yX0_isUp, Cond.static yX4_runAround, Cond.code yX4_runAround cX4_runAround 4 (some .int), Cond.methodLink RX4 291 yX4_hasBit]
def wsX4_field : List Cond := .code yX4_field cX4_field 4 (some .int) :: ((wsX4_field_r1 ++ wsX4_field_r2) ++ wsX40 ++ wsX00 ++ wsX30 ++ wsX20 ++ (vx_atS RX4 74 "java/lang/IllegalArgumentException" ["java/lang/RuntimeException", "java/lang/Exception"]).filter goodWord ++ (vx_atS RX4 95 "java/lang/IndexOutOfBoundsException" ["java/lang/RuntimeException", "java/lang/Exception"]).filter goodWord)
def wsX4_checkLength : List Cond := .code yX4_checkLength cX4_checkLength 1 none :: ([.classLink RX4 70 "java/lang/IllegalArgumentException", .initialized "java/lang/IllegalArgumentException"] ++ (vx_atS RX4 74 "java/lang/IllegalArgumentException" ["java/lang/RuntimeException", "java/lang/Exception"]).filter goodWord)
def wsX4_floats_r1 : List Cond := [Cond.fieldLink RX4 38 "TreadleLoom" "woven" "LTreadleLoom$Cloth;", Cond.methodLink RX4 199 yX4_checkLength, Cond.static yX4_checkLength, Cond.initialized RX4, Cond.code yX4_checkLength cX4_checkLength 1 none, Cond.classLink RX4 70 "java/lang/IllegalArgumentException", Cond.initialized "java/lang/IllegalArgumentException", Cond.methodLink RX4 202 yX0_countFloats, Cond.instanceMethod yX0_countFloats, Cond.selects RX0 yX0_countFloats yX0_countFloats, Cond.initialized RX0, Cond.code yX0_countFloats cX0_countFloats 2 (some .int), Cond.fieldLink RX0 14 "TreadleLoom$Cloth" "ends" "LTreadleLoom$Row;", Cond.fieldLink RX0 20 "TreadleLoom$Cloth" "picks" "LTreadleLoom$Row;", Cond.methodLink RX0 52 yX3_countRuns, Cond.instanceMethod yX3_countRuns, Cond.selects RX3 yX3_countRuns yX3_countRuns, Cond.initialized RX3, Cond.code yX3_countRuns cX3_countRuns 4 (some .int), Cond.fieldLink RX3 19 "TreadleLoom$Row" "size" "I", Cond.methodLink RX3 23 yX3_at, Cond.instanceMethod yX3_at, Cond.selects RX3 yX3_at yX3_at, Cond.code yX3_at cX3_at 2 (some .int)]
def wsX4_floats_r2 : List Cond := [Cond.fieldLink RX3 13 "TreadleLoom$Row" "cells" "[I", Cond.static yX4_runStarts, Cond.code yX4_runStarts cX4_runStarts 4 (some .int), Cond.methodLink RX3 52 yJ6_bitCount_0f7a4, Cond.static yJ6_bitCount_0f7a4, Cond.initialized RJ6, Cond.code yJ6_bitCount_0f7a4 cJ6_bitCount_0f7a4 1 (some .int), Cond.constant RJ6 265 (1431655765), Cond.constant RJ6 266 (858993459), Cond.constant RJ6 267 (252645135)]
def wsX4_floats : List Cond := .code yX4_floats cX4_floats 2 (some .int) :: ((wsX4_floats_r1 ++ wsX4_floats_r2) ++ wsX40 ++ wsX00 ++ wsX30 ++ (vx_atS RX4 74 "java/lang/IllegalArgumentException" ["java/lang/RuntimeException", "java/lang/Exception"]).filter goodWord)
def wsX4_firstBit : List Cond := .code yX4_firstBit cX4_firstBit 2 (some .int) :: ([.methodLink RX4 291 yX4_hasBit, .static yX4_hasBit, .initialized RX4, .code yX4_hasBit cX4_hasBit 2 (some .boolean)])
def wsX4_where_r1 : List Cond := [Cond.fieldLink RX4 38 "TreadleLoom" "woven" "LTreadleLoom$Cloth;", Cond.methodLink RX4 199 yX4_checkLength, Cond.static yX4_checkLength, Cond.initialized RX4, Cond.code yX4_checkLength cX4_checkLength 1 none, Cond.classLink RX4 70 "java/lang/IllegalArgumentException", Cond.initialized "java/lang/IllegalArgumentException", Cond.methodLink RX4 205 yX3_firstWithRun, Cond.instanceMethod yX3_firstWithRun, Cond.selects RX3 yX3_firstWithRun yX3_firstWithRun, Cond.initialized RX3, Cond.code yX3_firstWithRun cX3_firstWithRun 3 (some .int), Cond.fieldLink RX3 19 "TreadleLoom$Row" "size" "I", Cond.methodLink RX3 23 yX3_at, Cond.instanceMethod yX3_at, Cond.selects RX3 yX3_at yX3_at, Cond.code yX3_at cX3_at 2 (some .int), Cond.fieldLink RX3 13 "TreadleLoom$Row" "cells" "[I", Cond.static yX4_runStarts, Cond.code yX4_runStarts cX4_runStarts 4 (some .int), Cond.methodLink RX4 96 yX3_at, Cond.methodLink RX4 208 yX4_runStarts, Cond.methodLink RX4 211 yX4_firstBit, Cond.static yX4_firstBit]
def wsX4_where_r2 : List Cond := [Cond.code yX4_firstBit cX4_firstBit 2 (some .int), Cond.methodLink RX4 291 yX4_hasBit, Cond.static yX4_hasBit, Cond.code yX4_hasBit cX4_hasBit 2 (some .boolean)]
def wsX4_where : List Cond := .code yX4_where cX4_where 6 (some .int) :: ((wsX4_where_r1 ++ wsX4_where_r2) ++ wsX40 ++ wsX00 ++ wsX30 ++ (vx_atS RX4 74 "java/lang/IllegalArgumentException" ["java/lang/RuntimeException", "java/lang/Exception"]).filter goodWord)
def wsX4_seen_r1 : List Cond := [Cond.classLink RX4 70 "java/lang/IllegalArgumentException", Cond.initialized "java/lang/IllegalArgumentException", Cond.fieldLink RX4 38 "TreadleLoom" "woven" "LTreadleLoom$Cloth;", Cond.methodLink RX4 190 yX4_colourAt, Cond.instanceMethod yX4_colourAt, Cond.selects RX4 yX4_colourAt yX4_colourAt, Cond.initialized RX4, Cond.code yX4_colourAt cX4_colourAt 3 (some .int), Cond.fieldLink RX4 11 "TreadleLoom" "programs" "[LTreadleLoom$Program;", Cond.methodLink RX4 186 yX0_isUp, Cond.instanceMethod yX0_isUp, Cond.selects RX0 yX0_isUp yX0_isUp, Cond.initialized RX0, Cond.code yX0_isUp cX0_isUp 3 (some .boolean), Cond.fieldLink RX0 14 "TreadleLoom$Cloth" "ends" "LTreadleLoom$Row;", Cond.methodLink RX0 33 yX3_at, Cond.instanceMethod yX3_at, Cond.selects RX3 yX3_at yX3_at, Cond.initialized RX3, Cond.code yX3_at cX3_at 2 (some .int), Cond.fieldLink RX3 19 "TreadleLoom$Row" "size" "I", Cond.fieldLink RX3 13 "TreadleLoom$Row" "cells" "[I", Cond.static yX4_hasBit, Cond.code yX4_hasBit cX4_hasBit 2 (some .boolean)]
def wsX4_seen_r2 : List Cond := [Cond.methodLink RX4 241 yX3_atRound, Cond.instanceMethod yX3_atRound, Cond.selects RX3 yX3_atRound yX3_atRound, Cond.code yX3_atRound cX3_atRound 2 (some .int), Cond.methodLink RX3 23 yX3_at]
def wsX4_seen : List Cond := .code yX4_seen cX4_seen 5 (some .int) :: ((wsX4_seen_r1 ++ wsX4_seen_r2) ++ wsX40 ++ wsX00 ++ wsX30 ++ wsX20 ++ (vx_atS RX4 74 "java/lang/IllegalArgumentException" ["java/lang/RuntimeException", "java/lang/Exception"]).filter goodWord)
def wsX4_repeat : List Cond := .code yX4_repeat cX4_repeat 2 (some .int) :: ([.fieldLink RX4 38 "TreadleLoom" "woven" "LTreadleLoom$Cloth;", .methodLink RX4 221 yX0_hasFields, .instanceMethod yX0_hasFields, .selects RX0 yX0_hasFields yX0_hasFields, .initialized RX0, .code yX0_hasFields cX0_hasFields 1 (some .boolean), .fieldLink RX0 14 "TreadleLoom$Cloth" "ends" "LTreadleLoom$Row;", .fieldLink RX0 20 "TreadleLoom$Cloth" "picks" "LTreadleLoom$Row;", .methodLink RX4 100 yX3_leastPeriod, .instanceMethod yX3_leastPeriod, .selects RX3 yX3_leastPeriod yX3_leastPeriod, .initialized RX3, .code yX3_leastPeriod cX3_leastPeriod 2 (some .int), .fieldLink RX3 19 "TreadleLoom$Row" "size" "I", .methodLink RX3 45 yX3_hasPeriod, .instanceMethod yX3_hasPeriod, .selects RX3 yX3_hasPeriod yX3_hasPeriod, .code yX3_hasPeriod cX3_hasPeriod 3 (some .boolean), .methodLink RX3 23 yX3_at, .instanceMethod yX3_at, .selects RX3 yX3_at yX3_at, .code yX3_at cX3_at 2 (some .int), .fieldLink RX3 13 "TreadleLoom$Row" "cells" "[I"] ++ wsX40 ++ wsX00 ++ wsX30)
def wsX4_hangs_r1 : List Cond := [Cond.fieldLink RX4 38 "TreadleLoom" "woven" "LTreadleLoom$Cloth;", Cond.methodLink RX4 225 yX0_isConnected, Cond.instanceMethod yX0_isConnected, Cond.selects RX0 yX0_isConnected yX0_isConnected, Cond.initialized RX0, Cond.code yX0_isConnected cX0_isConnected 1 (some .boolean), Cond.methodLink RX0 64 yX0_hasFields, Cond.instanceMethod yX0_hasFields, Cond.selects RX0 yX0_hasFields yX0_hasFields, Cond.code yX0_hasFields cX0_hasFields 1 (some .boolean), Cond.fieldLink RX0 14 "TreadleLoom$Cloth" "ends" "LTreadleLoom$Row;", Cond.fieldLink RX0 20 "TreadleLoom$Cloth" "picks" "LTreadleLoom$Row;", Cond.methodLink RX0 68 yX0_isAllReached, Cond.instanceMethod yX0_isAllReached, Cond.selects RX0 yX0_isAllReached yX0_isAllReached, Cond.code yX0_isAllReached cX0_isAllReached 2 (some .boolean), Cond.methodLink RX0 72 yX0_endsReached, Cond.instanceMethod yX0_endsReached, Cond.selects RX0 yX0_endsReached yX0_endsReached, Cond.code yX0_endsReached cX0_endsReached 6 (some .int), Cond.methodLink RX0 82 yX0_nextTo, Cond.static yX0_nextTo, Cond.code yX0_nextTo cX0_nextTo 6 (some .int), Cond.static yX4_hasBit]
def wsX4_hangs_r2 : List Cond := [Cond.initialized RX4, Cond.code yX4_hasBit cX4_hasBit 2 (some .boolean), Cond.methodLink RX0 33 yX3_at, Cond.instanceMethod yX3_at, Cond.selects RX3 yX3_at yX3_at, Cond.initialized RX3, Cond.code yX3_at cX3_at 2 (some .int), Cond.fieldLink RX3 19 "TreadleLoom$Row" "size" "I", Cond.fieldLink RX3 13 "TreadleLoom$Row" "cells" "[I", Cond.static yX4_fullSet, Cond.code yX4_fullSet cX4_fullSet 1 (some .int), Cond.methodLink RX0 79 yX0_picksReached, Cond.instanceMethod yX0_picksReached, Cond.selects RX0 yX0_picksReached yX0_picksReached, Cond.code yX0_picksReached cX0_picksReached 2 (some .int)]
def wsX4_hangs : List Cond := .code yX4_hangs cX4_hangs 1 (some .boolean) :: ((wsX4_hangs_r1 ++ wsX4_hangs_r2) ++ wsX40 ++ wsX00 ++ wsX30)
def wsX4_reach_r1 : List Cond := [Cond.fieldLink RX4 38 "TreadleLoom" "woven" "LTreadleLoom$Cloth;", Cond.methodLink RX4 221 yX0_hasFields, Cond.instanceMethod yX0_hasFields, Cond.selects RX0 yX0_hasFields yX0_hasFields, Cond.initialized RX0, Cond.code yX0_hasFields cX0_hasFields 1 (some .boolean), Cond.fieldLink RX0 14 "TreadleLoom$Cloth" "ends" "LTreadleLoom$Row;", Cond.fieldLink RX0 20 "TreadleLoom$Cloth" "picks" "LTreadleLoom$Row;", Cond.methodLink RX4 228 yX0_endsReached, Cond.instanceMethod yX0_endsReached, Cond.selects RX0 yX0_endsReached yX0_endsReached, Cond.code yX0_endsReached cX0_endsReached 6 (some .int), Cond.methodLink RX0 82 yX0_nextTo, Cond.static yX0_nextTo, Cond.code yX0_nextTo cX0_nextTo 6 (some .int), Cond.static yX4_hasBit, Cond.initialized RX4, Cond.code yX4_hasBit cX4_hasBit 2 (some .boolean), Cond.methodLink RX0 33 yX3_at, Cond.instanceMethod yX3_at, Cond.selects RX3 yX3_at yX3_at, Cond.initialized RX3, Cond.code yX3_at cX3_at 2 (some .int), Cond.fieldLink RX3 19 "TreadleLoom$Row" "size" "I"]
def wsX4_reach_r2 : List Cond := [Cond.fieldLink RX3 13 "TreadleLoom$Row" "cells" "[I", Cond.static yX4_fullSet, Cond.code yX4_fullSet cX4_fullSet 1 (some .int), Cond.methodLink RX4 232 yX0_picksReached, Cond.instanceMethod yX0_picksReached, Cond.selects RX0 yX0_picksReached yX0_picksReached, Cond.code yX0_picksReached cX0_picksReached 2 (some .int), Cond.methodLink RX0 72 yX0_endsReached, Cond.methodLink RX4 214 yJ6_bitCount_0f7a4, Cond.static yJ6_bitCount_0f7a4, Cond.initialized RJ6, Cond.code yJ6_bitCount_0f7a4 cJ6_bitCount_0f7a4 1 (some .int), Cond.constant RJ6 265 (1431655765), Cond.constant RJ6 266 (858993459), Cond.constant RJ6 267 (252645135)]
def wsX4_reach : List Cond := .code yX4_reach cX4_reach 2 (some .int) :: ((wsX4_reach_r1 ++ wsX4_reach_r2) ++ wsX40 ++ wsX00 ++ wsX30)
def wsX4_meanFloat_r1 : List Cond := [Cond.fieldLink RX4 38 "TreadleLoom" "woven" "LTreadleLoom$Cloth;", Cond.methodLink RX4 202 yX0_countFloats, Cond.instanceMethod yX0_countFloats, Cond.selects RX0 yX0_countFloats yX0_countFloats, Cond.initialized RX0, Cond.code yX0_countFloats cX0_countFloats 2 (some .int), Cond.fieldLink RX0 14 "TreadleLoom$Cloth" "ends" "LTreadleLoom$Row;", Cond.fieldLink RX0 20 "TreadleLoom$Cloth" "picks" "LTreadleLoom$Row;", Cond.methodLink RX0 52 yX3_countRuns, Cond.instanceMethod yX3_countRuns, Cond.selects RX3 yX3_countRuns yX3_countRuns, Cond.initialized RX3, Cond.code yX3_countRuns cX3_countRuns 4 (some .int), Cond.fieldLink RX3 19 "TreadleLoom$Row" "size" "I", Cond.methodLink RX3 23 yX3_at, Cond.instanceMethod yX3_at, Cond.selects RX3 yX3_at yX3_at, Cond.code yX3_at cX3_at 2 (some .int), Cond.fieldLink RX3 13 "TreadleLoom$Row" "cells" "[I", Cond.static yX4_runStarts, Cond.initialized RX4, Cond.code yX4_runStarts cX4_runStarts 4 (some .int), Cond.methodLink RX3 52 yJ6_bitCount_0f7a4, Cond.static yJ6_bitCount_0f7a4]
def wsX4_meanFloat_r2 : List Cond := [Cond.initialized RJ6, Cond.code yJ6_bitCount_0f7a4 cJ6_bitCount_0f7a4 1 (some .int), Cond.constant RJ6 265 (1431655765), Cond.constant RJ6 266 (858993459), Cond.constant RJ6 267 (252645135)]
def wsX4_meanFloat : List Cond := .code yX4_meanFloat cX4_meanFloat 2 (some .double) :: ((wsX4_meanFloat_r1 ++ wsX4_meanFloat_r2) ++ wsX40 ++ wsX00 ++ wsX30)
def wsX4_weaveTrial_r1 : List Cond := [Cond.fieldLink RX4 49 "TreadleLoom" "trial" "LTreadleLoom$Cloth;", Cond.fieldLink RX4 11 "TreadleLoom" "programs" "[LTreadleLoom$Program;", Cond.fieldLink RX4 46 "TreadleLoom" "trialTies" "LTreadleLoom$Row;", Cond.methodLink RX4 157 yX0_weave, Cond.instanceMethod yX0_weave, Cond.selects RX0 yX0_weave yX0_weave, Cond.initialized RX0, Cond.code yX0_weave cX0_weave 8 none, Cond.fieldLink RX0 14 "TreadleLoom$Cloth" "ends" "LTreadleLoom$Row;", Cond.fieldLink RX0 20 "TreadleLoom$Cloth" "picks" "LTreadleLoom$Row;", Cond.methodLink RX0 23 yX3_clear, Cond.instanceMethod yX3_clear, Cond.selects RX3 yX3_clear yX3_clear, Cond.initialized RX3, Cond.code yX3_clear cX3_clear 1 none, Cond.fieldLink RX3 19 "TreadleLoom$Row" "size" "I", Cond.methodLink RX0 30 yX3_add, Cond.instanceMethod yX3_add, Cond.selects RX3 yX3_add yX3_add, Cond.code yX3_add cX3_add 2 none, Cond.fieldLink RX3 13 "TreadleLoom$Row" "cells" "[I", Cond.methodLink RX0 33 yX3_at, Cond.instanceMethod yX3_at, Cond.selects RX3 yX3_at yX3_at]
def wsX4_weaveTrial_r2 : List Cond := [Cond.code yX3_at cX3_at 2 (some .int), Cond.static yX4_hasBit, Cond.initialized RX4, Cond.code yX4_hasBit cX4_hasBit 2 (some .boolean), Cond.methodLink RX0 41 yX3_put, Cond.instanceMethod yX3_put, Cond.selects RX3 yX3_put yX3_put, Cond.code yX3_put cX3_put 3 none]
def wsX4_weaveTrial : List Cond := .code yX4_weaveTrial cX4_weaveTrial 1 none :: ((wsX4_weaveTrial_r1 ++ wsX4_weaveTrial_r2) ++ wsX40 ++ wsX20 ++ wsX00 ++ wsX30)
def wsX4_weaveTrialWith_r1 : List Cond := [Cond.fieldLink RX4 46 "TreadleLoom" "trialTies" "LTreadleLoom$Row;", Cond.fieldLink RX4 28 "TreadleLoom" "ties" "LTreadleLoom$Row;", Cond.methodLink RX4 124 yX4_checkTreadle, Cond.static yX4_checkTreadle, Cond.initialized RX4, Cond.code yX4_checkTreadle cX4_checkTreadle 1 none, Cond.classLink RX4 91 "java/lang/IndexOutOfBoundsException", Cond.initialized "java/lang/IndexOutOfBoundsException", Cond.methodLink RX4 143 yX4_checkShaft, Cond.static yX4_checkShaft, Cond.code yX4_checkShaft cX4_checkShaft 1 none, Cond.methodLink RX4 153 yX3_copyFrom, Cond.instanceMethod yX3_copyFrom, Cond.selects RX3 yX3_copyFrom yX3_copyFrom, Cond.initialized RX3, Cond.code yX3_copyFrom cX3_copyFrom 2 none, Cond.methodLink RX3 30 yX3_clear, Cond.instanceMethod yX3_clear, Cond.selects RX3 yX3_clear yX3_clear, Cond.code yX3_clear cX3_clear 1 none, Cond.fieldLink RX3 19 "TreadleLoom$Row" "size" "I", Cond.methodLink RX3 33 yX3_addAll, Cond.instanceMethod yX3_addAll, Cond.selects RX3 yX3_addAll yX3_addAll]
def wsX4_weaveTrialWith_r2 : List Cond := [Cond.code yX3_addAll cX3_addAll 3 none, Cond.methodLink RX3 23 yX3_at, Cond.instanceMethod yX3_at, Cond.selects RX3 yX3_at yX3_at, Cond.code yX3_at cX3_at 2 (some .int), Cond.fieldLink RX3 13 "TreadleLoom$Row" "cells" "[I", Cond.methodLink RX3 37 yX3_add, Cond.instanceMethod yX3_add, Cond.selects RX3 yX3_add yX3_add, Cond.code yX3_add cX3_add 2 none, Cond.methodLink RX4 96 yX3_at, Cond.methodLink RX4 129 yX3_put, Cond.instanceMethod yX3_put, Cond.selects RX3 yX3_put yX3_put, Cond.code yX3_put cX3_put 3 none, Cond.methodLink RX4 247 yX4_weaveTrial, Cond.instanceMethod yX4_weaveTrial, Cond.selects RX4 yX4_weaveTrial yX4_weaveTrial, Cond.code yX4_weaveTrial cX4_weaveTrial 1 none, Cond.fieldLink RX4 49 "TreadleLoom" "trial" "LTreadleLoom$Cloth;", Cond.fieldLink RX4 11 "TreadleLoom" "programs" "[LTreadleLoom$Program;", Cond.methodLink RX4 157 yX0_weave, Cond.instanceMethod yX0_weave, Cond.selects RX0 yX0_weave yX0_weave]
def wsX4_weaveTrialWith_r3 : List Cond := [Cond.initialized RX0, Cond.code yX0_weave cX0_weave 8 none, Cond.fieldLink RX0 14 "TreadleLoom$Cloth" "ends" "LTreadleLoom$Row;", Cond.fieldLink RX0 20 "TreadleLoom$Cloth" "picks" "LTreadleLoom$Row;", Cond.methodLink RX0 23 yX3_clear, Cond.methodLink RX0 30 yX3_add, Cond.methodLink RX0 33 yX3_at, Cond.static yX4_hasBit, Cond.code yX4_hasBit cX4_hasBit 2 (some .boolean), Cond.methodLink RX0 41 yX3_put]
def wsX4_weaveTrialWith : List Cond := .code yX4_weaveTrialWith cX4_weaveTrialWith 3 none :: ((wsX4_weaveTrialWith_r1 ++ (wsX4_weaveTrialWith_r2 ++ wsX4_weaveTrialWith_r3)) ++ wsX40 ++ wsX30 ++ wsX20 ++ wsX00 ++ (vx_atS RX4 95 "java/lang/IndexOutOfBoundsException" ["java/lang/RuntimeException", "java/lang/Exception"]).filter goodWord)
def wsX4_floatWith_r1 : List Cond := [Cond.fieldLink RX4 49 "TreadleLoom" "trial" "LTreadleLoom$Cloth;", Cond.methodLink RX4 244 yX4_weaveTrialWith, Cond.instanceMethod yX4_weaveTrialWith, Cond.selects RX4 yX4_weaveTrialWith yX4_weaveTrialWith, Cond.initialized RX4, Cond.code yX4_weaveTrialWith cX4_weaveTrialWith 3 none, Cond.fieldLink RX4 46 "TreadleLoom" "trialTies" "LTreadleLoom$Row;", Cond.fieldLink RX4 28 "TreadleLoom" "ties" "LTreadleLoom$Row;", Cond.methodLink RX4 124 yX4_checkTreadle, Cond.static yX4_checkTreadle, Cond.code yX4_checkTreadle cX4_checkTreadle 1 none, Cond.classLink RX4 91 "java/lang/IndexOutOfBoundsException", Cond.initialized "java/lang/IndexOutOfBoundsException", Cond.methodLink RX4 143 yX4_checkShaft, Cond.static yX4_checkShaft, Cond.code yX4_checkShaft cX4_checkShaft 1 none, Cond.methodLink RX4 153 yX3_copyFrom, Cond.instanceMethod yX3_copyFrom, Cond.selects RX3 yX3_copyFrom yX3_copyFrom, Cond.initialized RX3, Cond.code yX3_copyFrom cX3_copyFrom 2 none, Cond.methodLink RX3 30 yX3_clear, Cond.instanceMethod yX3_clear, Cond.selects RX3 yX3_clear yX3_clear]
def wsX4_floatWith_r2 : List Cond := [Cond.code yX3_clear cX3_clear 1 none, Cond.fieldLink RX3 19 "TreadleLoom$Row" "size" "I", Cond.methodLink RX3 33 yX3_addAll, Cond.instanceMethod yX3_addAll, Cond.selects RX3 yX3_addAll yX3_addAll, Cond.code yX3_addAll cX3_addAll 3 none, Cond.methodLink RX3 23 yX3_at, Cond.instanceMethod yX3_at, Cond.selects RX3 yX3_at yX3_at, Cond.code yX3_at cX3_at 2 (some .int), Cond.fieldLink RX3 13 "TreadleLoom$Row" "cells" "[I", Cond.methodLink RX3 37 yX3_add, Cond.instanceMethod yX3_add, Cond.selects RX3 yX3_add yX3_add, Cond.code yX3_add cX3_add 2 none, Cond.methodLink RX4 96 yX3_at, Cond.methodLink RX4 129 yX3_put, Cond.instanceMethod yX3_put, Cond.selects RX3 yX3_put yX3_put, Cond.code yX3_put cX3_put 3 none, Cond.methodLink RX4 247 yX4_weaveTrial, Cond.instanceMethod yX4_weaveTrial, Cond.selects RX4 yX4_weaveTrial yX4_weaveTrial, Cond.code yX4_weaveTrial cX4_weaveTrial 1 none]
def wsX4_floatWith_r3 : List Cond := [Cond.fieldLink RX4 11 "TreadleLoom" "programs" "[LTreadleLoom$Program;", Cond.methodLink RX4 157 yX0_weave, Cond.instanceMethod yX0_weave, Cond.selects RX0 yX0_weave yX0_weave, Cond.initialized RX0, Cond.code yX0_weave cX0_weave 8 none, Cond.fieldLink RX0 14 "TreadleLoom$Cloth" "ends" "LTreadleLoom$Row;", Cond.fieldLink RX0 20 "TreadleLoom$Cloth" "picks" "LTreadleLoom$Row;", Cond.methodLink RX0 23 yX3_clear, Cond.methodLink RX0 30 yX3_add, Cond.methodLink RX0 33 yX3_at, Cond.static yX4_hasBit, Cond.code yX4_hasBit cX4_hasBit 2 (some .boolean), Cond.methodLink RX0 41 yX3_put, Cond.methodLink RX4 169 yX0_longestFloat, Cond.instanceMethod yX0_longestFloat, Cond.selects RX0 yX0_longestFloat yX0_longestFloat, Cond.code yX0_longestFloat cX0_longestFloat 1 (some .int), Cond.methodLink RX0 59 Lib.Math.max.name, Cond.static Lib.Math.max.name, Cond.initialized "java/lang/Math", Cond.code Lib.Math.max.name Lib.Math.max.code 2 (some .int), Cond.methodLink RX0 55 yX3_longestOfRuns, Cond.instanceMethod yX3_longestOfRuns]
def wsX4_floatWith_r4 : List Cond := [Cond.selects RX3 yX3_longestOfRuns yX3_longestOfRuns, Cond.code yX3_longestOfRuns cX3_longestOfRuns 3 (some .int), Cond.methodLink RX3 7 Lib.Math.max.name, Cond.static yX4_longestRun, Cond.code yX4_longestRun cX4_longestRun 3 (some .int)]
def wsX4_floatWith : List Cond := .code yX4_floatWith cX4_floatWith 3 (some .int) :: ((wsX4_floatWith_r1 ++ (wsX4_floatWith_r2 ++ (wsX4_floatWith_r3 ++ wsX4_floatWith_r4))) ++ wsX40 ++ wsX30 ++ wsX20 ++ wsX00 ++ (vx_atS RX4 95 "java/lang/IndexOutOfBoundsException" ["java/lang/RuntimeException", "java/lang/Exception"]).filter goodWord)
def wsX4_hangsWith_r1 : List Cond := [Cond.fieldLink RX4 49 "TreadleLoom" "trial" "LTreadleLoom$Cloth;", Cond.methodLink RX4 244 yX4_weaveTrialWith, Cond.instanceMethod yX4_weaveTrialWith, Cond.selects RX4 yX4_weaveTrialWith yX4_weaveTrialWith, Cond.initialized RX4, Cond.code yX4_weaveTrialWith cX4_weaveTrialWith 3 none, Cond.fieldLink RX4 46 "TreadleLoom" "trialTies" "LTreadleLoom$Row;", Cond.fieldLink RX4 28 "TreadleLoom" "ties" "LTreadleLoom$Row;", Cond.methodLink RX4 124 yX4_checkTreadle, Cond.static yX4_checkTreadle, Cond.code yX4_checkTreadle cX4_checkTreadle 1 none, Cond.classLink RX4 91 "java/lang/IndexOutOfBoundsException", Cond.initialized "java/lang/IndexOutOfBoundsException", Cond.methodLink RX4 143 yX4_checkShaft, Cond.static yX4_checkShaft, Cond.code yX4_checkShaft cX4_checkShaft 1 none, Cond.methodLink RX4 153 yX3_copyFrom, Cond.instanceMethod yX3_copyFrom, Cond.selects RX3 yX3_copyFrom yX3_copyFrom, Cond.initialized RX3, Cond.code yX3_copyFrom cX3_copyFrom 2 none, Cond.methodLink RX3 30 yX3_clear, Cond.instanceMethod yX3_clear, Cond.selects RX3 yX3_clear yX3_clear]
def wsX4_hangsWith_r2 : List Cond := [Cond.code yX3_clear cX3_clear 1 none, Cond.fieldLink RX3 19 "TreadleLoom$Row" "size" "I", Cond.methodLink RX3 33 yX3_addAll, Cond.instanceMethod yX3_addAll, Cond.selects RX3 yX3_addAll yX3_addAll, Cond.code yX3_addAll cX3_addAll 3 none, Cond.methodLink RX3 23 yX3_at, Cond.instanceMethod yX3_at, Cond.selects RX3 yX3_at yX3_at, Cond.code yX3_at cX3_at 2 (some .int), Cond.fieldLink RX3 13 "TreadleLoom$Row" "cells" "[I", Cond.methodLink RX3 37 yX3_add, Cond.instanceMethod yX3_add, Cond.selects RX3 yX3_add yX3_add, Cond.code yX3_add cX3_add 2 none, Cond.methodLink RX4 96 yX3_at, Cond.methodLink RX4 129 yX3_put, Cond.instanceMethod yX3_put, Cond.selects RX3 yX3_put yX3_put, Cond.code yX3_put cX3_put 3 none, Cond.methodLink RX4 247 yX4_weaveTrial, Cond.instanceMethod yX4_weaveTrial, Cond.selects RX4 yX4_weaveTrial yX4_weaveTrial, Cond.code yX4_weaveTrial cX4_weaveTrial 1 none]
def wsX4_hangsWith_r3 : List Cond := [Cond.fieldLink RX4 11 "TreadleLoom" "programs" "[LTreadleLoom$Program;", Cond.methodLink RX4 157 yX0_weave, Cond.instanceMethod yX0_weave, Cond.selects RX0 yX0_weave yX0_weave, Cond.initialized RX0, Cond.code yX0_weave cX0_weave 8 none, Cond.fieldLink RX0 14 "TreadleLoom$Cloth" "ends" "LTreadleLoom$Row;", Cond.fieldLink RX0 20 "TreadleLoom$Cloth" "picks" "LTreadleLoom$Row;", Cond.methodLink RX0 23 yX3_clear, Cond.methodLink RX0 30 yX3_add, Cond.methodLink RX0 33 yX3_at, Cond.static yX4_hasBit, Cond.code yX4_hasBit cX4_hasBit 2 (some .boolean), Cond.methodLink RX0 41 yX3_put, Cond.methodLink RX4 225 yX0_isConnected, Cond.instanceMethod yX0_isConnected, Cond.selects RX0 yX0_isConnected yX0_isConnected, Cond.code yX0_isConnected cX0_isConnected 1 (some .boolean), Cond.methodLink RX0 64 yX0_hasFields, Cond.instanceMethod yX0_hasFields, Cond.selects RX0 yX0_hasFields yX0_hasFields, Cond.code yX0_hasFields cX0_hasFields 1 (some .boolean), Cond.methodLink RX0 68 yX0_isAllReached, Cond.instanceMethod yX0_isAllReached]
def wsX4_hangsWith_r4 : List Cond := [Cond.selects RX0 yX0_isAllReached yX0_isAllReached, Cond.code yX0_isAllReached cX0_isAllReached 2 (some .boolean), Cond.methodLink RX0 72 yX0_endsReached, Cond.instanceMethod yX0_endsReached, Cond.selects RX0 yX0_endsReached yX0_endsReached, Cond.code yX0_endsReached cX0_endsReached 6 (some .int), Cond.methodLink RX0 82 yX0_nextTo, Cond.static yX0_nextTo, Cond.code yX0_nextTo cX0_nextTo 6 (some .int), Cond.static yX4_fullSet, Cond.code yX4_fullSet cX4_fullSet 1 (some .int), Cond.methodLink RX0 79 yX0_picksReached, Cond.instanceMethod yX0_picksReached, Cond.selects RX0 yX0_picksReached yX0_picksReached, Cond.code yX0_picksReached cX0_picksReached 2 (some .int)]
def wsX4_hangsWith : List Cond := .code yX4_hangsWith cX4_hangsWith 3 (some .boolean) :: ((wsX4_hangsWith_r1 ++ (wsX4_hangsWith_r2 ++ (wsX4_hangsWith_r3 ++ wsX4_hangsWith_r4))) ++ wsX40 ++ wsX30 ++ wsX20 ++ wsX00 ++ (vx_atS RX4 95 "java/lang/IndexOutOfBoundsException" ["java/lang/RuntimeException", "java/lang/Exception"]).filter goodWord)
def wsX4_lengthWith_r1 : List Cond := [Cond.fieldLink RX4 42 "TreadleLoom" "draft" "LTreadleLoom$Program;", Cond.fieldLink RX4 19 "TreadleLoom" "compiler" "LTreadleLoom$Compiler;", Cond.fieldLink RX4 11 "TreadleLoom" "programs" "[LTreadleLoom$Program;", Cond.methodLink RX4 52 yX4_programForToken, Cond.instanceMethod yX4_programForToken, Cond.selects RX4 yX4_programForToken yX4_programForToken, Cond.initialized RX4, Cond.code yX4_programForToken cX4_programForToken 4 (some (.object "TreadleLoom$Program")), Cond.classLink RX4 70 "java/lang/IllegalArgumentException", Cond.initialized "java/lang/IllegalArgumentException", Cond.classLink RX4 112 "java/lang/IllegalStateException", Cond.initialized "java/lang/IllegalStateException", Cond.methodLink RX4 66 yX4_programAt, Cond.instanceMethod yX4_programAt, Cond.selects RX4 yX4_programAt yX4_programAt, Cond.code yX4_programAt cX4_programAt 2 (some (.object "TreadleLoom$Program")), Cond.classLink RX4 91 "java/lang/IndexOutOfBoundsException", Cond.initialized "java/lang/IndexOutOfBoundsException", Cond.methodLink RX4 106 yX4_isToken, Cond.static yX4_isToken, Cond.code yX4_isToken cX4_isToken 1 (some .boolean), Cond.methodLink RX4 153 yX3_copyFrom, Cond.instanceMethod yX3_copyFrom, Cond.selects RX3 yX3_copyFrom yX3_copyFrom]
def wsX4_lengthWith_r2 : List Cond := [Cond.initialized RX3, Cond.code yX3_copyFrom cX3_copyFrom 2 none, Cond.methodLink RX3 30 yX3_clear, Cond.instanceMethod yX3_clear, Cond.selects RX3 yX3_clear yX3_clear, Cond.code yX3_clear cX3_clear 1 none, Cond.fieldLink RX3 19 "TreadleLoom$Row" "size" "I", Cond.methodLink RX3 33 yX3_addAll, Cond.instanceMethod yX3_addAll, Cond.selects RX3 yX3_addAll yX3_addAll, Cond.code yX3_addAll cX3_addAll 3 none, Cond.methodLink RX3 23 yX3_at, Cond.instanceMethod yX3_at, Cond.selects RX3 yX3_at yX3_at, Cond.code yX3_at cX3_at 2 (some .int), Cond.fieldLink RX3 13 "TreadleLoom$Row" "cells" "[I", Cond.methodLink RX3 37 yX3_add, Cond.instanceMethod yX3_add, Cond.selects RX3 yX3_add yX3_add, Cond.code yX3_add cX3_add 2 none, Cond.methodLink RX4 32 yX3_add, Cond.methodLink RX4 117 yX1_compile, Cond.instanceMethod yX1_compile, Cond.selects RX1 yX1_compile yX1_compile]
def wsX4_lengthWith_r3 : List Cond := [Cond.initialized RX1, Cond.code yX1_compile cX1_compile 6 none, Cond.fieldLink RX1 16 "TreadleLoom$Compiler" "numbers" "LTreadleLoom$Row;", Cond.fieldLink RX1 20 "TreadleLoom$Compiler" "outerStarts" "LTreadleLoom$Row;", Cond.fieldLink RX1 26 "TreadleLoom$Compiler" "groupStart" "I", Cond.fieldLink RX1 30 "TreadleLoom$Compiler" "itemStart" "I", Cond.methodLink RX1 23 yX3_clear, Cond.methodLink RX1 41 yX3_at, Cond.methodLink RX1 45 yX1_read, Cond.instanceMethod yX1_read, Cond.selects RX1 yX1_read yX1_read, Cond.code yX1_read cX1_read 4 (some .int), Cond.methodLink RX1 57 yX1_addNumber, Cond.instanceMethod yX1_addNumber, Cond.selects RX1 yX1_addNumber yX1_addNumber, Cond.code yX1_addNumber cX1_addNumber 2 (some .int), Cond.methodLink RX1 82 yX1_hasRoom, Cond.instanceMethod yX1_hasRoom, Cond.selects RX1 yX1_hasRoom yX1_hasRoom, Cond.code yX1_hasRoom cX1_hasRoom 2 (some .boolean), Cond.methodLink RX1 86 yX1_beginItem, Cond.instanceMethod yX1_beginItem, Cond.selects RX1 yX1_beginItem yX1_beginItem, Cond.code yX1_beginItem cX1_beginItem 1 none]
def wsX4_lengthWith_r4 : List Cond := [Cond.methodLink RX1 73 yX3_add, Cond.methodLink RX1 60 yX1_openGroup, Cond.instanceMethod yX1_openGroup, Cond.selects RX1 yX1_openGroup yX1_openGroup, Cond.code yX1_openGroup cX1_openGroup 1 none, Cond.methodLink RX1 63 yX1_closeGroup, Cond.instanceMethod yX1_closeGroup, Cond.selects RX1 yX1_closeGroup yX1_closeGroup, Cond.code yX1_closeGroup cX1_closeGroup 1 (some .int), Cond.methodLink RX1 76 yX3_last, Cond.instanceMethod yX3_last, Cond.selects RX3 yX3_last yX3_last, Cond.code yX3_last cX3_last 1 (some .int), Cond.methodLink RX1 79 yX3_cutTo, Cond.instanceMethod yX3_cutTo, Cond.selects RX3 yX3_cutTo yX3_cutTo, Cond.code yX3_cutTo cX3_cutTo 2 none, Cond.methodLink RX3 27 Lib.Math.min.name, Cond.static Lib.Math.min.name, Cond.initialized "java/lang/Math", Cond.code Lib.Math.min.name Lib.Math.min.code 2 (some .int), Cond.methodLink RX3 7 Lib.Math.max.name, Cond.static Lib.Math.max.name, Cond.code Lib.Math.max.name Lib.Math.max.code 2 (some .int)]
def wsX4_lengthWith_r5 : List Cond := [Cond.methodLink RX1 67 yX1_addBlock, Cond.instanceMethod yX1_addBlock, Cond.selects RX1 yX1_addBlock yX1_addBlock, Cond.code yX1_addBlock cX1_addBlock 6 (some .int), Cond.methodLink RX1 93 yX3_addAll, Cond.methodLink RX1 70 yX1_changeItem, Cond.instanceMethod yX1_changeItem, Cond.selects RX1 yX1_changeItem yX1_changeItem, Cond.code yX1_changeItem cX1_changeItem 2 (some .int), Cond.methodLink RX1 96 yX3_turnFrom, Cond.instanceMethod yX3_turnFrom, Cond.selects RX3 yX3_turnFrom yX3_turnFrom, Cond.code yX3_turnFrom cX3_turnFrom 5 none, Cond.methodLink RX3 41 yX3_put, Cond.instanceMethod yX3_put, Cond.selects RX3 yX3_put yX3_put, Cond.code yX3_put cX3_put 3 none, Cond.methodLink RX1 99 yX1_addMirror, Cond.instanceMethod yX1_addMirror, Cond.selects RX1 yX1_addMirror yX1_addMirror, Cond.code yX1_addMirror cX1_addMirror 3 (some .int), Cond.methodLink RX1 108 Lib.Math.max.name, Cond.methodLink RX1 102 yX1_raiseItem, Cond.instanceMethod yX1_raiseItem]
def wsX4_lengthWith_r6 : List Cond := [Cond.selects RX1 yX1_raiseItem yX1_raiseItem, Cond.code yX1_raiseItem cX1_raiseItem 3 none, Cond.methodLink RX1 114 yX3_put, Cond.methodLink RX1 105 yX1_repeatItem, Cond.instanceMethod yX1_repeatItem, Cond.selects RX1 yX1_repeatItem yX1_repeatItem, Cond.code yX1_repeatItem cX1_repeatItem 4 (some .int), Cond.methodLink RX1 49 yX2_refuse, Cond.instanceMethod yX2_refuse, Cond.selects RX2 yX2_refuse yX2_refuse, Cond.initialized RX2, Cond.code yX2_refuse cX2_refuse 3 none, Cond.fieldLink RX2 20 "TreadleLoom$Program" "numbers" "LTreadleLoom$Row;", Cond.fieldLink RX2 23 "TreadleLoom$Program" "fault" "I", Cond.fieldLink RX2 27 "TreadleLoom$Program" "faultPlace" "I", Cond.methodLink RX2 34 yX3_clear, Cond.methodLink RX1 53 yX2_accept, Cond.instanceMethod yX2_accept, Cond.selects RX2 yX2_accept yX2_accept, Cond.code yX2_accept cX2_accept 2 none, Cond.methodLink RX2 30 yX3_copyFrom]
def wsX4_lengthWith : List Cond := .code yX4_lengthWith cX4_lengthWith 4 (some .int) :: ((wsX4_lengthWith_r1 ++ (wsX4_lengthWith_r2 ++ (wsX4_lengthWith_r3 ++ (wsX4_lengthWith_r4 ++ (wsX4_lengthWith_r5 ++ wsX4_lengthWith_r6))))) ++ wsX40 ++ wsX20 ++ wsX30 ++ wsX10 ++ (vx_atS RX4 74 "java/lang/IllegalArgumentException" ["java/lang/RuntimeException", "java/lang/Exception"]).filter goodWord ++ (vx_atS RX4 116 "java/lang/IllegalStateException" ["java/lang/RuntimeException", "java/lang/Exception"]).filter goodWord ++ (vx_atS RX4 95 "java/lang/IndexOutOfBoundsException" ["java/lang/RuntimeException", "java/lang/Exception"]).filter goodWord)
def wsX4_changedBy_r1 : List Cond := [Cond.fieldLink RX4 38 "TreadleLoom" "woven" "LTreadleLoom$Cloth;", Cond.fieldLink RX4 49 "TreadleLoom" "trial" "LTreadleLoom$Cloth;", Cond.methodLink RX4 143 yX4_checkShaft, Cond.static yX4_checkShaft, Cond.initialized RX4, Cond.code yX4_checkShaft cX4_checkShaft 1 none, Cond.classLink RX4 91 "java/lang/IndexOutOfBoundsException", Cond.initialized "java/lang/IndexOutOfBoundsException", Cond.methodLink RX4 146 yX4_swapInTrialTies, Cond.instanceMethod yX4_swapInTrialTies, Cond.selects RX4 yX4_swapInTrialTies yX4_swapInTrialTies, Cond.code yX4_swapInTrialTies cX4_swapInTrialTies 6 none, Cond.fieldLink RX4 46 "TreadleLoom" "trialTies" "LTreadleLoom$Row;", Cond.fieldLink RX4 28 "TreadleLoom" "ties" "LTreadleLoom$Row;", Cond.methodLink RX4 137 yX3_clear, Cond.instanceMethod yX3_clear, Cond.selects RX3 yX3_clear yX3_clear, Cond.initialized RX3, Cond.code yX3_clear cX3_clear 1 none, Cond.fieldLink RX3 19 "TreadleLoom$Row" "size" "I", Cond.methodLink RX4 96 yX3_at, Cond.instanceMethod yX3_at, Cond.selects RX3 yX3_at yX3_at, Cond.code yX3_at cX3_at 2 (some .int)]
def wsX4_changedBy_r2 : List Cond := [Cond.fieldLink RX3 13 "TreadleLoom$Row" "cells" "[I", Cond.methodLink RX4 32 yX3_add, Cond.instanceMethod yX3_add, Cond.selects RX3 yX3_add yX3_add, Cond.code yX3_add cX3_add 2 none, Cond.methodLink RX4 247 yX4_weaveTrial, Cond.instanceMethod yX4_weaveTrial, Cond.selects RX4 yX4_weaveTrial yX4_weaveTrial, Cond.code yX4_weaveTrial cX4_weaveTrial 1 none, Cond.fieldLink RX4 11 "TreadleLoom" "programs" "[LTreadleLoom$Program;", Cond.methodLink RX4 157 yX0_weave, Cond.instanceMethod yX0_weave, Cond.selects RX0 yX0_weave yX0_weave, Cond.initialized RX0, Cond.code yX0_weave cX0_weave 8 none, Cond.fieldLink RX0 14 "TreadleLoom$Cloth" "ends" "LTreadleLoom$Row;", Cond.fieldLink RX0 20 "TreadleLoom$Cloth" "picks" "LTreadleLoom$Row;", Cond.methodLink RX0 23 yX3_clear, Cond.methodLink RX0 30 yX3_add, Cond.methodLink RX0 33 yX3_at, Cond.static yX4_hasBit, Cond.code yX4_hasBit cX4_hasBit 2 (some .boolean), Cond.methodLink RX0 41 yX3_put, Cond.instanceMethod yX3_put]
def wsX4_changedBy_r3 : List Cond := [Cond.selects RX3 yX3_put yX3_put, Cond.code yX3_put cX3_put 3 none, Cond.methodLink RX4 214 yJ6_bitCount_0f7a4, Cond.static yJ6_bitCount_0f7a4, Cond.initialized RJ6, Cond.code yJ6_bitCount_0f7a4 cJ6_bitCount_0f7a4 1 (some .int), Cond.constant RJ6 265 (1431655765), Cond.constant RJ6 266 (858993459), Cond.constant RJ6 267 (252645135)]
def wsX4_changedBy : List Cond := .code yX4_changedBy cX4_changedBy 5 (some .int) :: ((wsX4_changedBy_r1 ++ (wsX4_changedBy_r2 ++ wsX4_changedBy_r3)) ++ wsX40 ++ wsX00 ++ wsX30 ++ wsX20 ++ (vx_atS RX4 95 "java/lang/IndexOutOfBoundsException" ["java/lang/RuntimeException", "java/lang/Exception"]).filter goodWord)
def wsX4_mixed : List Cond := .code yX4_mixed cX4_mixed 3 (some .long) :: ([.constantLong RX4 289 (31)])
def wsX4_digestOfProgram_r1 : List Cond := [Cond.methodLink RX4 280 yX4_ofProgram, Cond.instanceMethod yX4_ofProgram, Cond.selects RX4 yX4_ofProgram yX4_ofProgram, Cond.initialized RX4, Cond.code yX4_ofProgram cX4_ofProgram 4 (some .int), Cond.classLink RX4 70 "java/lang/IllegalArgumentException", Cond.initialized "java/lang/IllegalArgumentException", Cond.methodLink RX4 66 yX4_programAt, Cond.instanceMethod yX4_programAt, Cond.selects RX4 yX4_programAt yX4_programAt, Cond.code yX4_programAt cX4_programAt 2 (some (.object "TreadleLoom$Program")), Cond.classLink RX4 91 "java/lang/IndexOutOfBoundsException", Cond.initialized "java/lang/IndexOutOfBoundsException", Cond.fieldLink RX4 11 "TreadleLoom" "programs" "[LTreadleLoom$Program;", Cond.methodLink RX4 259 yX4_mixed, Cond.static yX4_mixed, Cond.code yX4_mixed cX4_mixed 3 (some .long), Cond.constantLong RX4 289 (31), Cond.methodLink RX4 283 yX4_period, Cond.instanceMethod yX4_period, Cond.selects RX4 yX4_period yX4_period, Cond.code yX4_period cX4_period 2 (some .int), Cond.methodLink RX4 100 yX3_leastPeriod, Cond.instanceMethod yX3_leastPeriod]
def wsX4_digestOfProgram_r2 : List Cond := [Cond.selects RX3 yX3_leastPeriod yX3_leastPeriod, Cond.initialized RX3, Cond.code yX3_leastPeriod cX3_leastPeriod 2 (some .int), Cond.fieldLink RX3 19 "TreadleLoom$Row" "size" "I", Cond.methodLink RX3 45 yX3_hasPeriod, Cond.instanceMethod yX3_hasPeriod, Cond.selects RX3 yX3_hasPeriod yX3_hasPeriod, Cond.code yX3_hasPeriod cX3_hasPeriod 3 (some .boolean), Cond.methodLink RX3 23 yX3_at, Cond.instanceMethod yX3_at, Cond.selects RX3 yX3_at yX3_at, Cond.code yX3_at cX3_at 2 (some .int), Cond.fieldLink RX3 13 "TreadleLoom$Row" "cells" "[I", Cond.methodLink RX4 286 yX4_number, Cond.instanceMethod yX4_number, Cond.selects RX4 yX4_number yX4_number, Cond.code yX4_number cX4_number 4 (some .int), Cond.methodLink RX4 96 yX3_at]
def wsX4_digestOfProgram : List Cond := .code yX4_digestOfProgram cX4_digestOfProgram 8 (some .long) :: ((wsX4_digestOfProgram_r1 ++ wsX4_digestOfProgram_r2) ++ wsX20 ++ wsX30 ++ wsX40 ++ (vx_atS RX4 74 "java/lang/IllegalArgumentException" ["java/lang/RuntimeException", "java/lang/Exception"]).filter goodWord ++ (vx_atS RX4 95 "java/lang/IndexOutOfBoundsException" ["java/lang/RuntimeException", "java/lang/Exception"]).filter goodWord)
def wsX4_digest_r1 : List Cond := [Cond.constantLong RX4 250 (58095), Cond.methodLink RX4 252 yX4_digestOfProgram, Cond.instanceMethod yX4_digestOfProgram, Cond.selects RX4 yX4_digestOfProgram yX4_digestOfProgram, Cond.initialized RX4, Cond.code yX4_digestOfProgram cX4_digestOfProgram 8 (some .long), Cond.methodLink RX4 280 yX4_ofProgram, Cond.instanceMethod yX4_ofProgram, Cond.selects RX4 yX4_ofProgram yX4_ofProgram, Cond.code yX4_ofProgram cX4_ofProgram 4 (some .int), Cond.classLink RX4 70 "java/lang/IllegalArgumentException", Cond.initialized "java/lang/IllegalArgumentException", Cond.methodLink RX4 66 yX4_programAt, Cond.instanceMethod yX4_programAt, Cond.selects RX4 yX4_programAt yX4_programAt, Cond.code yX4_programAt cX4_programAt 2 (some (.object "TreadleLoom$Program")), Cond.classLink RX4 91 "java/lang/IndexOutOfBoundsException", Cond.initialized "java/lang/IndexOutOfBoundsException", Cond.fieldLink RX4 11 "TreadleLoom" "programs" "[LTreadleLoom$Program;", Cond.methodLink RX4 259 yX4_mixed, Cond.static yX4_mixed, Cond.code yX4_mixed cX4_mixed 3 (some .long), Cond.constantLong RX4 289 (31), Cond.methodLink RX4 283 yX4_period]
def wsX4_digest_r2 : List Cond := [Cond.instanceMethod yX4_period, Cond.selects RX4 yX4_period yX4_period, Cond.code yX4_period cX4_period 2 (some .int), Cond.methodLink RX4 100 yX3_leastPeriod, Cond.instanceMethod yX3_leastPeriod, Cond.selects RX3 yX3_leastPeriod yX3_leastPeriod, Cond.initialized RX3, Cond.code yX3_leastPeriod cX3_leastPeriod 2 (some .int), Cond.fieldLink RX3 19 "TreadleLoom$Row" "size" "I", Cond.methodLink RX3 45 yX3_hasPeriod, Cond.instanceMethod yX3_hasPeriod, Cond.selects RX3 yX3_hasPeriod yX3_hasPeriod, Cond.code yX3_hasPeriod cX3_hasPeriod 3 (some .boolean), Cond.methodLink RX3 23 yX3_at, Cond.instanceMethod yX3_at, Cond.selects RX3 yX3_at yX3_at, Cond.code yX3_at cX3_at 2 (some .int), Cond.fieldLink RX3 13 "TreadleLoom$Row" "cells" "[I", Cond.methodLink RX4 286 yX4_number, Cond.instanceMethod yX4_number, Cond.selects RX4 yX4_number yX4_number, Cond.code yX4_number cX4_number 4 (some .int), Cond.methodLink RX4 96 yX3_at, Cond.methodLink RX4 256 yX4_tied]
def wsX4_digest_r3 : List Cond := [Cond.instanceMethod yX4_tied, Cond.selects RX4 yX4_tied yX4_tied, Cond.code yX4_tied cX4_tied 2 (some .int), Cond.fieldLink RX4 28 "TreadleLoom" "ties" "LTreadleLoom$Row;", Cond.methodLink RX4 124 yX4_checkTreadle, Cond.static yX4_checkTreadle, Cond.code yX4_checkTreadle cX4_checkTreadle 1 none, Cond.methodLink RX4 262 yX4_cloth, Cond.instanceMethod yX4_cloth, Cond.selects RX4 yX4_cloth yX4_cloth, Cond.code yX4_cloth cX4_cloth 2 (some .int), Cond.fieldLink RX4 38 "TreadleLoom" "woven" "LTreadleLoom$Cloth;", Cond.methodLink RX4 166 yX3_countBits, Cond.instanceMethod yX3_countBits, Cond.selects RX3 yX3_countBits yX3_countBits, Cond.code yX3_countBits cX3_countBits 3 (some .int), Cond.methodLink RX3 52 yJ6_bitCount_0f7a4, Cond.static yJ6_bitCount_0f7a4, Cond.initialized RJ6, Cond.code yJ6_bitCount_0f7a4 cJ6_bitCount_0f7a4 1 (some .int), Cond.constant RJ6 265 (1431655765), Cond.constant RJ6 266 (858993459), Cond.constant RJ6 267 (252645135), Cond.methodLink RX4 169 yX0_longestFloat]
def wsX4_digest_r4 : List Cond := [Cond.instanceMethod yX0_longestFloat, Cond.selects RX0 yX0_longestFloat yX0_longestFloat, Cond.initialized RX0, Cond.code yX0_longestFloat cX0_longestFloat 1 (some .int), Cond.fieldLink RX0 14 "TreadleLoom$Cloth" "ends" "LTreadleLoom$Row;", Cond.fieldLink RX0 20 "TreadleLoom$Cloth" "picks" "LTreadleLoom$Row;", Cond.methodLink RX0 59 Lib.Math.max.name, Cond.static Lib.Math.max.name, Cond.initialized "java/lang/Math", Cond.code Lib.Math.max.name Lib.Math.max.code 2 (some .int), Cond.methodLink RX0 55 yX3_longestOfRuns, Cond.instanceMethod yX3_longestOfRuns, Cond.selects RX3 yX3_longestOfRuns yX3_longestOfRuns, Cond.code yX3_longestOfRuns cX3_longestOfRuns 3 (some .int), Cond.methodLink RX3 7 Lib.Math.max.name, Cond.static yX4_longestRun, Cond.code yX4_longestRun cX4_longestRun 3 (some .int), Cond.methodLink RX4 172 yX3_countRuns, Cond.instanceMethod yX3_countRuns, Cond.selects RX3 yX3_countRuns yX3_countRuns, Cond.code yX3_countRuns cX3_countRuns 4 (some .int), Cond.static yX4_runStarts, Cond.code yX4_runStarts cX4_runStarts 4 (some .int), Cond.methodLink RX4 175 yX3_countDistinct]
def wsX4_digest_r5 : List Cond := [Cond.instanceMethod yX3_countDistinct, Cond.selects RX3 yX3_countDistinct yX3_countDistinct, Cond.code yX3_countDistinct cX3_countDistinct 3 (some .int), Cond.methodLink RX3 49 yX3_firstPlaceOf, Cond.instanceMethod yX3_firstPlaceOf, Cond.selects RX3 yX3_firstPlaceOf yX3_firstPlaceOf, Cond.code yX3_firstPlaceOf cX3_firstPlaceOf 3 (some .int), Cond.methodLink RX4 265 yX4_repeat, Cond.instanceMethod yX4_repeat, Cond.selects RX4 yX4_repeat yX4_repeat, Cond.code yX4_repeat cX4_repeat 2 (some .int), Cond.methodLink RX4 221 yX0_hasFields, Cond.instanceMethod yX0_hasFields, Cond.selects RX0 yX0_hasFields yX0_hasFields, Cond.code yX0_hasFields cX0_hasFields 1 (some .boolean), Cond.methodLink RX4 268 yX4_hangs, Cond.instanceMethod yX4_hangs, Cond.selects RX4 yX4_hangs yX4_hangs, Cond.code yX4_hangs cX4_hangs 1 (some .boolean), Cond.methodLink RX4 225 yX0_isConnected, Cond.instanceMethod yX0_isConnected, Cond.selects RX0 yX0_isConnected yX0_isConnected, Cond.code yX0_isConnected cX0_isConnected 1 (some .boolean), Cond.methodLink RX0 64 yX0_hasFields]
def wsX4_digest_r6 : List Cond := [Cond.methodLink RX0 68 yX0_isAllReached, Cond.instanceMethod yX0_isAllReached, Cond.selects RX0 yX0_isAllReached yX0_isAllReached, Cond.code yX0_isAllReached cX0_isAllReached 2 (some .boolean), Cond.methodLink RX0 72 yX0_endsReached, Cond.instanceMethod yX0_endsReached, Cond.selects RX0 yX0_endsReached yX0_endsReached, Cond.code yX0_endsReached cX0_endsReached 6 (some .int), Cond.methodLink RX0 82 yX0_nextTo, Cond.static yX0_nextTo, Cond.code yX0_nextTo cX0_nextTo 6 (some .int), Cond.static yX4_hasBit, Cond.code yX4_hasBit cX4_hasBit 2 (some .boolean), Cond.methodLink RX0 33 yX3_at, Cond.static yX4_fullSet, Cond.code yX4_fullSet cX4_fullSet 1 (some .int), Cond.methodLink RX0 79 yX0_picksReached, Cond.instanceMethod yX0_picksReached, Cond.selects RX0 yX0_picksReached yX0_picksReached, Cond.code yX0_picksReached cX0_picksReached 2 (some .int), Cond.methodLink RX4 271 yX4_reach, Cond.instanceMethod yX4_reach, Cond.selects RX4 yX4_reach yX4_reach, Cond.code yX4_reach cX4_reach 2 (some .int)]
def wsX4_digest_r7 : List Cond := [Cond.methodLink RX4 228 yX0_endsReached, Cond.methodLink RX4 232 yX0_picksReached, Cond.methodLink RX4 214 yJ6_bitCount_0f7a4, Cond.methodLink RX4 274 yX4_floats, Cond.instanceMethod yX4_floats, Cond.selects RX4 yX4_floats yX4_floats, Cond.code yX4_floats cX4_floats 2 (some .int), Cond.methodLink RX4 199 yX4_checkLength, Cond.static yX4_checkLength, Cond.code yX4_checkLength cX4_checkLength 1 none, Cond.methodLink RX4 202 yX0_countFloats, Cond.instanceMethod yX0_countFloats, Cond.selects RX0 yX0_countFloats yX0_countFloats, Cond.code yX0_countFloats cX0_countFloats 2 (some .int), Cond.methodLink RX0 52 yX3_countRuns, Cond.methodLink RX4 277 yX4_seen, Cond.instanceMethod yX4_seen, Cond.selects RX4 yX4_seen yX4_seen, Cond.code yX4_seen cX4_seen 5 (some .int), Cond.methodLink RX4 190 yX4_colourAt, Cond.instanceMethod yX4_colourAt, Cond.selects RX4 yX4_colourAt yX4_colourAt, Cond.code yX4_colourAt cX4_colourAt 3 (some .int), Cond.methodLink RX4 186 yX0_isUp]
def wsX4_digest_r8 : List Cond := [Cond.instanceMethod yX0_isUp, Cond.selects RX0 yX0_isUp yX0_isUp, Cond.code yX0_isUp cX0_isUp 3 (some .boolean), Cond.methodLink RX4 241 yX3_atRound, Cond.instanceMethod yX3_atRound, Cond.selects RX3 yX3_atRound yX3_atRound, Cond.code yX3_atRound cX3_atRound 2 (some .int)]
def wsX4_digest : List Cond := .code yX4_digest cX4_digest 4 (some .long) :: ((wsX4_digest_r1 ++ (wsX4_digest_r2 ++ (wsX4_digest_r3 ++ (wsX4_digest_r4 ++ (wsX4_digest_r5 ++ (wsX4_digest_r6 ++ (wsX4_digest_r7 ++ wsX4_digest_r8))))))) ++ wsX20 ++ wsX30 ++ wsX40 ++ wsX00 ++ (vx_atS RX4 74 "java/lang/IllegalArgumentException" ["java/lang/RuntimeException", "java/lang/Exception"]).filter goodWord ++ (vx_atS RX4 95 "java/lang/IndexOutOfBoundsException" ["java/lang/RuntimeException", "java/lang/Exception"]).filter goodWord)
def wsJ9_abs_294c1 : List Cond := .code yJ9_abs_294c1 cJ9_abs_294c1 2 (some .double) :: ([.methodLink RJ9 79 ⟨"java/lang/Double", "doubleToRawLongBits", "(D)J"⟩, .native ⟨"java/lang/Double", "doubleToRawLongBits", "(D)J"⟩, .static ⟨"java/lang/Double", "doubleToRawLongBits", "(D)J"⟩, .initialized "java/lang/Double", .constantLong RJ9 135 (9223372036854775807), .methodLink RJ9 166 ⟨"java/lang/Double", "longBitsToDouble", "(J)D"⟩, .native ⟨"java/lang/Double", "longBitsToDouble", "(J)D"⟩, .static ⟨"java/lang/Double", "longBitsToDouble", "(J)D"⟩])
def wsJ9_max_7cf53 : List Cond := .code yJ9_max_7cf53 cJ9_max_7cf53 2 (some .int) :: ([])
def wsJ9_min_7cf53 : List Cond := .code yJ9_min_7cf53 cJ9_min_7cf53 2 (some .int) :: ([])
def wsL_below : List Cond := .code yL_below cL_below 2 (some .int) :: ([.constant RL 7 (2147483647)])
def wsL_cell : List Cond := .code yL_cell cL_cell 2 (some .int) :: ([.constant RL 8 (790386105)])
set_option maxRecDepth 20000 in
theorem ggX0_init_X3_init : GoodIn wsX0_init wsX3_init := goodIn_r _ [11, 12, 2, 3, 13, 14, 15, 16, 17, 18, 19, 20] (by decide +kernel) (by decide +kernel)
set_option maxRecDepth 20000 in
theorem gX0_init_X3_init : GoodIn wsX0_init (wsX3_init) := ggX0_init_X3_init
theorem dX0_init_0 : decode cX0_init 0 = .ok (.aload_n 0, 1) := by decide +kernel
theorem dX0_init_1 : decode cX0_init 1 = .ok (.invokespecial 3, 3) := by decide +kernel
theorem dX0_init_4 : decode cX0_init 4 = .ok (.aload_n 0, 1) := by decide +kernel
theorem dX0_init_5 : decode cX0_init 5 = .ok (.new 9, 3) := by decide +kernel
theorem dX0_init_8 : decode cX0_init 8 = .ok (.dup, 1) := by decide +kernel
theorem dX0_init_9 : decode cX0_init 9 = .ok (.bipush 32, 2) := by decide +kernel
theorem dX0_init_11 : decode cX0_init 11 = .ok (.invokespecial 11, 3) := by decide +kernel
theorem dX0_init_14 : decode cX0_init 14 = .ok (.putfield 14, 3) := by decide +kernel
theorem dX0_init_17 : decode cX0_init 17 = .ok (.aload_n 0, 1) := by decide +kernel
theorem dX0_init_18 : decode cX0_init 18 = .ok (.new 9, 3) := by decide +kernel
theorem dX0_init_21 : decode cX0_init 21 = .ok (.dup, 1) := by decide +kernel
theorem dX0_init_22 : decode cX0_init 22 = .ok (.bipush 32, 2) := by decide +kernel
theorem dX0_init_24 : decode cX0_init 24 = .ok (.invokespecial 11, 3) := by decide +kernel
theorem dX0_init_27 : decode cX0_init 27 = .ok (.putfield 20, 3) := by decide +kernel
theorem dX0_init_30 : decode cX0_init 30 = .ok (.return_, 1) := by decide +kernel
set_option maxRecDepth 20000 in
theorem ggX0_weave_X3_clear : GoodIn wsX0_weave wsX3_clear := goodIn_r _ [7, 8, 27, 28] (by decide +kernel) (by decide +kernel)
set_option maxRecDepth 20000 in
theorem gX0_weave_X3_clear : GoodIn wsX0_weave (wsV RX0 23 RX3 yX3_clear wsX3_clear) := goodIn_app (goodIn_of _ (by decide +kernel)) ggX0_weave_X3_clear
set_option maxRecDepth 20000 in
theorem ggX0_weave_X3_add : GoodIn wsX0_weave wsX3_add := goodIn_r _ [12, 8, 13, 27, 28] (by decide +kernel) (by decide +kernel)
set_option maxRecDepth 20000 in
theorem gX0_weave_X3_add : GoodIn wsX0_weave (wsV RX0 30 RX3 yX3_add wsX3_add) := goodIn_app (goodIn_of _ (by decide +kernel)) ggX0_weave_X3_add
set_option maxRecDepth 20000 in
theorem ggX0_weave_X3_at : GoodIn wsX0_weave wsX3_at := goodIn_r _ [17, 8, 13, 27, 28] (by decide +kernel) (by decide +kernel)
set_option maxRecDepth 20000 in
theorem gX0_weave_X3_at : GoodIn wsX0_weave (wsV RX0 33 RX3 yX3_at wsX3_at) := goodIn_app (goodIn_of _ (by decide +kernel)) ggX0_weave_X3_at
set_option maxRecDepth 20000 in
theorem ggX0_weave_X4_hasBit : GoodIn wsX0_weave wsX4_hasBit := goodIn_r _ [20] (by decide +kernel) (by decide +kernel)
set_option maxRecDepth 20000 in
theorem gX0_weave_X4_hasBit_n37 : GoodIn wsX0_weave (wsX4_hasBit) := ggX0_weave_X4_hasBit
set_option maxRecDepth 20000 in
theorem ggX0_weave_X3_put : GoodIn wsX0_weave wsX3_put := goodIn_r _ [24, 8, 13, 27, 28] (by decide +kernel) (by decide +kernel)
set_option maxRecDepth 20000 in
theorem gX0_weave_X3_put : GoodIn wsX0_weave (wsV RX0 41 RX3 yX3_put wsX3_put) := goodIn_app (goodIn_of _ (by decide +kernel)) ggX0_weave_X3_put
theorem dX0_weave_0 : decode cX0_weave 0 = .ok (.aload_n 0, 1) := by decide +kernel
theorem dX0_weave_1 : decode cX0_weave 1 = .ok (.getfield 14, 3) := by decide +kernel
theorem dX0_weave_4 : decode cX0_weave 4 = .ok (.invokevirtual 23, 3) := by decide +kernel
theorem dX0_weave_7 : decode cX0_weave 7 = .ok (.iconst 0, 1) := by decide +kernel
theorem dX0_weave_8 : decode cX0_weave 8 = .ok (.istore 4, 2) := by decide +kernel
theorem dX0_weave_10 : decode cX0_weave 10 = .ok (.iload 4, 2) := by decide +kernel
theorem dX0_weave_12 : decode cX0_weave 12 = .ok (.aload_n 1, 1) := by decide +kernel
theorem dX0_weave_13 : decode cX0_weave 13 = .ok (.getfield 26, 3) := by decide +kernel
theorem dX0_weave_16 : decode cX0_weave 16 = .ok (.if_icmp .ge 17, 3) := by decide +kernel
theorem dX0_weave_19 : decode cX0_weave 19 = .ok (.aload_n 0, 1) := by decide +kernel
theorem dX0_weave_20 : decode cX0_weave 20 = .ok (.getfield 14, 3) := by decide +kernel
theorem dX0_weave_23 : decode cX0_weave 23 = .ok (.iconst 0, 1) := by decide +kernel
theorem dX0_weave_24 : decode cX0_weave 24 = .ok (.invokevirtual 30, 3) := by decide +kernel
theorem dX0_weave_27 : decode cX0_weave 27 = .ok (.iinc 4 1, 3) := by decide +kernel
theorem dX0_weave_30 : decode cX0_weave 30 = .ok (.goto (-20), 3) := by decide +kernel
theorem dX0_weave_33 : decode cX0_weave 33 = .ok (.aload_n 0, 1) := by decide +kernel
theorem dX0_weave_34 : decode cX0_weave 34 = .ok (.getfield 20, 3) := by decide +kernel
theorem dX0_weave_37 : decode cX0_weave 37 = .ok (.invokevirtual 23, 3) := by decide +kernel
theorem dX0_weave_40 : decode cX0_weave 40 = .ok (.iconst 0, 1) := by decide +kernel
theorem dX0_weave_41 : decode cX0_weave 41 = .ok (.istore 4, 2) := by decide +kernel
theorem dX0_weave_43 : decode cX0_weave 43 = .ok (.iload 4, 2) := by decide +kernel
theorem dX0_weave_45 : decode cX0_weave 45 = .ok (.aload_n 2, 1) := by decide +kernel
theorem dX0_weave_46 : decode cX0_weave 46 = .ok (.getfield 26, 3) := by decide +kernel
theorem dX0_weave_49 : decode cX0_weave 49 = .ok (.if_icmp .ge 100, 3) := by decide +kernel
theorem dX0_weave_52 : decode cX0_weave 52 = .ok (.aload_n 3, 1) := by decide +kernel
theorem dX0_weave_53 : decode cX0_weave 53 = .ok (.aload_n 2, 1) := by decide +kernel
theorem dX0_weave_54 : decode cX0_weave 54 = .ok (.iload 4, 2) := by decide +kernel
theorem dX0_weave_56 : decode cX0_weave 56 = .ok (.invokevirtual 33, 3) := by decide +kernel
theorem dX0_weave_59 : decode cX0_weave 59 = .ok (.invokevirtual 33, 3) := by decide +kernel
theorem dX0_weave_62 : decode cX0_weave 62 = .ok (.istore 5, 2) := by decide +kernel
theorem dX0_weave_64 : decode cX0_weave 64 = .ok (.iconst 0, 1) := by decide +kernel
theorem dX0_weave_65 : decode cX0_weave 65 = .ok (.istore 6, 2) := by decide +kernel
theorem dX0_weave_67 : decode cX0_weave 67 = .ok (.iconst 0, 1) := by decide +kernel
theorem dX0_weave_68 : decode cX0_weave 68 = .ok (.istore 7, 2) := by decide +kernel
theorem dX0_weave_70 : decode cX0_weave 70 = .ok (.iload 7, 2) := by decide +kernel
theorem dX0_weave_72 : decode cX0_weave 72 = .ok (.aload_n 1, 1) := by decide +kernel
theorem dX0_weave_73 : decode cX0_weave 73 = .ok (.getfield 26, 3) := by decide +kernel
theorem dX0_weave_76 : decode cX0_weave 76 = .ok (.if_icmp .ge 58, 3) := by decide +kernel
theorem dX0_weave_79 : decode cX0_weave 79 = .ok (.iload 5, 2) := by decide +kernel
theorem dX0_weave_81 : decode cX0_weave 81 = .ok (.aload_n 1, 1) := by decide +kernel
theorem dX0_weave_82 : decode cX0_weave 82 = .ok (.iload 7, 2) := by decide +kernel
theorem dX0_weave_84 : decode cX0_weave 84 = .ok (.invokevirtual 33, 3) := by decide +kernel
theorem dX0_weave_87 : decode cX0_weave 87 = .ok (.invokestatic 37, 3) := by decide +kernel
theorem dX0_weave_90 : decode cX0_weave 90 = .ok (.ifCond .eq 29, 3) := by decide +kernel
theorem dX0_weave_93 : decode cX0_weave 93 = .ok (.aload_n 0, 1) := by decide +kernel
theorem dX0_weave_94 : decode cX0_weave 94 = .ok (.getfield 14, 3) := by decide +kernel
theorem dX0_weave_97 : decode cX0_weave 97 = .ok (.iload 7, 2) := by decide +kernel
theorem dX0_weave_99 : decode cX0_weave 99 = .ok (.aload_n 0, 1) := by decide +kernel
theorem dX0_weave_100 : decode cX0_weave 100 = .ok (.getfield 14, 3) := by decide +kernel
theorem dX0_weave_103 : decode cX0_weave 103 = .ok (.iload 7, 2) := by decide +kernel
theorem dX0_weave_105 : decode cX0_weave 105 = .ok (.invokevirtual 33, 3) := by decide +kernel
theorem dX0_weave_108 : decode cX0_weave 108 = .ok (.iconst 1, 1) := by decide +kernel
theorem dX0_weave_109 : decode cX0_weave 109 = .ok (.iload 4, 2) := by decide +kernel
theorem dX0_weave_111 : decode cX0_weave 111 = .ok (.ishl, 1) := by decide +kernel
theorem dX0_weave_112 : decode cX0_weave 112 = .ok (.ior, 1) := by decide +kernel
theorem dX0_weave_113 : decode cX0_weave 113 = .ok (.invokevirtual 41, 3) := by decide +kernel
theorem dX0_weave_116 : decode cX0_weave 116 = .ok (.goto 12, 3) := by decide +kernel
theorem dX0_weave_119 : decode cX0_weave 119 = .ok (.iload 6, 2) := by decide +kernel
theorem dX0_weave_121 : decode cX0_weave 121 = .ok (.iconst 1, 1) := by decide +kernel
theorem dX0_weave_122 : decode cX0_weave 122 = .ok (.iload 7, 2) := by decide +kernel
theorem dX0_weave_124 : decode cX0_weave 124 = .ok (.ishl, 1) := by decide +kernel
theorem dX0_weave_125 : decode cX0_weave 125 = .ok (.ior, 1) := by decide +kernel
theorem dX0_weave_126 : decode cX0_weave 126 = .ok (.istore 6, 2) := by decide +kernel
theorem dX0_weave_128 : decode cX0_weave 128 = .ok (.iinc 7 1, 3) := by decide +kernel
theorem dX0_weave_131 : decode cX0_weave 131 = .ok (.goto (-61), 3) := by decide +kernel
theorem dX0_weave_134 : decode cX0_weave 134 = .ok (.aload_n 0, 1) := by decide +kernel
theorem dX0_weave_135 : decode cX0_weave 135 = .ok (.getfield 20, 3) := by decide +kernel
theorem dX0_weave_138 : decode cX0_weave 138 = .ok (.iload 6, 2) := by decide +kernel
theorem dX0_weave_140 : decode cX0_weave 140 = .ok (.invokevirtual 30, 3) := by decide +kernel
theorem dX0_weave_143 : decode cX0_weave 143 = .ok (.iinc 4 1, 3) := by decide +kernel
theorem dX0_weave_146 : decode cX0_weave 146 = .ok (.goto (-103), 3) := by decide +kernel
theorem dX0_weave_149 : decode cX0_weave 149 = .ok (.return_, 1) := by decide +kernel
theorem dX0_hasFields_0 : decode cX0_hasFields 0 = .ok (.aload_n 0, 1) := by decide +kernel
theorem dX0_hasFields_1 : decode cX0_hasFields 1 = .ok (.getfield 14, 3) := by decide +kernel
theorem dX0_hasFields_4 : decode cX0_hasFields 4 = .ok (.getfield 26, 3) := by decide +kernel
theorem dX0_hasFields_7 : decode cX0_hasFields 7 = .ok (.ifCond .le 17, 3) := by decide +kernel
theorem dX0_hasFields_10 : decode cX0_hasFields 10 = .ok (.aload_n 0, 1) := by decide +kernel
theorem dX0_hasFields_11 : decode cX0_hasFields 11 = .ok (.getfield 20, 3) := by decide +kernel
theorem dX0_hasFields_14 : decode cX0_hasFields 14 = .ok (.getfield 26, 3) := by decide +kernel
theorem dX0_hasFields_17 : decode cX0_hasFields 17 = .ok (.ifCond .le 7, 3) := by decide +kernel
theorem dX0_hasFields_20 : decode cX0_hasFields 20 = .ok (.iconst 1, 1) := by decide +kernel
theorem dX0_hasFields_21 : decode cX0_hasFields 21 = .ok (.goto 4, 3) := by decide +kernel
theorem dX0_hasFields_24 : decode cX0_hasFields 24 = .ok (.iconst 0, 1) := by decide +kernel
theorem dX0_hasFields_25 : decode cX0_hasFields 25 = .ok (.ireturn, 1) := by decide +kernel
set_option maxRecDepth 20000 in
theorem ggX0_isUp_X3_at : GoodIn wsX0_isUp wsX3_at := goodIn_r _ [6, 7, 8, 14, 15] (by decide +kernel) (by decide +kernel)
set_option maxRecDepth 20000 in
theorem gX0_isUp_X3_at : GoodIn wsX0_isUp (wsV RX0 33 RX3 yX3_at wsX3_at) := goodIn_app (goodIn_of _ (by decide +kernel)) ggX0_isUp_X3_at
set_option maxRecDepth 20000 in
theorem ggX0_isUp_X4_hasBit : GoodIn wsX0_isUp wsX4_hasBit := goodIn_r _ [11] (by decide +kernel) (by decide +kernel)
set_option maxRecDepth 20000 in
theorem gX0_isUp_X4_hasBit_n37 : GoodIn wsX0_isUp (wsX4_hasBit) := ggX0_isUp_X4_hasBit
theorem dX0_isUp_0 : decode cX0_isUp 0 = .ok (.aload_n 0, 1) := by decide +kernel
theorem dX0_isUp_1 : decode cX0_isUp 1 = .ok (.getfield 14, 3) := by decide +kernel
theorem dX0_isUp_4 : decode cX0_isUp 4 = .ok (.iload_n 1, 1) := by decide +kernel
theorem dX0_isUp_5 : decode cX0_isUp 5 = .ok (.invokevirtual 33, 3) := by decide +kernel
theorem dX0_isUp_8 : decode cX0_isUp 8 = .ok (.iload_n 2, 1) := by decide +kernel
theorem dX0_isUp_9 : decode cX0_isUp 9 = .ok (.invokestatic 37, 3) := by decide +kernel
theorem dX0_isUp_12 : decode cX0_isUp 12 = .ok (.ireturn, 1) := by decide +kernel
set_option maxRecDepth 20000 in
theorem ggX0_floatAt_X0_isUp : GoodIn wsX0_floatAt wsX0_isUp := goodIn_r _ [7, 1, 8, 9, 10, 11, 12, 13, 14, 15, 16, 17, 21, 22, 23, 24] (by decide +kernel) (by decide +kernel)
set_option maxRecDepth 20000 in
theorem gX0_floatAt_X0_isUp : GoodIn wsX0_floatAt (wsV RX0 45 RX0 yX0_isUp wsX0_isUp) := goodIn_app (goodIn_of _ (by decide +kernel)) ggX0_floatAt_X0_isUp
set_option maxRecDepth 20000 in
theorem ggX0_floatAt_X3_at : GoodIn wsX0_floatAt wsX3_at := goodIn_r _ [12, 13, 14, 23, 24] (by decide +kernel) (by decide +kernel)
set_option maxRecDepth 20000 in
theorem gX0_floatAt_X3_at : GoodIn wsX0_floatAt (wsV RX0 33 RX3 yX3_at wsX3_at) := goodIn_app (goodIn_of _ (by decide +kernel)) ggX0_floatAt_X3_at
set_option maxRecDepth 20000 in
theorem ggX0_floatAt_X4_runAround : GoodIn wsX0_floatAt wsX4_runAround := goodIn_r _ [19, 20, 15, 16, 17] (by decide +kernel) (by decide +kernel)
set_option maxRecDepth 20000 in
theorem gX0_floatAt_X4_runAround_n48 : GoodIn wsX0_floatAt (wsX4_runAround) := ggX0_floatAt_X4_runAround
theorem dX0_floatAt_0 : decode cX0_floatAt 0 = .ok (.aload_n 0, 1) := by decide +kernel
theorem dX0_floatAt_1 : decode cX0_floatAt 1 = .ok (.iload_n 1, 1) := by decide +kernel
theorem dX0_floatAt_2 : decode cX0_floatAt 2 = .ok (.iload_n 2, 1) := by decide +kernel
theorem dX0_floatAt_3 : decode cX0_floatAt 3 = .ok (.invokevirtual 45, 3) := by decide +kernel
theorem dX0_floatAt_6 : decode cX0_floatAt 6 = .ok (.ifCond .eq 18, 3) := by decide +kernel
theorem dX0_floatAt_9 : decode cX0_floatAt 9 = .ok (.aload_n 0, 1) := by decide +kernel
theorem dX0_floatAt_10 : decode cX0_floatAt 10 = .ok (.getfield 14, 3) := by decide +kernel
theorem dX0_floatAt_13 : decode cX0_floatAt 13 = .ok (.iload_n 1, 1) := by decide +kernel
theorem dX0_floatAt_14 : decode cX0_floatAt 14 = .ok (.invokevirtual 33, 3) := by decide +kernel
theorem dX0_floatAt_17 : decode cX0_floatAt 17 = .ok (.iload_n 2, 1) := by decide +kernel
theorem dX0_floatAt_18 : decode cX0_floatAt 18 = .ok (.invokestatic 48, 3) := by decide +kernel
theorem dX0_floatAt_21 : decode cX0_floatAt 21 = .ok (.goto 15, 3) := by decide +kernel
theorem dX0_floatAt_24 : decode cX0_floatAt 24 = .ok (.aload_n 0, 1) := by decide +kernel
theorem dX0_floatAt_25 : decode cX0_floatAt 25 = .ok (.getfield 20, 3) := by decide +kernel
theorem dX0_floatAt_28 : decode cX0_floatAt 28 = .ok (.iload_n 2, 1) := by decide +kernel
theorem dX0_floatAt_29 : decode cX0_floatAt 29 = .ok (.invokevirtual 33, 3) := by decide +kernel
theorem dX0_floatAt_32 : decode cX0_floatAt 32 = .ok (.iload_n 1, 1) := by decide +kernel
theorem dX0_floatAt_33 : decode cX0_floatAt 33 = .ok (.invokestatic 48, 3) := by decide +kernel
theorem dX0_floatAt_36 : decode cX0_floatAt 36 = .ok (.ireturn, 1) := by decide +kernel
set_option maxRecDepth 20000 in
theorem ggX0_countFloats_X3_countRuns : GoodIn wsX0_countFloats wsX3_countRuns := goodIn_r _ [7, 8, 9, 10, 11, 6, 12, 13, 14, 15, 16, 17, 18, 19, 20, 21, 22, 23, 26, 27] (by decide +kernel) (by decide +kernel)
set_option maxRecDepth 20000 in
theorem gX0_countFloats_X3_countRuns : GoodIn wsX0_countFloats (wsV RX0 52 RX3 yX3_countRuns wsX3_countRuns) := goodIn_app (goodIn_of _ (by decide +kernel)) ggX0_countFloats_X3_countRuns
theorem dX0_countFloats_0 : decode cX0_countFloats 0 = .ok (.aload_n 0, 1) := by decide +kernel
theorem dX0_countFloats_1 : decode cX0_countFloats 1 = .ok (.getfield 14, 3) := by decide +kernel
theorem dX0_countFloats_4 : decode cX0_countFloats 4 = .ok (.iload_n 1, 1) := by decide +kernel
theorem dX0_countFloats_5 : decode cX0_countFloats 5 = .ok (.invokevirtual 52, 3) := by decide +kernel
theorem dX0_countFloats_8 : decode cX0_countFloats 8 = .ok (.aload_n 0, 1) := by decide +kernel
theorem dX0_countFloats_9 : decode cX0_countFloats 9 = .ok (.getfield 20, 3) := by decide +kernel
theorem dX0_countFloats_12 : decode cX0_countFloats 12 = .ok (.iload_n 1, 1) := by decide +kernel
theorem dX0_countFloats_13 : decode cX0_countFloats 13 = .ok (.invokevirtual 52, 3) := by decide +kernel
theorem dX0_countFloats_16 : decode cX0_countFloats 16 = .ok (.iadd, 1) := by decide +kernel
theorem dX0_countFloats_17 : decode cX0_countFloats 17 = .ok (.ireturn, 1) := by decide +kernel
set_option maxRecDepth 20000 in
theorem ggX0_longestFloat_X3_longestOfRuns : GoodIn wsX0_longestFloat wsX3_longestOfRuns := goodIn_r _ [11, 12, 13, 4, 5, 6, 14, 15, 16, 10, 17, 18, 19, 20, 21, 24, 25] (by decide +kernel) (by decide +kernel)
set_option maxRecDepth 20000 in
theorem gX0_longestFloat_X3_longestOfRuns : GoodIn wsX0_longestFloat (wsV RX0 55 RX3 yX3_longestOfRuns wsX3_longestOfRuns) := goodIn_app (goodIn_of _ (by decide +kernel)) ggX0_longestFloat_X3_longestOfRuns
theorem dX0_longestFloat_0 : decode cX0_longestFloat 0 = .ok (.aload_n 0, 1) := by decide +kernel
theorem dX0_longestFloat_1 : decode cX0_longestFloat 1 = .ok (.getfield 14, 3) := by decide +kernel
theorem dX0_longestFloat_4 : decode cX0_longestFloat 4 = .ok (.invokevirtual 55, 3) := by decide +kernel
theorem dX0_longestFloat_7 : decode cX0_longestFloat 7 = .ok (.aload_n 0, 1) := by decide +kernel
theorem dX0_longestFloat_8 : decode cX0_longestFloat 8 = .ok (.getfield 20, 3) := by decide +kernel
theorem dX0_longestFloat_11 : decode cX0_longestFloat 11 = .ok (.invokevirtual 55, 3) := by decide +kernel
theorem dX0_longestFloat_14 : decode cX0_longestFloat 14 = .ok (.invokestatic 59, 3) := by decide +kernel
theorem dX0_longestFloat_17 : decode cX0_longestFloat 17 = .ok (.ireturn, 1) := by decide +kernel
set_option maxRecDepth 20000 in
theorem ggX0_isConnected_X0_hasFields : GoodIn wsX0_isConnected wsX0_hasFields := goodIn_r _ [5, 6, 7, 35, 36, 37, 38] (by decide +kernel) (by decide +kernel)
set_option maxRecDepth 20000 in
theorem gX0_isConnected_X0_hasFields : GoodIn wsX0_isConnected (wsV RX0 64 RX0 yX0_hasFields wsX0_hasFields) := goodIn_app (goodIn_of _ (by decide +kernel)) ggX0_isConnected_X0_hasFields
set_option maxRecDepth 20000 in
theorem ggX0_isConnected_X0_isAllReached : GoodIn wsX0_isConnected wsX0_isAllReached := goodIn_r _ [11, 6, 7, 12, 13, 14, 4, 15, 16, 17, 18, 19, 20, 21, 22, 23, 24, 25, 26, 27, 28, 29, 30, 31, 32, 33, 34, 35, 36, 37, 38] (by decide +kernel) (by decide +kernel)
set_option maxRecDepth 20000 in
theorem gX0_isConnected_X0_isAllReached : GoodIn wsX0_isConnected (wsV RX0 68 RX0 yX0_isAllReached wsX0_isAllReached) := goodIn_app (goodIn_of _ (by decide +kernel)) ggX0_isConnected_X0_isAllReached
theorem dX0_isConnected_0 : decode cX0_isConnected 0 = .ok (.aload_n 0, 1) := by decide +kernel
theorem dX0_isConnected_1 : decode cX0_isConnected 1 = .ok (.invokevirtual 64, 3) := by decide +kernel
theorem dX0_isConnected_4 : decode cX0_isConnected 4 = .ok (.ifCond .eq 23, 3) := by decide +kernel
theorem dX0_isConnected_7 : decode cX0_isConnected 7 = .ok (.aload_n 0, 1) := by decide +kernel
theorem dX0_isConnected_8 : decode cX0_isConnected 8 = .ok (.iconst 0, 1) := by decide +kernel
theorem dX0_isConnected_9 : decode cX0_isConnected 9 = .ok (.invokevirtual 68, 3) := by decide +kernel
theorem dX0_isConnected_12 : decode cX0_isConnected 12 = .ok (.ifCond .eq 15, 3) := by decide +kernel
theorem dX0_isConnected_15 : decode cX0_isConnected 15 = .ok (.aload_n 0, 1) := by decide +kernel
theorem dX0_isConnected_16 : decode cX0_isConnected 16 = .ok (.iconst 1, 1) := by decide +kernel
theorem dX0_isConnected_17 : decode cX0_isConnected 17 = .ok (.invokevirtual 68, 3) := by decide +kernel
theorem dX0_isConnected_20 : decode cX0_isConnected 20 = .ok (.ifCond .eq 7, 3) := by decide +kernel
theorem dX0_isConnected_23 : decode cX0_isConnected 23 = .ok (.iconst 1, 1) := by decide +kernel
theorem dX0_isConnected_24 : decode cX0_isConnected 24 = .ok (.goto 4, 3) := by decide +kernel
theorem dX0_isConnected_27 : decode cX0_isConnected 27 = .ok (.iconst 0, 1) := by decide +kernel
theorem dX0_isConnected_28 : decode cX0_isConnected 28 = .ok (.ireturn, 1) := by decide +kernel
set_option maxRecDepth 20000 in
theorem ggX0_isAllReached_X0_endsReached : GoodIn wsX0_isAllReached wsX0_endsReached := goodIn_r _ [7, 1, 2, 8, 9, 6, 10, 11, 12, 13, 14, 15, 16, 17, 18, 19, 20, 21, 22, 27, 28, 29, 30] (by decide +kernel) (by decide +kernel)
set_option maxRecDepth 20000 in
theorem gX0_isAllReached_X0_endsReached : GoodIn wsX0_isAllReached (wsV RX0 72 RX0 yX0_endsReached wsX0_endsReached) := goodIn_app (goodIn_of _ (by decide +kernel)) ggX0_isAllReached_X0_endsReached
set_option maxRecDepth 20000 in
theorem ggX0_isAllReached_X4_fullSet : GoodIn wsX0_isAllReached wsX4_fullSet := goodIn_r _ [22] (by decide +kernel) (by decide +kernel)
set_option maxRecDepth 20000 in
theorem gX0_isAllReached_X4_fullSet_n76 : GoodIn wsX0_isAllReached (wsX4_fullSet) := ggX0_isAllReached_X4_fullSet
set_option maxRecDepth 20000 in
theorem ggX0_isAllReached_X0_picksReached : GoodIn wsX0_isAllReached wsX0_picksReached := goodIn_r _ [26, 1, 2, 3, 4, 5, 6, 7, 8, 9, 10, 11, 12, 13, 14, 15, 16, 17, 18, 19, 20, 21, 22, 27, 28, 29, 30] (by decide +kernel) (by decide +kernel)
set_option maxRecDepth 20000 in
theorem gX0_isAllReached_X0_picksReached : GoodIn wsX0_isAllReached (wsV RX0 79 RX0 yX0_picksReached wsX0_picksReached) := goodIn_app (goodIn_of _ (by decide +kernel)) ggX0_isAllReached_X0_picksReached
theorem dX0_isAllReached_0 : decode cX0_isAllReached 0 = .ok (.aload_n 0, 1) := by decide +kernel
theorem dX0_isAllReached_1 : decode cX0_isAllReached 1 = .ok (.iload_n 1, 1) := by decide +kernel
theorem dX0_isAllReached_2 : decode cX0_isAllReached 2 = .ok (.invokevirtual 72, 3) := by decide +kernel
theorem dX0_isAllReached_5 : decode cX0_isAllReached 5 = .ok (.aload_n 0, 1) := by decide +kernel
theorem dX0_isAllReached_6 : decode cX0_isAllReached 6 = .ok (.getfield 14, 3) := by decide +kernel
theorem dX0_isAllReached_9 : decode cX0_isAllReached 9 = .ok (.getfield 26, 3) := by decide +kernel
theorem dX0_isAllReached_12 : decode cX0_isAllReached 12 = .ok (.invokestatic 76, 3) := by decide +kernel
theorem dX0_isAllReached_15 : decode cX0_isAllReached 15 = .ok (.if_icmp .ne 25, 3) := by decide +kernel
theorem dX0_isAllReached_18 : decode cX0_isAllReached 18 = .ok (.aload_n 0, 1) := by decide +kernel
theorem dX0_isAllReached_19 : decode cX0_isAllReached 19 = .ok (.iload_n 1, 1) := by decide +kernel
theorem dX0_isAllReached_20 : decode cX0_isAllReached 20 = .ok (.invokevirtual 79, 3) := by decide +kernel
theorem dX0_isAllReached_23 : decode cX0_isAllReached 23 = .ok (.aload_n 0, 1) := by decide +kernel
theorem dX0_isAllReached_24 : decode cX0_isAllReached 24 = .ok (.getfield 20, 3) := by decide +kernel
theorem dX0_isAllReached_27 : decode cX0_isAllReached 27 = .ok (.getfield 26, 3) := by decide +kernel
theorem dX0_isAllReached_30 : decode cX0_isAllReached 30 = .ok (.invokestatic 76, 3) := by decide +kernel
theorem dX0_isAllReached_33 : decode cX0_isAllReached 33 = .ok (.if_icmp .ne 7, 3) := by decide +kernel
theorem dX0_isAllReached_36 : decode cX0_isAllReached 36 = .ok (.iconst 1, 1) := by decide +kernel
theorem dX0_isAllReached_37 : decode cX0_isAllReached 37 = .ok (.goto 4, 3) := by decide +kernel
theorem dX0_isAllReached_40 : decode cX0_isAllReached 40 = .ok (.iconst 0, 1) := by decide +kernel
theorem dX0_isAllReached_41 : decode cX0_isAllReached 41 = .ok (.ireturn, 1) := by decide +kernel
set_option maxRecDepth 20000 in
theorem ggX0_endsReached_X0_nextTo : GoodIn wsX0_endsReached wsX0_nextTo := goodIn_r _ [6, 7, 8, 9, 10, 11, 12, 13, 14, 15, 16, 17, 18, 21, 22] (by decide +kernel) (by decide +kernel)
set_option maxRecDepth 20000 in
theorem gX0_endsReached_X0_nextTo : GoodIn wsX0_endsReached (va_wsS RX0 82 yX0_nextTo wsX0_nextTo) := goodIn_app (goodIn_of _ (by decide +kernel)) ggX0_endsReached_X0_nextTo
theorem dX0_endsReached_0 : decode cX0_endsReached 0 = .ok (.iconst 1, 1) := by decide +kernel
theorem dX0_endsReached_1 : decode cX0_endsReached 1 = .ok (.istore_n 2, 1) := by decide +kernel
theorem dX0_endsReached_2 : decode cX0_endsReached 2 = .ok (.iconst 0, 1) := by decide +kernel
theorem dX0_endsReached_3 : decode cX0_endsReached 3 = .ok (.istore_n 3, 1) := by decide +kernel
theorem dX0_endsReached_4 : decode cX0_endsReached 4 = .ok (.iload_n 3, 1) := by decide +kernel
theorem dX0_endsReached_5 : decode cX0_endsReached 5 = .ok (.bipush 32, 2) := by decide +kernel
theorem dX0_endsReached_7 : decode cX0_endsReached 7 = .ok (.if_icmp .ge 54, 3) := by decide +kernel
theorem dX0_endsReached_10 : decode cX0_endsReached 10 = .ok (.aload_n 0, 1) := by decide +kernel
theorem dX0_endsReached_11 : decode cX0_endsReached 11 = .ok (.getfield 14, 3) := by decide +kernel
theorem dX0_endsReached_14 : decode cX0_endsReached 14 = .ok (.iload_n 2, 1) := by decide +kernel
theorem dX0_endsReached_15 : decode cX0_endsReached 15 = .ok (.aload_n 0, 1) := by decide +kernel
theorem dX0_endsReached_16 : decode cX0_endsReached 16 = .ok (.getfield 20, 3) := by decide +kernel
theorem dX0_endsReached_19 : decode cX0_endsReached 19 = .ok (.iload_n 1, 1) := by decide +kernel
theorem dX0_endsReached_20 : decode cX0_endsReached 20 = .ok (.invokestatic 82, 3) := by decide +kernel
theorem dX0_endsReached_23 : decode cX0_endsReached 23 = .ok (.istore 4, 2) := by decide +kernel
theorem dX0_endsReached_25 : decode cX0_endsReached 25 = .ok (.iload_n 2, 1) := by decide +kernel
theorem dX0_endsReached_26 : decode cX0_endsReached 26 = .ok (.aload_n 0, 1) := by decide +kernel
theorem dX0_endsReached_27 : decode cX0_endsReached 27 = .ok (.getfield 20, 3) := by decide +kernel
theorem dX0_endsReached_30 : decode cX0_endsReached 30 = .ok (.iload 4, 2) := by decide +kernel
theorem dX0_endsReached_32 : decode cX0_endsReached 32 = .ok (.aload_n 0, 1) := by decide +kernel
theorem dX0_endsReached_33 : decode cX0_endsReached 33 = .ok (.getfield 14, 3) := by decide +kernel
theorem dX0_endsReached_36 : decode cX0_endsReached 36 = .ok (.iload_n 1, 1) := by decide +kernel
theorem dX0_endsReached_37 : decode cX0_endsReached 37 = .ok (.invokestatic 82, 3) := by decide +kernel
theorem dX0_endsReached_40 : decode cX0_endsReached 40 = .ok (.ior, 1) := by decide +kernel
theorem dX0_endsReached_41 : decode cX0_endsReached 41 = .ok (.istore 5, 2) := by decide +kernel
theorem dX0_endsReached_43 : decode cX0_endsReached 43 = .ok (.iload 5, 2) := by decide +kernel
theorem dX0_endsReached_45 : decode cX0_endsReached 45 = .ok (.iload_n 2, 1) := by decide +kernel
theorem dX0_endsReached_46 : decode cX0_endsReached 46 = .ok (.if_icmp .ne 6, 3) := by decide +kernel
theorem dX0_endsReached_49 : decode cX0_endsReached 49 = .ok (.goto 12, 3) := by decide +kernel
theorem dX0_endsReached_52 : decode cX0_endsReached 52 = .ok (.iload 5, 2) := by decide +kernel
theorem dX0_endsReached_54 : decode cX0_endsReached 54 = .ok (.istore_n 2, 1) := by decide +kernel
theorem dX0_endsReached_55 : decode cX0_endsReached 55 = .ok (.iinc 3 1, 3) := by decide +kernel
theorem dX0_endsReached_58 : decode cX0_endsReached 58 = .ok (.goto (-54), 3) := by decide +kernel
theorem dX0_endsReached_61 : decode cX0_endsReached 61 = .ok (.iload_n 2, 1) := by decide +kernel
theorem dX0_endsReached_62 : decode cX0_endsReached 62 = .ok (.ireturn, 1) := by decide +kernel
set_option maxRecDepth 20000 in
theorem ggX0_picksReached_X0_endsReached : GoodIn wsX0_picksReached wsX0_endsReached := goodIn_r _ [7, 1, 2, 8, 9, 6, 10, 11, 12, 13, 14, 15, 16, 17, 18, 19, 20, 21, 22, 23, 24, 25, 26] (by decide +kernel) (by decide +kernel)
set_option maxRecDepth 20000 in
theorem gX0_picksReached_X0_endsReached : GoodIn wsX0_picksReached (wsV RX0 72 RX0 yX0_endsReached wsX0_endsReached) := goodIn_app (goodIn_of _ (by decide +kernel)) ggX0_picksReached_X0_endsReached
set_option maxRecDepth 20000 in
theorem ggX0_picksReached_X0_nextTo : GoodIn wsX0_picksReached wsX0_nextTo := goodIn_r _ [10, 11, 12, 13, 14, 15, 16, 17, 18, 19, 20, 21, 22, 25, 26] (by decide +kernel) (by decide +kernel)
set_option maxRecDepth 20000 in
theorem gX0_picksReached_X0_nextTo : GoodIn wsX0_picksReached (va_wsS RX0 82 yX0_nextTo wsX0_nextTo) := goodIn_app (goodIn_of _ (by decide +kernel)) ggX0_picksReached_X0_nextTo
theorem dX0_picksReached_0 : decode cX0_picksReached 0 = .ok (.aload_n 0, 1) := by decide +kernel
theorem dX0_picksReached_1 : decode cX0_picksReached 1 = .ok (.getfield 14, 3) := by decide +kernel
theorem dX0_picksReached_4 : decode cX0_picksReached 4 = .ok (.aload_n 0, 1) := by decide +kernel
theorem dX0_picksReached_5 : decode cX0_picksReached 5 = .ok (.iload_n 1, 1) := by decide +kernel
theorem dX0_picksReached_6 : decode cX0_picksReached 6 = .ok (.invokevirtual 72, 3) := by decide +kernel
theorem dX0_picksReached_9 : decode cX0_picksReached 9 = .ok (.aload_n 0, 1) := by decide +kernel
theorem dX0_picksReached_10 : decode cX0_picksReached 10 = .ok (.getfield 20, 3) := by decide +kernel
theorem dX0_picksReached_13 : decode cX0_picksReached 13 = .ok (.iload_n 1, 1) := by decide +kernel
theorem dX0_picksReached_14 : decode cX0_picksReached 14 = .ok (.invokestatic 82, 3) := by decide +kernel
theorem dX0_picksReached_17 : decode cX0_picksReached 17 = .ok (.ireturn, 1) := by decide +kernel
set_option maxRecDepth 20000 in
theorem ggX0_nextTo_X4_hasBit : GoodIn wsX0_nextTo wsX4_hasBit := goodIn_r _ [3] (by decide +kernel) (by decide +kernel)
set_option maxRecDepth 20000 in
theorem gX0_nextTo_X4_hasBit_n37 : GoodIn wsX0_nextTo (wsX4_hasBit) := ggX0_nextTo_X4_hasBit
set_option maxRecDepth 20000 in
theorem ggX0_nextTo_X3_at : GoodIn wsX0_nextTo wsX3_at := goodIn_r _ [8, 9, 10, 13, 14] (by decide +kernel) (by decide +kernel)
set_option maxRecDepth 20000 in
theorem gX0_nextTo_X3_at : GoodIn wsX0_nextTo (wsV RX0 33 RX3 yX3_at wsX3_at) := goodIn_app (goodIn_of _ (by decide +kernel)) ggX0_nextTo_X3_at
set_option maxRecDepth 20000 in
theorem ggX0_nextTo_X4_fullSet : GoodIn wsX0_nextTo wsX4_fullSet := goodIn_r _ [12] (by decide +kernel) (by decide +kernel)
set_option maxRecDepth 20000 in
theorem gX0_nextTo_X4_fullSet_n76 : GoodIn wsX0_nextTo (wsX4_fullSet) := ggX0_nextTo_X4_fullSet
theorem dX0_nextTo_0 : decode cX0_nextTo 0 = .ok (.iconst 0, 1) := by decide +kernel
theorem dX0_nextTo_1 : decode cX0_nextTo 1 = .ok (.istore 4, 2) := by decide +kernel
theorem dX0_nextTo_3 : decode cX0_nextTo 3 = .ok (.iconst 0, 1) := by decide +kernel
theorem dX0_nextTo_4 : decode cX0_nextTo 4 = .ok (.istore 5, 2) := by decide +kernel
theorem dX0_nextTo_6 : decode cX0_nextTo 6 = .ok (.iload 5, 2) := by decide +kernel
theorem dX0_nextTo_8 : decode cX0_nextTo 8 = .ok (.aload_n 0, 1) := by decide +kernel
theorem dX0_nextTo_9 : decode cX0_nextTo 9 = .ok (.getfield 26, 3) := by decide +kernel
theorem dX0_nextTo_12 : decode cX0_nextTo 12 = .ok (.if_icmp .ge 44, 3) := by decide +kernel
theorem dX0_nextTo_15 : decode cX0_nextTo 15 = .ok (.iload_n 1, 1) := by decide +kernel
theorem dX0_nextTo_16 : decode cX0_nextTo 16 = .ok (.iload 5, 2) := by decide +kernel
theorem dX0_nextTo_18 : decode cX0_nextTo 18 = .ok (.invokestatic 37, 3) := by decide +kernel
theorem dX0_nextTo_21 : decode cX0_nextTo 21 = .ok (.ifCond .eq 29, 3) := by decide +kernel
theorem dX0_nextTo_24 : decode cX0_nextTo 24 = .ok (.iload 4, 2) := by decide +kernel
theorem dX0_nextTo_26 : decode cX0_nextTo 26 = .ok (.iload_n 3, 1) := by decide +kernel
theorem dX0_nextTo_27 : decode cX0_nextTo 27 = .ok (.ifCond .eq 14, 3) := by decide +kernel
theorem dX0_nextTo_30 : decode cX0_nextTo 30 = .ok (.aload_n 0, 1) := by decide +kernel
theorem dX0_nextTo_31 : decode cX0_nextTo 31 = .ok (.iload 5, 2) := by decide +kernel
theorem dX0_nextTo_33 : decode cX0_nextTo 33 = .ok (.invokevirtual 33, 3) := by decide +kernel
theorem dX0_nextTo_36 : decode cX0_nextTo 36 = .ok (.iconst (-1), 1) := by decide +kernel
theorem dX0_nextTo_37 : decode cX0_nextTo 37 = .ok (.ixor, 1) := by decide +kernel
theorem dX0_nextTo_38 : decode cX0_nextTo 38 = .ok (.goto 9, 3) := by decide +kernel
theorem dX0_nextTo_41 : decode cX0_nextTo 41 = .ok (.aload_n 0, 1) := by decide +kernel
theorem dX0_nextTo_42 : decode cX0_nextTo 42 = .ok (.iload 5, 2) := by decide +kernel
theorem dX0_nextTo_44 : decode cX0_nextTo 44 = .ok (.invokevirtual 33, 3) := by decide +kernel
theorem dX0_nextTo_47 : decode cX0_nextTo 47 = .ok (.ior, 1) := by decide +kernel
theorem dX0_nextTo_48 : decode cX0_nextTo 48 = .ok (.istore 4, 2) := by decide +kernel
theorem dX0_nextTo_50 : decode cX0_nextTo 50 = .ok (.iinc 5 1, 3) := by decide +kernel
theorem dX0_nextTo_53 : decode cX0_nextTo 53 = .ok (.goto (-47), 3) := by decide +kernel
theorem dX0_nextTo_56 : decode cX0_nextTo 56 = .ok (.iload 4, 2) := by decide +kernel
theorem dX0_nextTo_58 : decode cX0_nextTo 58 = .ok (.aload_n 2, 1) := by decide +kernel
theorem dX0_nextTo_59 : decode cX0_nextTo 59 = .ok (.getfield 26, 3) := by decide +kernel
theorem dX0_nextTo_62 : decode cX0_nextTo 62 = .ok (.invokestatic 76, 3) := by decide +kernel
theorem dX0_nextTo_65 : decode cX0_nextTo 65 = .ok (.iand, 1) := by decide +kernel
theorem dX0_nextTo_66 : decode cX0_nextTo 66 = .ok (.ireturn, 1) := by decide +kernel
set_option maxRecDepth 20000 in
theorem ggX1_init_X3_init : GoodIn wsX1_init wsX3_init := goodIn_r _ [11, 12, 2, 3, 13, 14, 15, 16, 17, 18, 19, 20] (by decide +kernel) (by decide +kernel)
set_option maxRecDepth 20000 in
theorem gX1_init_X3_init : GoodIn wsX1_init (wsX3_init) := ggX1_init_X3_init
theorem dX1_init_0 : decode cX1_init 0 = .ok (.aload_n 0, 1) := by decide +kernel
theorem dX1_init_1 : decode cX1_init 1 = .ok (.invokespecial 3, 3) := by decide +kernel
theorem dX1_init_4 : decode cX1_init 4 = .ok (.aload_n 0, 1) := by decide +kernel
theorem dX1_init_5 : decode cX1_init 5 = .ok (.new 9, 3) := by decide +kernel
theorem dX1_init_8 : decode cX1_init 8 = .ok (.dup, 1) := by decide +kernel
theorem dX1_init_9 : decode cX1_init 9 = .ok (.sipush 1312, 3) := by decide +kernel
theorem dX1_init_12 : decode cX1_init 12 = .ok (.invokespecial 13, 3) := by decide +kernel
theorem dX1_init_15 : decode cX1_init 15 = .ok (.putfield 16, 3) := by decide +kernel
theorem dX1_init_18 : decode cX1_init 18 = .ok (.aload_n 0, 1) := by decide +kernel
theorem dX1_init_19 : decode cX1_init 19 = .ok (.new 9, 3) := by decide +kernel
theorem dX1_init_22 : decode cX1_init 22 = .ok (.dup, 1) := by decide +kernel
theorem dX1_init_23 : decode cX1_init 23 = .ok (.bipush 41, 2) := by decide +kernel
theorem dX1_init_25 : decode cX1_init 25 = .ok (.invokespecial 13, 3) := by decide +kernel
theorem dX1_init_28 : decode cX1_init 28 = .ok (.putfield 20, 3) := by decide +kernel
theorem dX1_init_31 : decode cX1_init 31 = .ok (.return_, 1) := by decide +kernel
set_option maxRecDepth 20000 in
theorem ggX1_compile_X3_clear : GoodIn wsX1_compile wsX3_clear := goodIn_r _ [9, 10, 123, 124] (by decide +kernel) (by decide +kernel)
set_option maxRecDepth 20000 in
theorem gX1_compile_X3_clear : GoodIn wsX1_compile (wsV RX1 23 RX3 yX3_clear wsX3_clear) := goodIn_app (goodIn_of _ (by decide +kernel)) ggX1_compile_X3_clear
set_option maxRecDepth 20000 in
theorem ggX1_compile_X3_at : GoodIn wsX1_compile wsX3_at := goodIn_r _ [14, 10, 15, 123, 124] (by decide +kernel) (by decide +kernel)
set_option maxRecDepth 20000 in
theorem gX1_compile_X3_at : GoodIn wsX1_compile (wsV RX1 41 RX3 yX3_at wsX3_at) := goodIn_app (goodIn_of _ (by decide +kernel)) ggX1_compile_X3_at
set_option maxRecDepth 20000 in
theorem ggX1_compile_X1_read : GoodIn wsX1_compile wsX1_read := goodIn_r _ [20, 21, 22, 23, 19, 24, 1, 25, 26, 27, 28, 3, 29, 30, 31, 32, 4, 33, 34, 35, 8, 36, 10, 15, 37, 38, 39, 40, 2, 41, 42, 43, 44, 45, 46, 47, 48, 49, 12, 13, 14, 50, 51, 52, 53, 54, 55, 56, 57, 58, 59, 60, 61, 62, 63, 64, 65, 66, 67, 68, 69, 70, 71, 72, 73, 74, 75, 76, 77, 78, 79, 80, 81, 82, 83, 84, 85, 86, 11, 87, 88, 89, 90, 91, 92, 93, 94, 95, 115, 116, 117, 118, 123, 124, 119, 120, 121, 122] (by decide +kernel) (by decide +kernel)
set_option maxRecDepth 20000 in
theorem gX1_compile_X1_read : GoodIn wsX1_compile (wsV RX1 45 RX1 yX1_read wsX1_read) := goodIn_app (goodIn_of _ (by decide +kernel)) ggX1_compile_X1_read
set_option maxRecDepth 20000 in
theorem ggX1_compile_X2_refuse : GoodIn wsX1_compile wsX2_refuse := goodIn_r _ [100, 101, 102, 103, 104, 6, 7, 8, 9, 10, 119, 120, 121, 122, 123, 124] (by decide +kernel) (by decide +kernel)
set_option maxRecDepth 20000 in
theorem gX1_compile_X2_refuse : GoodIn wsX1_compile (wsV RX1 49 RX2 yX2_refuse wsX2_refuse) := goodIn_app (goodIn_of _ (by decide +kernel)) ggX1_compile_X2_refuse
set_option maxRecDepth 20000 in
theorem ggX1_compile_X2_accept : GoodIn wsX1_compile wsX2_accept := goodIn_r _ [108, 101, 102, 103, 109, 110, 111, 8, 112, 113, 6, 7, 9, 10, 114, 66, 67, 68, 49, 12, 13, 14, 15, 69, 34, 35, 36, 119, 120, 121, 122, 123, 124] (by decide +kernel) (by decide +kernel)
set_option maxRecDepth 20000 in
theorem gX1_compile_X2_accept : GoodIn wsX1_compile (wsV RX1 53 RX2 yX2_accept wsX2_accept) := goodIn_app (goodIn_of _ (by decide +kernel)) ggX1_compile_X2_accept
theorem dX1_compile_0 : decode cX1_compile 0 = .ok (.aload_n 0, 1) := by decide +kernel
theorem dX1_compile_1 : decode cX1_compile 1 = .ok (.getfield 16, 3) := by decide +kernel
theorem dX1_compile_4 : decode cX1_compile 4 = .ok (.invokevirtual 23, 3) := by decide +kernel
theorem dX1_compile_7 : decode cX1_compile 7 = .ok (.aload_n 0, 1) := by decide +kernel
theorem dX1_compile_8 : decode cX1_compile 8 = .ok (.getfield 20, 3) := by decide +kernel
theorem dX1_compile_11 : decode cX1_compile 11 = .ok (.invokevirtual 23, 3) := by decide +kernel
theorem dX1_compile_14 : decode cX1_compile 14 = .ok (.aload_n 0, 1) := by decide +kernel
theorem dX1_compile_15 : decode cX1_compile 15 = .ok (.iconst 0, 1) := by decide +kernel
theorem dX1_compile_16 : decode cX1_compile 16 = .ok (.putfield 26, 3) := by decide +kernel
theorem dX1_compile_19 : decode cX1_compile 19 = .ok (.aload_n 0, 1) := by decide +kernel
theorem dX1_compile_20 : decode cX1_compile 20 = .ok (.iconst (-1), 1) := by decide +kernel
theorem dX1_compile_21 : decode cX1_compile 21 = .ok (.putfield 30, 3) := by decide +kernel
theorem dX1_compile_24 : decode cX1_compile 24 = .ok (.iconst 0, 1) := by decide +kernel
theorem dX1_compile_25 : decode cX1_compile 25 = .ok (.istore 4, 2) := by decide +kernel
theorem dX1_compile_27 : decode cX1_compile 27 = .ok (.iload 4, 2) := by decide +kernel
theorem dX1_compile_29 : decode cX1_compile 29 = .ok (.aload_n 3, 1) := by decide +kernel
theorem dX1_compile_30 : decode cX1_compile 30 = .ok (.getfield 33, 3) := by decide +kernel
theorem dX1_compile_33 : decode cX1_compile 33 = .ok (.getfield 38, 3) := by decide +kernel
theorem dX1_compile_36 : decode cX1_compile 36 = .ok (.if_icmp .ge 40, 3) := by decide +kernel
theorem dX1_compile_39 : decode cX1_compile 39 = .ok (.aload_n 0, 1) := by decide +kernel
theorem dX1_compile_40 : decode cX1_compile 40 = .ok (.aload_n 1, 1) := by decide +kernel
theorem dX1_compile_41 : decode cX1_compile 41 = .ok (.iload_n 2, 1) := by decide +kernel
theorem dX1_compile_42 : decode cX1_compile 42 = .ok (.aload_n 3, 1) := by decide +kernel
theorem dX1_compile_43 : decode cX1_compile 43 = .ok (.getfield 33, 3) := by decide +kernel
theorem dX1_compile_46 : decode cX1_compile 46 = .ok (.iload 4, 2) := by decide +kernel
theorem dX1_compile_48 : decode cX1_compile 48 = .ok (.invokevirtual 41, 3) := by decide +kernel
theorem dX1_compile_51 : decode cX1_compile 51 = .ok (.invokevirtual 45, 3) := by decide +kernel
theorem dX1_compile_54 : decode cX1_compile 54 = .ok (.istore 5, 2) := by decide +kernel
theorem dX1_compile_56 : decode cX1_compile 56 = .ok (.iload 5, 2) := by decide +kernel
theorem dX1_compile_58 : decode cX1_compile 58 = .ok (.ifCond .eq 12, 3) := by decide +kernel
theorem dX1_compile_61 : decode cX1_compile 61 = .ok (.aload_n 3, 1) := by decide +kernel
theorem dX1_compile_62 : decode cX1_compile 62 = .ok (.iload 5, 2) := by decide +kernel
theorem dX1_compile_64 : decode cX1_compile 64 = .ok (.iload 4, 2) := by decide +kernel
theorem dX1_compile_66 : decode cX1_compile 66 = .ok (.invokevirtual 49, 3) := by decide +kernel
theorem dX1_compile_69 : decode cX1_compile 69 = .ok (.return_, 1) := by decide +kernel
theorem dX1_compile_70 : decode cX1_compile 70 = .ok (.iinc 4 1, 3) := by decide +kernel
theorem dX1_compile_73 : decode cX1_compile 73 = .ok (.goto (-46), 3) := by decide +kernel
theorem dX1_compile_76 : decode cX1_compile 76 = .ok (.aload_n 0, 1) := by decide +kernel
theorem dX1_compile_77 : decode cX1_compile 77 = .ok (.getfield 20, 3) := by decide +kernel
theorem dX1_compile_80 : decode cX1_compile 80 = .ok (.getfield 38, 3) := by decide +kernel
theorem dX1_compile_83 : decode cX1_compile 83 = .ok (.ifCond .le 18, 3) := by decide +kernel
theorem dX1_compile_86 : decode cX1_compile 86 = .ok (.aload_n 3, 1) := by decide +kernel
theorem dX1_compile_87 : decode cX1_compile 87 = .ok (.iconst 3, 1) := by decide +kernel
theorem dX1_compile_88 : decode cX1_compile 88 = .ok (.aload_n 3, 1) := by decide +kernel
theorem dX1_compile_89 : decode cX1_compile 89 = .ok (.getfield 33, 3) := by decide +kernel
theorem dX1_compile_92 : decode cX1_compile 92 = .ok (.getfield 38, 3) := by decide +kernel
theorem dX1_compile_95 : decode cX1_compile 95 = .ok (.invokevirtual 49, 3) := by decide +kernel
theorem dX1_compile_98 : decode cX1_compile 98 = .ok (.goto 11, 3) := by decide +kernel
theorem dX1_compile_101 : decode cX1_compile 101 = .ok (.aload_n 3, 1) := by decide +kernel
theorem dX1_compile_102 : decode cX1_compile 102 = .ok (.aload_n 0, 1) := by decide +kernel
theorem dX1_compile_103 : decode cX1_compile 103 = .ok (.getfield 16, 3) := by decide +kernel
theorem dX1_compile_106 : decode cX1_compile 106 = .ok (.invokevirtual 53, 3) := by decide +kernel
theorem dX1_compile_109 : decode cX1_compile 109 = .ok (.return_, 1) := by decide +kernel
set_option maxRecDepth 20000 in
theorem ggX1_read_X1_addNumber : GoodIn wsX1_read wsX1_addNumber := goodIn_r _ [5, 6, 7, 8, 9, 4, 10, 11, 12, 13, 14, 15, 16, 17, 18, 19, 20, 21, 22, 23, 88, 89, 90, 91, 92, 93] (by decide +kernel) (by decide +kernel)
set_option maxRecDepth 20000 in
theorem gX1_read_X1_addNumber : GoodIn wsX1_read (wsV RX1 57 RX1 yX1_addNumber wsX1_addNumber) := goodIn_app (goodIn_of _ (by decide +kernel)) ggX1_read_X1_addNumber
set_option maxRecDepth 20000 in
theorem ggX1_read_X1_openGroup : GoodIn wsX1_read wsX1_openGroup := goodIn_r _ [27, 28, 11, 6, 16, 17, 18, 19, 20, 21, 22, 23, 88, 89, 90, 91, 92, 93] (by decide +kernel) (by decide +kernel)
set_option maxRecDepth 20000 in
theorem gX1_read_X1_openGroup : GoodIn wsX1_read (wsV RX1 60 RX1 yX1_openGroup wsX1_openGroup) := goodIn_app (goodIn_of _ (by decide +kernel)) ggX1_read_X1_openGroup
set_option maxRecDepth 20000 in
theorem ggX1_read_X1_closeGroup : GoodIn wsX1_read wsX1_closeGroup := goodIn_r _ [32, 28, 11, 16, 33, 34, 35, 20, 36, 22, 37, 38, 39, 40, 23, 41, 42, 43, 44, 45, 46, 47, 48, 49, 50, 51, 7, 8, 9, 4, 10, 6, 88, 89, 90, 91, 92, 93] (by decide +kernel) (by decide +kernel)
set_option maxRecDepth 20000 in
theorem gX1_read_X1_closeGroup : GoodIn wsX1_read (wsV RX1 63 RX1 yX1_closeGroup wsX1_closeGroup) := goodIn_app (goodIn_of _ (by decide +kernel)) ggX1_read_X1_closeGroup
set_option maxRecDepth 20000 in
theorem ggX1_read_X1_addBlock : GoodIn wsX1_read wsX1_addBlock := goodIn_r _ [55, 6, 7, 8, 9, 4, 10, 11, 12, 13, 14, 15, 16, 56, 57, 58, 20, 59, 22, 37, 38, 39, 40, 23, 60, 18, 19, 21, 94, 95, 96, 97, 92, 93, 88, 89, 90, 91] (by decide +kernel) (by decide +kernel)
set_option maxRecDepth 20000 in
theorem gX1_read_X1_addBlock : GoodIn wsX1_read (wsV RX1 67 RX1 yX1_addBlock wsX1_addBlock) := goodIn_app (goodIn_of _ (by decide +kernel)) ggX1_read_X1_addBlock
set_option maxRecDepth 20000 in
theorem ggX1_read_X1_changeItem : GoodIn wsX1_read wsX1_changeItem := goodIn_r _ [64, 16, 6, 65, 66, 67, 20, 68, 22, 37, 38, 39, 40, 23, 69, 70, 71, 72, 73, 74, 75, 4, 76, 11, 77, 50, 47, 51, 7, 8, 9, 10, 12, 13, 14, 15, 78, 17, 18, 19, 21, 79, 80, 81, 82, 83, 84, 85, 86, 87, 88, 89, 90, 91, 92, 93] (by decide +kernel) (by decide +kernel)
set_option maxRecDepth 20000 in
theorem gX1_read_X1_changeItem : GoodIn wsX1_read (wsV RX1 70 RX1 yX1_changeItem wsX1_changeItem) := goodIn_app (goodIn_of _ (by decide +kernel)) ggX1_read_X1_changeItem
theorem dX1_read_0 : decode cX1_read 0 = .ok (.iload_n 3, 1) := by decide +kernel
theorem dX1_read_1 : decode cX1_read 1 = .ok (.bipush 7, 2) := by decide +kernel
theorem dX1_read_3 : decode cX1_read 3 = .ok (.if_icmp .gt 9, 3) := by decide +kernel
theorem dX1_read_6 : decode cX1_read 6 = .ok (.aload_n 0, 1) := by decide +kernel
theorem dX1_read_7 : decode cX1_read 7 = .ok (.iload_n 3, 1) := by decide +kernel
theorem dX1_read_8 : decode cX1_read 8 = .ok (.invokevirtual 57, 3) := by decide +kernel
theorem dX1_read_11 : decode cX1_read 11 = .ok (.ireturn, 1) := by decide +kernel
theorem dX1_read_12 : decode cX1_read 12 = .ok (.iload_n 3, 1) := by decide +kernel
theorem dX1_read_13 : decode cX1_read 13 = .ok (.bipush 10, 2) := by decide +kernel
theorem dX1_read_15 : decode cX1_read 15 = .ok (.if_icmp .ne 9, 3) := by decide +kernel
theorem dX1_read_18 : decode cX1_read 18 = .ok (.aload_n 0, 1) := by decide +kernel
theorem dX1_read_19 : decode cX1_read 19 = .ok (.invokevirtual 60, 3) := by decide +kernel
theorem dX1_read_22 : decode cX1_read 22 = .ok (.iconst 0, 1) := by decide +kernel
theorem dX1_read_23 : decode cX1_read 23 = .ok (.ireturn, 1) := by decide +kernel
theorem dX1_read_24 : decode cX1_read 24 = .ok (.iload_n 3, 1) := by decide +kernel
theorem dX1_read_25 : decode cX1_read 25 = .ok (.bipush 11, 2) := by decide +kernel
theorem dX1_read_27 : decode cX1_read 27 = .ok (.if_icmp .ne 8, 3) := by decide +kernel
theorem dX1_read_30 : decode cX1_read 30 = .ok (.aload_n 0, 1) := by decide +kernel
theorem dX1_read_31 : decode cX1_read 31 = .ok (.invokevirtual 63, 3) := by decide +kernel
theorem dX1_read_34 : decode cX1_read 34 = .ok (.ireturn, 1) := by decide +kernel
theorem dX1_read_35 : decode cX1_read 35 = .ok (.iload_n 3, 1) := by decide +kernel
theorem dX1_read_36 : decode cX1_read 36 = .ok (.bipush 44, 2) := by decide +kernel
theorem dX1_read_38 : decode cX1_read 38 = .ok (.if_icmp .lt 14, 3) := by decide +kernel
theorem dX1_read_41 : decode cX1_read 41 = .ok (.aload_n 0, 1) := by decide +kernel
theorem dX1_read_42 : decode cX1_read 42 = .ok (.aload_n 1, 1) := by decide +kernel
theorem dX1_read_43 : decode cX1_read 43 = .ok (.iload_n 2, 1) := by decide +kernel
theorem dX1_read_44 : decode cX1_read 44 = .ok (.iload_n 3, 1) := by decide +kernel
theorem dX1_read_45 : decode cX1_read 45 = .ok (.bipush 40, 2) := by decide +kernel
theorem dX1_read_47 : decode cX1_read 47 = .ok (.isub, 1) := by decide +kernel
theorem dX1_read_48 : decode cX1_read 48 = .ok (.invokevirtual 67, 3) := by decide +kernel
theorem dX1_read_51 : decode cX1_read 51 = .ok (.ireturn, 1) := by decide +kernel
theorem dX1_read_52 : decode cX1_read 52 = .ok (.aload_n 0, 1) := by decide +kernel
theorem dX1_read_53 : decode cX1_read 53 = .ok (.iload_n 3, 1) := by decide +kernel
theorem dX1_read_54 : decode cX1_read 54 = .ok (.invokevirtual 70, 3) := by decide +kernel
theorem dX1_read_57 : decode cX1_read 57 = .ok (.ireturn, 1) := by decide +kernel
theorem dX1_hasRoom_0 : decode cX1_hasRoom 0 = .ok (.aload_n 0, 1) := by decide +kernel
theorem dX1_hasRoom_1 : decode cX1_hasRoom 1 = .ok (.getfield 16, 3) := by decide +kernel
theorem dX1_hasRoom_4 : decode cX1_hasRoom 4 = .ok (.getfield 38, 3) := by decide +kernel
theorem dX1_hasRoom_7 : decode cX1_hasRoom 7 = .ok (.aload_n 0, 1) := by decide +kernel
theorem dX1_hasRoom_8 : decode cX1_hasRoom 8 = .ok (.getfield 26, 3) := by decide +kernel
theorem dX1_hasRoom_11 : decode cX1_hasRoom 11 = .ok (.isub, 1) := by decide +kernel
theorem dX1_hasRoom_12 : decode cX1_hasRoom 12 = .ok (.iload_n 1, 1) := by decide +kernel
theorem dX1_hasRoom_13 : decode cX1_hasRoom 13 = .ok (.iadd, 1) := by decide +kernel
theorem dX1_hasRoom_14 : decode cX1_hasRoom 14 = .ok (.bipush 32, 2) := by decide +kernel
theorem dX1_hasRoom_16 : decode cX1_hasRoom 16 = .ok (.if_icmp .gt 7, 3) := by decide +kernel
theorem dX1_hasRoom_19 : decode cX1_hasRoom 19 = .ok (.iconst 1, 1) := by decide +kernel
theorem dX1_hasRoom_20 : decode cX1_hasRoom 20 = .ok (.goto 4, 3) := by decide +kernel
theorem dX1_hasRoom_23 : decode cX1_hasRoom 23 = .ok (.iconst 0, 1) := by decide +kernel
theorem dX1_hasRoom_24 : decode cX1_hasRoom 24 = .ok (.ireturn, 1) := by decide +kernel
theorem dX1_beginItem_0 : decode cX1_beginItem 0 = .ok (.aload_n 0, 1) := by decide +kernel
theorem dX1_beginItem_1 : decode cX1_beginItem 1 = .ok (.aload_n 0, 1) := by decide +kernel
theorem dX1_beginItem_2 : decode cX1_beginItem 2 = .ok (.getfield 16, 3) := by decide +kernel
theorem dX1_beginItem_5 : decode cX1_beginItem 5 = .ok (.getfield 38, 3) := by decide +kernel
theorem dX1_beginItem_8 : decode cX1_beginItem 8 = .ok (.putfield 30, 3) := by decide +kernel
theorem dX1_beginItem_11 : decode cX1_beginItem 11 = .ok (.return_, 1) := by decide +kernel
set_option maxRecDepth 20000 in
theorem ggX1_openGroup_X3_add : GoodIn wsX1_openGroup wsX3_add := goodIn_r _ [9, 10, 11, 16, 17] (by decide +kernel) (by decide +kernel)
set_option maxRecDepth 20000 in
theorem gX1_openGroup_X3_add : GoodIn wsX1_openGroup (wsV RX1 73 RX3 yX3_add wsX3_add) := goodIn_app (goodIn_of _ (by decide +kernel)) ggX1_openGroup_X3_add
theorem dX1_openGroup_0 : decode cX1_openGroup 0 = .ok (.aload_n 0, 1) := by decide +kernel
theorem dX1_openGroup_1 : decode cX1_openGroup 1 = .ok (.getfield 20, 3) := by decide +kernel
theorem dX1_openGroup_4 : decode cX1_openGroup 4 = .ok (.aload_n 0, 1) := by decide +kernel
theorem dX1_openGroup_5 : decode cX1_openGroup 5 = .ok (.getfield 26, 3) := by decide +kernel
theorem dX1_openGroup_8 : decode cX1_openGroup 8 = .ok (.invokevirtual 73, 3) := by decide +kernel
theorem dX1_openGroup_11 : decode cX1_openGroup 11 = .ok (.aload_n 0, 1) := by decide +kernel
theorem dX1_openGroup_12 : decode cX1_openGroup 12 = .ok (.aload_n 0, 1) := by decide +kernel
theorem dX1_openGroup_13 : decode cX1_openGroup 13 = .ok (.getfield 16, 3) := by decide +kernel
theorem dX1_openGroup_16 : decode cX1_openGroup 16 = .ok (.getfield 38, 3) := by decide +kernel
theorem dX1_openGroup_19 : decode cX1_openGroup 19 = .ok (.putfield 26, 3) := by decide +kernel
theorem dX1_openGroup_22 : decode cX1_openGroup 22 = .ok (.aload_n 0, 1) := by decide +kernel
theorem dX1_openGroup_23 : decode cX1_openGroup 23 = .ok (.iconst (-1), 1) := by decide +kernel
theorem dX1_openGroup_24 : decode cX1_openGroup 24 = .ok (.putfield 30, 3) := by decide +kernel
theorem dX1_openGroup_27 : decode cX1_openGroup 27 = .ok (.return_, 1) := by decide +kernel
set_option maxRecDepth 20000 in
theorem ggX1_closeGroup_X3_last : GoodIn wsX1_closeGroup wsX3_last := goodIn_r _ [8, 9, 10, 11, 12, 7, 13, 14, 36, 37] (by decide +kernel) (by decide +kernel)
set_option maxRecDepth 20000 in
theorem gX1_closeGroup_X3_last : GoodIn wsX1_closeGroup (wsV RX1 76 RX3 yX3_last wsX3_last) := goodIn_app (goodIn_of _ (by decide +kernel)) ggX1_closeGroup_X3_last
set_option maxRecDepth 20000 in
theorem ggX1_closeGroup_X3_cutTo : GoodIn wsX1_closeGroup wsX3_cutTo := goodIn_r _ [18, 9, 19, 20, 21, 22, 23, 24, 25, 36, 37] (by decide +kernel) (by decide +kernel)
set_option maxRecDepth 20000 in
theorem gX1_closeGroup_X3_cutTo : GoodIn wsX1_closeGroup (wsV RX1 79 RX3 yX3_cutTo wsX3_cutTo) := goodIn_app (goodIn_of _ (by decide +kernel)) ggX1_closeGroup_X3_cutTo
set_option maxRecDepth 20000 in
theorem ggX1_closeGroup_X1_hasRoom : GoodIn wsX1_closeGroup wsX1_hasRoom := goodIn_r _ [30, 31, 2, 32, 33, 34, 35, 36, 37] (by decide +kernel) (by decide +kernel)
set_option maxRecDepth 20000 in
theorem gX1_closeGroup_X1_hasRoom : GoodIn wsX1_closeGroup (wsV RX1 82 RX1 yX1_hasRoom wsX1_hasRoom) := goodIn_app (goodIn_of _ (by decide +kernel)) ggX1_closeGroup_X1_hasRoom
theorem dX1_closeGroup_0 : decode cX1_closeGroup 0 = .ok (.aload_n 0, 1) := by decide +kernel
theorem dX1_closeGroup_1 : decode cX1_closeGroup 1 = .ok (.getfield 20, 3) := by decide +kernel
theorem dX1_closeGroup_4 : decode cX1_closeGroup 4 = .ok (.getfield 38, 3) := by decide +kernel
theorem dX1_closeGroup_7 : decode cX1_closeGroup 7 = .ok (.ifCond .ne 5, 3) := by decide +kernel
theorem dX1_closeGroup_10 : decode cX1_closeGroup 10 = .ok (.iconst 2, 1) := by decide +kernel
theorem dX1_closeGroup_11 : decode cX1_closeGroup 11 = .ok (.ireturn, 1) := by decide +kernel
theorem dX1_closeGroup_12 : decode cX1_closeGroup 12 = .ok (.aload_n 0, 1) := by decide +kernel
theorem dX1_closeGroup_13 : decode cX1_closeGroup 13 = .ok (.aload_n 0, 1) := by decide +kernel
theorem dX1_closeGroup_14 : decode cX1_closeGroup 14 = .ok (.getfield 26, 3) := by decide +kernel
theorem dX1_closeGroup_17 : decode cX1_closeGroup 17 = .ok (.putfield 30, 3) := by decide +kernel
theorem dX1_closeGroup_20 : decode cX1_closeGroup 20 = .ok (.aload_n 0, 1) := by decide +kernel
theorem dX1_closeGroup_21 : decode cX1_closeGroup 21 = .ok (.aload_n 0, 1) := by decide +kernel
theorem dX1_closeGroup_22 : decode cX1_closeGroup 22 = .ok (.getfield 20, 3) := by decide +kernel
theorem dX1_closeGroup_25 : decode cX1_closeGroup 25 = .ok (.invokevirtual 76, 3) := by decide +kernel
theorem dX1_closeGroup_28 : decode cX1_closeGroup 28 = .ok (.putfield 26, 3) := by decide +kernel
theorem dX1_closeGroup_31 : decode cX1_closeGroup 31 = .ok (.aload_n 0, 1) := by decide +kernel
theorem dX1_closeGroup_32 : decode cX1_closeGroup 32 = .ok (.getfield 20, 3) := by decide +kernel
theorem dX1_closeGroup_35 : decode cX1_closeGroup 35 = .ok (.aload_n 0, 1) := by decide +kernel
theorem dX1_closeGroup_36 : decode cX1_closeGroup 36 = .ok (.getfield 20, 3) := by decide +kernel
theorem dX1_closeGroup_39 : decode cX1_closeGroup 39 = .ok (.getfield 38, 3) := by decide +kernel
theorem dX1_closeGroup_42 : decode cX1_closeGroup 42 = .ok (.iconst 1, 1) := by decide +kernel
theorem dX1_closeGroup_43 : decode cX1_closeGroup 43 = .ok (.isub, 1) := by decide +kernel
theorem dX1_closeGroup_44 : decode cX1_closeGroup 44 = .ok (.invokevirtual 79, 3) := by decide +kernel
theorem dX1_closeGroup_47 : decode cX1_closeGroup 47 = .ok (.aload_n 0, 1) := by decide +kernel
theorem dX1_closeGroup_48 : decode cX1_closeGroup 48 = .ok (.iconst 0, 1) := by decide +kernel
theorem dX1_closeGroup_49 : decode cX1_closeGroup 49 = .ok (.invokevirtual 82, 3) := by decide +kernel
theorem dX1_closeGroup_52 : decode cX1_closeGroup 52 = .ok (.ifCond .eq 7, 3) := by decide +kernel
theorem dX1_closeGroup_55 : decode cX1_closeGroup 55 = .ok (.iconst 0, 1) := by decide +kernel
theorem dX1_closeGroup_56 : decode cX1_closeGroup 56 = .ok (.goto 4, 3) := by decide +kernel
theorem dX1_closeGroup_59 : decode cX1_closeGroup 59 = .ok (.iconst 5, 1) := by decide +kernel
theorem dX1_closeGroup_60 : decode cX1_closeGroup 60 = .ok (.ireturn, 1) := by decide +kernel
set_option maxRecDepth 20000 in
theorem ggX1_addNumber_X1_hasRoom : GoodIn wsX1_addNumber wsX1_hasRoom := goodIn_r _ [6, 1, 7, 20, 21, 22, 23, 24, 25] (by decide +kernel) (by decide +kernel)
set_option maxRecDepth 20000 in
theorem gX1_addNumber_X1_hasRoom : GoodIn wsX1_addNumber (wsV RX1 82 RX1 yX1_hasRoom wsX1_hasRoom) := goodIn_app (goodIn_of _ (by decide +kernel)) ggX1_addNumber_X1_hasRoom
set_option maxRecDepth 20000 in
theorem ggX1_addNumber_X1_beginItem : GoodIn wsX1_addNumber wsX1_beginItem := goodIn_r _ [11, 1, 12, 20, 21, 22, 23, 24, 25] (by decide +kernel) (by decide +kernel)
set_option maxRecDepth 20000 in
theorem gX1_addNumber_X1_beginItem : GoodIn wsX1_addNumber (wsV RX1 86 RX1 yX1_beginItem wsX1_beginItem) := goodIn_app (goodIn_of _ (by decide +kernel)) ggX1_addNumber_X1_beginItem
set_option maxRecDepth 20000 in
theorem ggX1_addNumber_X3_add : GoodIn wsX1_addNumber wsX3_add := goodIn_r _ [17, 18, 19, 24, 25] (by decide +kernel) (by decide +kernel)
set_option maxRecDepth 20000 in
theorem gX1_addNumber_X3_add : GoodIn wsX1_addNumber (wsV RX1 73 RX3 yX3_add wsX3_add) := goodIn_app (goodIn_of _ (by decide +kernel)) ggX1_addNumber_X3_add
theorem dX1_addNumber_0 : decode cX1_addNumber 0 = .ok (.aload_n 0, 1) := by decide +kernel
theorem dX1_addNumber_1 : decode cX1_addNumber 1 = .ok (.iconst 1, 1) := by decide +kernel
theorem dX1_addNumber_2 : decode cX1_addNumber 2 = .ok (.invokevirtual 82, 3) := by decide +kernel
theorem dX1_addNumber_5 : decode cX1_addNumber 5 = .ok (.ifCond .ne 5, 3) := by decide +kernel
theorem dX1_addNumber_8 : decode cX1_addNumber 8 = .ok (.iconst 5, 1) := by decide +kernel
theorem dX1_addNumber_9 : decode cX1_addNumber 9 = .ok (.ireturn, 1) := by decide +kernel
theorem dX1_addNumber_10 : decode cX1_addNumber 10 = .ok (.aload_n 0, 1) := by decide +kernel
theorem dX1_addNumber_11 : decode cX1_addNumber 11 = .ok (.invokevirtual 86, 3) := by decide +kernel
theorem dX1_addNumber_14 : decode cX1_addNumber 14 = .ok (.aload_n 0, 1) := by decide +kernel
theorem dX1_addNumber_15 : decode cX1_addNumber 15 = .ok (.getfield 16, 3) := by decide +kernel
theorem dX1_addNumber_18 : decode cX1_addNumber 18 = .ok (.iload_n 1, 1) := by decide +kernel
theorem dX1_addNumber_19 : decode cX1_addNumber 19 = .ok (.invokevirtual 73, 3) := by decide +kernel
theorem dX1_addNumber_22 : decode cX1_addNumber 22 = .ok (.iconst 0, 1) := by decide +kernel
theorem dX1_addNumber_23 : decode cX1_addNumber 23 = .ok (.ireturn, 1) := by decide +kernel
set_option maxRecDepth 20000 in
theorem ggX1_addBlock_X1_hasRoom : GoodIn wsX1_addBlock wsX1_hasRoom := goodIn_r _ [6, 1, 7, 34, 35, 36, 37, 32, 33] (by decide +kernel) (by decide +kernel)
set_option maxRecDepth 20000 in
theorem gX1_addBlock_X1_hasRoom : GoodIn wsX1_addBlock (wsV RX1 82 RX1 yX1_hasRoom wsX1_hasRoom) := goodIn_app (goodIn_of _ (by decide +kernel)) ggX1_addBlock_X1_hasRoom
set_option maxRecDepth 20000 in
theorem ggX1_addBlock_X1_beginItem : GoodIn wsX1_addBlock wsX1_beginItem := goodIn_r _ [11, 1, 12, 34, 35, 36, 37, 32, 33] (by decide +kernel) (by decide +kernel)
set_option maxRecDepth 20000 in
theorem gX1_addBlock_X1_beginItem : GoodIn wsX1_addBlock (wsV RX1 86 RX1 yX1_beginItem wsX1_beginItem) := goodIn_app (goodIn_of _ (by decide +kernel)) ggX1_addBlock_X1_beginItem
set_option maxRecDepth 20000 in
theorem ggX1_addBlock_X3_addAll : GoodIn wsX1_addBlock wsX3_addAll := goodIn_r _ [17, 18, 19, 20, 21, 16, 22, 23, 24, 25, 26, 27, 32, 33] (by decide +kernel) (by decide +kernel)
set_option maxRecDepth 20000 in
theorem gX1_addBlock_X3_addAll : GoodIn wsX1_addBlock (wsV RX1 93 RX3 yX3_addAll wsX3_addAll) := goodIn_app (goodIn_of _ (by decide +kernel)) ggX1_addBlock_X3_addAll
theorem dX1_addBlock_0 : decode cX1_addBlock 0 = .ok (.iload_n 3, 1) := by decide +kernel
theorem dX1_addBlock_1 : decode cX1_addBlock 1 = .ok (.ifCond .lt 9, 3) := by decide +kernel
theorem dX1_addBlock_4 : decode cX1_addBlock 4 = .ok (.iload_n 3, 1) := by decide +kernel
theorem dX1_addBlock_5 : decode cX1_addBlock 5 = .ok (.aload_n 1, 1) := by decide +kernel
theorem dX1_addBlock_6 : decode cX1_addBlock 6 = .ok (.arraylength, 1) := by decide +kernel
theorem dX1_addBlock_7 : decode cX1_addBlock 7 = .ok (.if_icmp .lt 7, 3) := by decide +kernel
theorem dX1_addBlock_10 : decode cX1_addBlock 10 = .ok (.iconst 1, 1) := by decide +kernel
theorem dX1_addBlock_11 : decode cX1_addBlock 11 = .ok (.goto 4, 3) := by decide +kernel
theorem dX1_addBlock_14 : decode cX1_addBlock 14 = .ok (.iconst 0, 1) := by decide +kernel
theorem dX1_addBlock_15 : decode cX1_addBlock 15 = .ok (.istore 4, 2) := by decide +kernel
theorem dX1_addBlock_17 : decode cX1_addBlock 17 = .ok (.iload 4, 2) := by decide +kernel
theorem dX1_addBlock_19 : decode cX1_addBlock 19 = .ok (.ifCond .ne 13, 3) := by decide +kernel
theorem dX1_addBlock_22 : decode cX1_addBlock 22 = .ok (.iload_n 2, 1) := by decide +kernel
theorem dX1_addBlock_23 : decode cX1_addBlock 23 = .ok (.iconst 4, 1) := by decide +kernel
theorem dX1_addBlock_24 : decode cX1_addBlock 24 = .ok (.if_icmp .lt 10, 3) := by decide +kernel
theorem dX1_addBlock_27 : decode cX1_addBlock 27 = .ok (.iload_n 3, 1) := by decide +kernel
theorem dX1_addBlock_28 : decode cX1_addBlock 28 = .ok (.iload_n 2, 1) := by decide +kernel
theorem dX1_addBlock_29 : decode cX1_addBlock 29 = .ok (.if_icmp .lt 5, 3) := by decide +kernel
theorem dX1_addBlock_32 : decode cX1_addBlock 32 = .ok (.iconst 4, 1) := by decide +kernel
theorem dX1_addBlock_33 : decode cX1_addBlock 33 = .ok (.ireturn, 1) := by decide +kernel
theorem dX1_addBlock_34 : decode cX1_addBlock 34 = .ok (.aload_n 1, 1) := by decide +kernel
theorem dX1_addBlock_35 : decode cX1_addBlock 35 = .ok (.iload_n 3, 1) := by decide +kernel
theorem dX1_addBlock_36 : decode cX1_addBlock 36 = .ok (.aaload, 1) := by decide +kernel
theorem dX1_addBlock_37 : decode cX1_addBlock 37 = .ok (.astore 5, 2) := by decide +kernel
theorem dX1_addBlock_39 : decode cX1_addBlock 39 = .ok (.aload 5, 2) := by decide +kernel
theorem dX1_addBlock_41 : decode cX1_addBlock 41 = .ok (.getfield 89, 3) := by decide +kernel
theorem dX1_addBlock_44 : decode cX1_addBlock 44 = .ok (.ifCond .eq 6, 3) := by decide +kernel
theorem dX1_addBlock_47 : decode cX1_addBlock 47 = .ok (.bipush 6, 2) := by decide +kernel
theorem dX1_addBlock_49 : decode cX1_addBlock 49 = .ok (.ireturn, 1) := by decide +kernel
theorem dX1_addBlock_50 : decode cX1_addBlock 50 = .ok (.aload_n 0, 1) := by decide +kernel
theorem dX1_addBlock_51 : decode cX1_addBlock 51 = .ok (.aload 5, 2) := by decide +kernel
theorem dX1_addBlock_53 : decode cX1_addBlock 53 = .ok (.getfield 92, 3) := by decide +kernel
theorem dX1_addBlock_56 : decode cX1_addBlock 56 = .ok (.getfield 38, 3) := by decide +kernel
theorem dX1_addBlock_59 : decode cX1_addBlock 59 = .ok (.invokevirtual 82, 3) := by decide +kernel
theorem dX1_addBlock_62 : decode cX1_addBlock 62 = .ok (.ifCond .ne 5, 3) := by decide +kernel
theorem dX1_addBlock_65 : decode cX1_addBlock 65 = .ok (.iconst 5, 1) := by decide +kernel
theorem dX1_addBlock_66 : decode cX1_addBlock 66 = .ok (.ireturn, 1) := by decide +kernel
theorem dX1_addBlock_67 : decode cX1_addBlock 67 = .ok (.aload_n 0, 1) := by decide +kernel
theorem dX1_addBlock_68 : decode cX1_addBlock 68 = .ok (.invokevirtual 86, 3) := by decide +kernel
theorem dX1_addBlock_71 : decode cX1_addBlock 71 = .ok (.aload_n 0, 1) := by decide +kernel
theorem dX1_addBlock_72 : decode cX1_addBlock 72 = .ok (.getfield 16, 3) := by decide +kernel
theorem dX1_addBlock_75 : decode cX1_addBlock 75 = .ok (.aload 5, 2) := by decide +kernel
theorem dX1_addBlock_77 : decode cX1_addBlock 77 = .ok (.getfield 92, 3) := by decide +kernel
theorem dX1_addBlock_80 : decode cX1_addBlock 80 = .ok (.invokevirtual 93, 3) := by decide +kernel
theorem dX1_addBlock_83 : decode cX1_addBlock 83 = .ok (.iconst 0, 1) := by decide +kernel
theorem dX1_addBlock_84 : decode cX1_addBlock 84 = .ok (.ireturn, 1) := by decide +kernel
set_option maxRecDepth 20000 in
theorem ggX1_changeItem_X3_turnFrom : GoodIn wsX1_changeItem wsX3_turnFrom := goodIn_r _ [7, 8, 9, 10, 11, 6, 12, 13, 14, 15, 16, 17, 54, 55] (by decide +kernel) (by decide +kernel)
set_option maxRecDepth 20000 in
theorem gX1_changeItem_X3_turnFrom : GoodIn wsX1_changeItem (wsV RX1 96 RX3 yX3_turnFrom wsX3_turnFrom) := goodIn_app (goodIn_of _ (by decide +kernel)) ggX1_changeItem_X3_turnFrom
set_option maxRecDepth 20000 in
theorem ggX1_changeItem_X1_addMirror : GoodIn wsX1_changeItem wsX1_addMirror := goodIn_r _ [22, 2, 23, 24, 25, 26, 27, 28, 29, 30, 21, 31, 32, 33, 34, 35, 1, 36, 10, 11, 6, 12, 8, 13, 37, 38, 39, 40, 50, 51, 52, 53, 54, 55] (by decide +kernel) (by decide +kernel)
set_option maxRecDepth 20000 in
theorem gX1_changeItem_X1_addMirror : GoodIn wsX1_changeItem (wsV RX1 99 RX1 yX1_addMirror wsX1_addMirror) := goodIn_app (goodIn_of _ (by decide +kernel)) ggX1_changeItem_X1_addMirror
set_option maxRecDepth 20000 in
theorem ggX1_changeItem_X1_raiseItem : GoodIn wsX1_changeItem wsX1_raiseItem := goodIn_r _ [44, 1, 2, 36, 10, 11, 6, 12, 8, 13, 45, 15, 16, 17, 50, 51, 52, 53, 54, 55] (by decide +kernel) (by decide +kernel)
set_option maxRecDepth 20000 in
theorem gX1_changeItem_X1_raiseItem : GoodIn wsX1_changeItem (wsV RX1 102 RX1 yX1_raiseItem wsX1_raiseItem) := goodIn_app (goodIn_of _ (by decide +kernel)) ggX1_changeItem_X1_raiseItem
set_option maxRecDepth 20000 in
theorem ggX1_changeItem_X1_repeatItem : GoodIn wsX1_changeItem wsX1_repeatItem := goodIn_r _ [49, 2, 1, 28, 29, 30, 21, 31, 23, 36, 10, 11, 6, 12, 8, 13, 37, 38, 39, 40, 50, 51, 52, 53, 54, 55] (by decide +kernel) (by decide +kernel)
set_option maxRecDepth 20000 in
theorem gX1_changeItem_X1_repeatItem : GoodIn wsX1_changeItem (wsV RX1 105 RX1 yX1_repeatItem wsX1_repeatItem) := goodIn_app (goodIn_of _ (by decide +kernel)) ggX1_changeItem_X1_repeatItem
theorem dX1_changeItem_0 : decode cX1_changeItem 0 = .ok (.aload_n 0, 1) := by decide +kernel
theorem dX1_changeItem_1 : decode cX1_changeItem 1 = .ok (.getfield 30, 3) := by decide +kernel
theorem dX1_changeItem_4 : decode cX1_changeItem 4 = .ok (.iconst (-1), 1) := by decide +kernel
theorem dX1_changeItem_5 : decode cX1_changeItem 5 = .ok (.if_icmp .ne 5, 3) := by decide +kernel
theorem dX1_changeItem_8 : decode cX1_changeItem 8 = .ok (.iconst 1, 1) := by decide +kernel
theorem dX1_changeItem_9 : decode cX1_changeItem 9 = .ok (.ireturn, 1) := by decide +kernel
theorem dX1_changeItem_10 : decode cX1_changeItem 10 = .ok (.iload_n 1, 1) := by decide +kernel
theorem dX1_changeItem_11 : decode cX1_changeItem 11 = .ok (.tableswitch 61 30 33 #[29, 42, 47, 54], 29) := by decide +kernel
theorem dX1_changeItem_40 : decode cX1_changeItem 40 = .ok (.aload_n 0, 1) := by decide +kernel
theorem dX1_changeItem_41 : decode cX1_changeItem 41 = .ok (.getfield 16, 3) := by decide +kernel
theorem dX1_changeItem_44 : decode cX1_changeItem 44 = .ok (.aload_n 0, 1) := by decide +kernel
theorem dX1_changeItem_45 : decode cX1_changeItem 45 = .ok (.getfield 30, 3) := by decide +kernel
theorem dX1_changeItem_48 : decode cX1_changeItem 48 = .ok (.invokevirtual 96, 3) := by decide +kernel
theorem dX1_changeItem_51 : decode cX1_changeItem 51 = .ok (.iconst 0, 1) := by decide +kernel
theorem dX1_changeItem_52 : decode cX1_changeItem 52 = .ok (.ireturn, 1) := by decide +kernel
theorem dX1_changeItem_53 : decode cX1_changeItem 53 = .ok (.aload_n 0, 1) := by decide +kernel
theorem dX1_changeItem_54 : decode cX1_changeItem 54 = .ok (.invokevirtual 99, 3) := by decide +kernel
theorem dX1_changeItem_57 : decode cX1_changeItem 57 = .ok (.ireturn, 1) := by decide +kernel
theorem dX1_changeItem_58 : decode cX1_changeItem 58 = .ok (.aload_n 0, 1) := by decide +kernel
theorem dX1_changeItem_59 : decode cX1_changeItem 59 = .ok (.iconst 1, 1) := by decide +kernel
theorem dX1_changeItem_60 : decode cX1_changeItem 60 = .ok (.invokevirtual 102, 3) := by decide +kernel
theorem dX1_changeItem_63 : decode cX1_changeItem 63 = .ok (.iconst 0, 1) := by decide +kernel
theorem dX1_changeItem_64 : decode cX1_changeItem 64 = .ok (.ireturn, 1) := by decide +kernel
theorem dX1_changeItem_65 : decode cX1_changeItem 65 = .ok (.aload_n 0, 1) := by decide +kernel
theorem dX1_changeItem_66 : decode cX1_changeItem 66 = .ok (.iconst (-1), 1) := by decide +kernel
theorem dX1_changeItem_67 : decode cX1_changeItem 67 = .ok (.invokevirtual 102, 3) := by decide +kernel
theorem dX1_changeItem_70 : decode cX1_changeItem 70 = .ok (.iconst 0, 1) := by decide +kernel
theorem dX1_changeItem_71 : decode cX1_changeItem 71 = .ok (.ireturn, 1) := by decide +kernel
theorem dX1_changeItem_72 : decode cX1_changeItem 72 = .ok (.aload_n 0, 1) := by decide +kernel
theorem dX1_changeItem_73 : decode cX1_changeItem 73 = .ok (.iload_n 1, 1) := by decide +kernel
theorem dX1_changeItem_74 : decode cX1_changeItem 74 = .ok (.bipush 22, 2) := by decide +kernel
theorem dX1_changeItem_76 : decode cX1_changeItem 76 = .ok (.isub, 1) := by decide +kernel
theorem dX1_changeItem_77 : decode cX1_changeItem 77 = .ok (.iconst 1, 1) := by decide +kernel
theorem dX1_changeItem_78 : decode cX1_changeItem 78 = .ok (.iadd, 1) := by decide +kernel
theorem dX1_changeItem_79 : decode cX1_changeItem 79 = .ok (.invokevirtual 105, 3) := by decide +kernel
theorem dX1_changeItem_82 : decode cX1_changeItem 82 = .ok (.ireturn, 1) := by decide +kernel
set_option maxRecDepth 20000 in
theorem ggX1_repeatItem_X1_hasRoom : GoodIn wsX1_repeatItem wsX1_hasRoom := goodIn_r _ [7, 1, 8, 20, 21, 22, 23, 24, 25] (by decide +kernel) (by decide +kernel)
set_option maxRecDepth 20000 in
theorem gX1_repeatItem_X1_hasRoom : GoodIn wsX1_repeatItem (wsV RX1 82 RX1 yX1_hasRoom wsX1_hasRoom) := goodIn_app (goodIn_of _ (by decide +kernel)) ggX1_repeatItem_X1_hasRoom
set_option maxRecDepth 20000 in
theorem ggX1_repeatItem_X3_at : GoodIn wsX1_repeatItem wsX3_at := goodIn_r _ [13, 14, 15, 24, 25] (by decide +kernel) (by decide +kernel)
set_option maxRecDepth 20000 in
theorem gX1_repeatItem_X3_at : GoodIn wsX1_repeatItem (wsV RX1 41 RX3 yX3_at wsX3_at) := goodIn_app (goodIn_of _ (by decide +kernel)) ggX1_repeatItem_X3_at
set_option maxRecDepth 20000 in
theorem ggX1_repeatItem_X3_add : GoodIn wsX1_repeatItem wsX3_add := goodIn_r _ [19, 14, 15, 24, 25] (by decide +kernel) (by decide +kernel)
set_option maxRecDepth 20000 in
theorem gX1_repeatItem_X3_add : GoodIn wsX1_repeatItem (wsV RX1 73 RX3 yX3_add wsX3_add) := goodIn_app (goodIn_of _ (by decide +kernel)) ggX1_repeatItem_X3_add
theorem dX1_repeatItem_0 : decode cX1_repeatItem 0 = .ok (.aload_n 0, 1) := by decide +kernel
theorem dX1_repeatItem_1 : decode cX1_repeatItem 1 = .ok (.getfield 16, 3) := by decide +kernel
theorem dX1_repeatItem_4 : decode cX1_repeatItem 4 = .ok (.getfield 38, 3) := by decide +kernel
theorem dX1_repeatItem_7 : decode cX1_repeatItem 7 = .ok (.aload_n 0, 1) := by decide +kernel
theorem dX1_repeatItem_8 : decode cX1_repeatItem 8 = .ok (.getfield 30, 3) := by decide +kernel
theorem dX1_repeatItem_11 : decode cX1_repeatItem 11 = .ok (.isub, 1) := by decide +kernel
theorem dX1_repeatItem_12 : decode cX1_repeatItem 12 = .ok (.iload_n 1, 1) := by decide +kernel
theorem dX1_repeatItem_13 : decode cX1_repeatItem 13 = .ok (.imul, 1) := by decide +kernel
theorem dX1_repeatItem_14 : decode cX1_repeatItem 14 = .ok (.istore_n 2, 1) := by decide +kernel
theorem dX1_repeatItem_15 : decode cX1_repeatItem 15 = .ok (.aload_n 0, 1) := by decide +kernel
theorem dX1_repeatItem_16 : decode cX1_repeatItem 16 = .ok (.iload_n 2, 1) := by decide +kernel
theorem dX1_repeatItem_17 : decode cX1_repeatItem 17 = .ok (.invokevirtual 82, 3) := by decide +kernel
theorem dX1_repeatItem_20 : decode cX1_repeatItem 20 = .ok (.ifCond .ne 5, 3) := by decide +kernel
theorem dX1_repeatItem_23 : decode cX1_repeatItem 23 = .ok (.iconst 5, 1) := by decide +kernel
theorem dX1_repeatItem_24 : decode cX1_repeatItem 24 = .ok (.ireturn, 1) := by decide +kernel
theorem dX1_repeatItem_25 : decode cX1_repeatItem 25 = .ok (.iconst 0, 1) := by decide +kernel
theorem dX1_repeatItem_26 : decode cX1_repeatItem 26 = .ok (.istore_n 3, 1) := by decide +kernel
theorem dX1_repeatItem_27 : decode cX1_repeatItem 27 = .ok (.iload_n 3, 1) := by decide +kernel
theorem dX1_repeatItem_28 : decode cX1_repeatItem 28 = .ok (.iload_n 2, 1) := by decide +kernel
theorem dX1_repeatItem_29 : decode cX1_repeatItem 29 = .ok (.if_icmp .ge 29, 3) := by decide +kernel
theorem dX1_repeatItem_32 : decode cX1_repeatItem 32 = .ok (.aload_n 0, 1) := by decide +kernel
theorem dX1_repeatItem_33 : decode cX1_repeatItem 33 = .ok (.getfield 16, 3) := by decide +kernel
theorem dX1_repeatItem_36 : decode cX1_repeatItem 36 = .ok (.aload_n 0, 1) := by decide +kernel
theorem dX1_repeatItem_37 : decode cX1_repeatItem 37 = .ok (.getfield 16, 3) := by decide +kernel
theorem dX1_repeatItem_40 : decode cX1_repeatItem 40 = .ok (.aload_n 0, 1) := by decide +kernel
theorem dX1_repeatItem_41 : decode cX1_repeatItem 41 = .ok (.getfield 30, 3) := by decide +kernel
theorem dX1_repeatItem_44 : decode cX1_repeatItem 44 = .ok (.iload_n 3, 1) := by decide +kernel
theorem dX1_repeatItem_45 : decode cX1_repeatItem 45 = .ok (.iadd, 1) := by decide +kernel
theorem dX1_repeatItem_46 : decode cX1_repeatItem 46 = .ok (.invokevirtual 41, 3) := by decide +kernel
theorem dX1_repeatItem_49 : decode cX1_repeatItem 49 = .ok (.invokevirtual 73, 3) := by decide +kernel
theorem dX1_repeatItem_52 : decode cX1_repeatItem 52 = .ok (.iinc 3 1, 3) := by decide +kernel
theorem dX1_repeatItem_55 : decode cX1_repeatItem 55 = .ok (.goto (-28), 3) := by decide +kernel
theorem dX1_repeatItem_58 : decode cX1_repeatItem 58 = .ok (.iconst 0, 1) := by decide +kernel
theorem dX1_repeatItem_59 : decode cX1_repeatItem 59 = .ok (.ireturn, 1) := by decide +kernel
set_option maxRecDepth 20000 in
theorem ggX1_addMirror_X1_hasRoom : GoodIn wsX1_addMirror wsX1_hasRoom := goodIn_r _ [11, 1, 2, 28, 29, 30, 31, 32, 33] (by decide +kernel) (by decide +kernel)
set_option maxRecDepth 20000 in
theorem gX1_addMirror_X1_hasRoom : GoodIn wsX1_addMirror (wsV RX1 82 RX1 yX1_hasRoom wsX1_hasRoom) := goodIn_app (goodIn_of _ (by decide +kernel)) ggX1_addMirror_X1_hasRoom
set_option maxRecDepth 20000 in
theorem ggX1_addMirror_X1_beginItem : GoodIn wsX1_addMirror wsX1_beginItem := goodIn_r _ [15, 1, 16, 28, 29, 30, 31, 32, 33] (by decide +kernel) (by decide +kernel)
set_option maxRecDepth 20000 in
theorem gX1_addMirror_X1_beginItem : GoodIn wsX1_addMirror (wsV RX1 86 RX1 yX1_beginItem wsX1_beginItem) := goodIn_app (goodIn_of _ (by decide +kernel)) ggX1_addMirror_X1_beginItem
set_option maxRecDepth 20000 in
theorem ggX1_addMirror_X3_at : GoodIn wsX1_addMirror wsX3_at := goodIn_r _ [21, 22, 23, 32, 33] (by decide +kernel) (by decide +kernel)
set_option maxRecDepth 20000 in
theorem gX1_addMirror_X3_at : GoodIn wsX1_addMirror (wsV RX1 41 RX3 yX3_at wsX3_at) := goodIn_app (goodIn_of _ (by decide +kernel)) ggX1_addMirror_X3_at
set_option maxRecDepth 20000 in
theorem ggX1_addMirror_X3_add : GoodIn wsX1_addMirror wsX3_add := goodIn_r _ [27, 22, 23, 32, 33] (by decide +kernel) (by decide +kernel)
set_option maxRecDepth 20000 in
theorem gX1_addMirror_X3_add : GoodIn wsX1_addMirror (wsV RX1 73 RX3 yX3_add wsX3_add) := goodIn_app (goodIn_of _ (by decide +kernel)) ggX1_addMirror_X3_add
theorem dX1_addMirror_0 : decode cX1_addMirror 0 = .ok (.aload_n 0, 1) := by decide +kernel
theorem dX1_addMirror_1 : decode cX1_addMirror 1 = .ok (.getfield 16, 3) := by decide +kernel
theorem dX1_addMirror_4 : decode cX1_addMirror 4 = .ok (.getfield 38, 3) := by decide +kernel
theorem dX1_addMirror_7 : decode cX1_addMirror 7 = .ok (.iconst 2, 1) := by decide +kernel
theorem dX1_addMirror_8 : decode cX1_addMirror 8 = .ok (.isub, 1) := by decide +kernel
theorem dX1_addMirror_9 : decode cX1_addMirror 9 = .ok (.istore_n 1, 1) := by decide +kernel
theorem dX1_addMirror_10 : decode cX1_addMirror 10 = .ok (.aload_n 0, 1) := by decide +kernel
theorem dX1_addMirror_11 : decode cX1_addMirror 11 = .ok (.iconst 0, 1) := by decide +kernel
theorem dX1_addMirror_12 : decode cX1_addMirror 12 = .ok (.iload_n 1, 1) := by decide +kernel
theorem dX1_addMirror_13 : decode cX1_addMirror 13 = .ok (.aload_n 0, 1) := by decide +kernel
theorem dX1_addMirror_14 : decode cX1_addMirror 14 = .ok (.getfield 26, 3) := by decide +kernel
theorem dX1_addMirror_17 : decode cX1_addMirror 17 = .ok (.isub, 1) := by decide +kernel
theorem dX1_addMirror_18 : decode cX1_addMirror 18 = .ok (.invokestatic 108, 3) := by decide +kernel
theorem dX1_addMirror_21 : decode cX1_addMirror 21 = .ok (.invokevirtual 82, 3) := by decide +kernel
theorem dX1_addMirror_24 : decode cX1_addMirror 24 = .ok (.ifCond .ne 5, 3) := by decide +kernel
theorem dX1_addMirror_27 : decode cX1_addMirror 27 = .ok (.iconst 5, 1) := by decide +kernel
theorem dX1_addMirror_28 : decode cX1_addMirror 28 = .ok (.ireturn, 1) := by decide +kernel
theorem dX1_addMirror_29 : decode cX1_addMirror 29 = .ok (.aload_n 0, 1) := by decide +kernel
theorem dX1_addMirror_30 : decode cX1_addMirror 30 = .ok (.invokevirtual 86, 3) := by decide +kernel
theorem dX1_addMirror_33 : decode cX1_addMirror 33 = .ok (.iload_n 1, 1) := by decide +kernel
theorem dX1_addMirror_34 : decode cX1_addMirror 34 = .ok (.istore_n 2, 1) := by decide +kernel
theorem dX1_addMirror_35 : decode cX1_addMirror 35 = .ok (.iload_n 2, 1) := by decide +kernel
theorem dX1_addMirror_36 : decode cX1_addMirror 36 = .ok (.aload_n 0, 1) := by decide +kernel
theorem dX1_addMirror_37 : decode cX1_addMirror 37 = .ok (.getfield 26, 3) := by decide +kernel
theorem dX1_addMirror_40 : decode cX1_addMirror 40 = .ok (.if_icmp .le 24, 3) := by decide +kernel
theorem dX1_addMirror_43 : decode cX1_addMirror 43 = .ok (.aload_n 0, 1) := by decide +kernel
theorem dX1_addMirror_44 : decode cX1_addMirror 44 = .ok (.getfield 16, 3) := by decide +kernel
theorem dX1_addMirror_47 : decode cX1_addMirror 47 = .ok (.aload_n 0, 1) := by decide +kernel
theorem dX1_addMirror_48 : decode cX1_addMirror 48 = .ok (.getfield 16, 3) := by decide +kernel
theorem dX1_addMirror_51 : decode cX1_addMirror 51 = .ok (.iload_n 2, 1) := by decide +kernel
theorem dX1_addMirror_52 : decode cX1_addMirror 52 = .ok (.invokevirtual 41, 3) := by decide +kernel
theorem dX1_addMirror_55 : decode cX1_addMirror 55 = .ok (.invokevirtual 73, 3) := by decide +kernel
theorem dX1_addMirror_58 : decode cX1_addMirror 58 = .ok (.iinc 2 (-1), 3) := by decide +kernel
theorem dX1_addMirror_61 : decode cX1_addMirror 61 = .ok (.goto (-26), 3) := by decide +kernel
theorem dX1_addMirror_64 : decode cX1_addMirror 64 = .ok (.iconst 0, 1) := by decide +kernel
theorem dX1_addMirror_65 : decode cX1_addMirror 65 = .ok (.ireturn, 1) := by decide +kernel
set_option maxRecDepth 20000 in
theorem ggX1_raiseItem_X3_at : GoodIn wsX1_raiseItem wsX3_at := goodIn_r _ [7, 8, 9, 18, 19] (by decide +kernel) (by decide +kernel)
set_option maxRecDepth 20000 in
theorem gX1_raiseItem_X3_at : GoodIn wsX1_raiseItem (wsV RX1 41 RX3 yX3_at wsX3_at) := goodIn_app (goodIn_of _ (by decide +kernel)) ggX1_raiseItem_X3_at
set_option maxRecDepth 20000 in
theorem ggX1_raiseItem_X3_put : GoodIn wsX1_raiseItem wsX3_put := goodIn_r _ [13, 8, 9, 18, 19] (by decide +kernel) (by decide +kernel)
set_option maxRecDepth 20000 in
theorem gX1_raiseItem_X3_put : GoodIn wsX1_raiseItem (wsV RX1 114 RX3 yX3_put wsX3_put) := goodIn_app (goodIn_of _ (by decide +kernel)) ggX1_raiseItem_X3_put
theorem dX1_raiseItem_0 : decode cX1_raiseItem 0 = .ok (.aload_n 0, 1) := by decide +kernel
theorem dX1_raiseItem_1 : decode cX1_raiseItem 1 = .ok (.getfield 30, 3) := by decide +kernel
theorem dX1_raiseItem_4 : decode cX1_raiseItem 4 = .ok (.istore_n 2, 1) := by decide +kernel
theorem dX1_raiseItem_5 : decode cX1_raiseItem 5 = .ok (.iload_n 2, 1) := by decide +kernel
theorem dX1_raiseItem_6 : decode cX1_raiseItem 6 = .ok (.aload_n 0, 1) := by decide +kernel
theorem dX1_raiseItem_7 : decode cX1_raiseItem 7 = .ok (.getfield 16, 3) := by decide +kernel
theorem dX1_raiseItem_10 : decode cX1_raiseItem 10 = .ok (.getfield 38, 3) := by decide +kernel
theorem dX1_raiseItem_13 : decode cX1_raiseItem 13 = .ok (.if_icmp .ge 30, 3) := by decide +kernel
theorem dX1_raiseItem_16 : decode cX1_raiseItem 16 = .ok (.aload_n 0, 1) := by decide +kernel
theorem dX1_raiseItem_17 : decode cX1_raiseItem 17 = .ok (.getfield 16, 3) := by decide +kernel
theorem dX1_raiseItem_20 : decode cX1_raiseItem 20 = .ok (.iload_n 2, 1) := by decide +kernel
theorem dX1_raiseItem_21 : decode cX1_raiseItem 21 = .ok (.aload_n 0, 1) := by decide +kernel
theorem dX1_raiseItem_22 : decode cX1_raiseItem 22 = .ok (.getfield 16, 3) := by decide +kernel
theorem dX1_raiseItem_25 : decode cX1_raiseItem 25 = .ok (.iload_n 2, 1) := by decide +kernel
theorem dX1_raiseItem_26 : decode cX1_raiseItem 26 = .ok (.invokevirtual 41, 3) := by decide +kernel
theorem dX1_raiseItem_29 : decode cX1_raiseItem 29 = .ok (.iload_n 1, 1) := by decide +kernel
theorem dX1_raiseItem_30 : decode cX1_raiseItem 30 = .ok (.iadd, 1) := by decide +kernel
theorem dX1_raiseItem_31 : decode cX1_raiseItem 31 = .ok (.bipush 7, 2) := by decide +kernel
theorem dX1_raiseItem_33 : decode cX1_raiseItem 33 = .ok (.iand, 1) := by decide +kernel
theorem dX1_raiseItem_34 : decode cX1_raiseItem 34 = .ok (.invokevirtual 114, 3) := by decide +kernel
theorem dX1_raiseItem_37 : decode cX1_raiseItem 37 = .ok (.iinc 2 1, 3) := by decide +kernel
theorem dX1_raiseItem_40 : decode cX1_raiseItem 40 = .ok (.goto (-35), 3) := by decide +kernel
theorem dX1_raiseItem_43 : decode cX1_raiseItem 43 = .ok (.return_, 1) := by decide +kernel
set_option maxRecDepth 20000 in
theorem ggX2_init_X3_init : GoodIn wsX2_init wsX3_init := goodIn_r _ [13, 14, 2, 3, 15, 16, 17, 18, 19, 20, 21, 22] (by decide +kernel) (by decide +kernel)
set_option maxRecDepth 20000 in
theorem gX2_init_X3_init : GoodIn wsX2_init (wsX3_init) := ggX2_init_X3_init
theorem dX2_init_0 : decode cX2_init 0 = .ok (.aload_n 0, 1) := by decide +kernel
theorem dX2_init_1 : decode cX2_init 1 = .ok (.invokespecial 3, 3) := by decide +kernel
theorem dX2_init_4 : decode cX2_init 4 = .ok (.aload_n 0, 1) := by decide +kernel
theorem dX2_init_5 : decode cX2_init 5 = .ok (.new 9, 3) := by decide +kernel
theorem dX2_init_8 : decode cX2_init 8 = .ok (.dup, 1) := by decide +kernel
theorem dX2_init_9 : decode cX2_init 9 = .ok (.bipush 40, 2) := by decide +kernel
theorem dX2_init_11 : decode cX2_init 11 = .ok (.invokespecial 11, 3) := by decide +kernel
theorem dX2_init_14 : decode cX2_init 14 = .ok (.putfield 14, 3) := by decide +kernel
theorem dX2_init_17 : decode cX2_init 17 = .ok (.aload_n 0, 1) := by decide +kernel
theorem dX2_init_18 : decode cX2_init 18 = .ok (.new 9, 3) := by decide +kernel
theorem dX2_init_21 : decode cX2_init 21 = .ok (.dup, 1) := by decide +kernel
theorem dX2_init_22 : decode cX2_init 22 = .ok (.bipush 32, 2) := by decide +kernel
theorem dX2_init_24 : decode cX2_init 24 = .ok (.invokespecial 11, 3) := by decide +kernel
theorem dX2_init_27 : decode cX2_init 27 = .ok (.putfield 20, 3) := by decide +kernel
theorem dX2_init_30 : decode cX2_init 30 = .ok (.aload_n 0, 1) := by decide +kernel
theorem dX2_init_31 : decode cX2_init 31 = .ok (.iconst 0, 1) := by decide +kernel
theorem dX2_init_32 : decode cX2_init 32 = .ok (.putfield 23, 3) := by decide +kernel
theorem dX2_init_35 : decode cX2_init 35 = .ok (.aload_n 0, 1) := by decide +kernel
theorem dX2_init_36 : decode cX2_init 36 = .ok (.iconst (-1), 1) := by decide +kernel
theorem dX2_init_37 : decode cX2_init 37 = .ok (.putfield 27, 3) := by decide +kernel
theorem dX2_init_40 : decode cX2_init 40 = .ok (.return_, 1) := by decide +kernel
set_option maxRecDepth 20000 in
theorem ggX2_accept_X3_copyFrom : GoodIn wsX2_accept wsX3_copyFrom := goodIn_r _ [8, 9, 10, 11, 7, 12, 13, 14, 15, 16, 17, 18, 19, 20, 21, 22, 23, 24, 25, 26, 31, 32] (by decide +kernel) (by decide +kernel)
set_option maxRecDepth 20000 in
theorem gX2_accept_X3_copyFrom : GoodIn wsX2_accept (wsV RX2 30 RX3 yX3_copyFrom wsX3_copyFrom) := goodIn_app (goodIn_of _ (by decide +kernel)) ggX2_accept_X3_copyFrom
theorem dX2_accept_0 : decode cX2_accept 0 = .ok (.aload_n 0, 1) := by decide +kernel
theorem dX2_accept_1 : decode cX2_accept 1 = .ok (.getfield 20, 3) := by decide +kernel
theorem dX2_accept_4 : decode cX2_accept 4 = .ok (.aload_n 1, 1) := by decide +kernel
theorem dX2_accept_5 : decode cX2_accept 5 = .ok (.invokevirtual 30, 3) := by decide +kernel
theorem dX2_accept_8 : decode cX2_accept 8 = .ok (.aload_n 0, 1) := by decide +kernel
theorem dX2_accept_9 : decode cX2_accept 9 = .ok (.iconst 0, 1) := by decide +kernel
theorem dX2_accept_10 : decode cX2_accept 10 = .ok (.putfield 23, 3) := by decide +kernel
theorem dX2_accept_13 : decode cX2_accept 13 = .ok (.aload_n 0, 1) := by decide +kernel
theorem dX2_accept_14 : decode cX2_accept 14 = .ok (.iconst (-1), 1) := by decide +kernel
theorem dX2_accept_15 : decode cX2_accept 15 = .ok (.putfield 27, 3) := by decide +kernel
theorem dX2_accept_18 : decode cX2_accept 18 = .ok (.return_, 1) := by decide +kernel
set_option maxRecDepth 20000 in
theorem ggX2_refuse_X3_clear : GoodIn wsX2_refuse wsX3_clear := goodIn_r _ [8, 9, 14, 15] (by decide +kernel) (by decide +kernel)
set_option maxRecDepth 20000 in
theorem gX2_refuse_X3_clear : GoodIn wsX2_refuse (wsV RX2 34 RX3 yX3_clear wsX3_clear) := goodIn_app (goodIn_of _ (by decide +kernel)) ggX2_refuse_X3_clear
theorem dX2_refuse_0 : decode cX2_refuse 0 = .ok (.aload_n 0, 1) := by decide +kernel
theorem dX2_refuse_1 : decode cX2_refuse 1 = .ok (.getfield 20, 3) := by decide +kernel
theorem dX2_refuse_4 : decode cX2_refuse 4 = .ok (.invokevirtual 34, 3) := by decide +kernel
theorem dX2_refuse_7 : decode cX2_refuse 7 = .ok (.aload_n 0, 1) := by decide +kernel
theorem dX2_refuse_8 : decode cX2_refuse 8 = .ok (.iload_n 1, 1) := by decide +kernel
theorem dX2_refuse_9 : decode cX2_refuse 9 = .ok (.putfield 23, 3) := by decide +kernel
theorem dX2_refuse_12 : decode cX2_refuse 12 = .ok (.aload_n 0, 1) := by decide +kernel
theorem dX2_refuse_13 : decode cX2_refuse 13 = .ok (.iload_n 2, 1) := by decide +kernel
theorem dX2_refuse_14 : decode cX2_refuse 14 = .ok (.putfield 27, 3) := by decide +kernel
theorem dX2_refuse_17 : decode cX2_refuse 17 = .ok (.return_, 1) := by decide +kernel
theorem dX3_init_0 : decode cX3_init 0 = .ok (.aload_n 0, 1) := by decide +kernel
theorem dX3_init_1 : decode cX3_init 1 = .ok (.invokespecial 1, 3) := by decide +kernel
theorem dX3_init_4 : decode cX3_init 4 = .ok (.aload_n 0, 1) := by decide +kernel
theorem dX3_init_5 : decode cX3_init 5 = .ok (.iload_n 1, 1) := by decide +kernel
theorem dX3_init_6 : decode cX3_init 6 = .ok (.iconst 0, 1) := by decide +kernel
theorem dX3_init_7 : decode cX3_init 7 = .ok (.invokestatic 7, 3) := by decide +kernel
theorem dX3_init_10 : decode cX3_init 10 = .ok (.newarray .int, 2) := by decide +kernel
theorem dX3_init_12 : decode cX3_init 12 = .ok (.putfield 13, 3) := by decide +kernel
theorem dX3_init_15 : decode cX3_init 15 = .ok (.return_, 1) := by decide +kernel
theorem dX3_at_0 : decode cX3_at 0 = .ok (.iload_n 1, 1) := by decide +kernel
theorem dX3_at_1 : decode cX3_at 1 = .ok (.ifCond .lt 29, 3) := by decide +kernel
theorem dX3_at_4 : decode cX3_at 4 = .ok (.iload_n 1, 1) := by decide +kernel
theorem dX3_at_5 : decode cX3_at 5 = .ok (.aload_n 0, 1) := by decide +kernel
theorem dX3_at_6 : decode cX3_at 6 = .ok (.getfield 19, 3) := by decide +kernel
theorem dX3_at_9 : decode cX3_at 9 = .ok (.if_icmp .ge 21, 3) := by decide +kernel
theorem dX3_at_12 : decode cX3_at 12 = .ok (.iload_n 1, 1) := by decide +kernel
theorem dX3_at_13 : decode cX3_at 13 = .ok (.aload_n 0, 1) := by decide +kernel
theorem dX3_at_14 : decode cX3_at 14 = .ok (.getfield 13, 3) := by decide +kernel
theorem dX3_at_17 : decode cX3_at 17 = .ok (.arraylength, 1) := by decide +kernel
theorem dX3_at_18 : decode cX3_at 18 = .ok (.if_icmp .ge 12, 3) := by decide +kernel
theorem dX3_at_21 : decode cX3_at 21 = .ok (.aload_n 0, 1) := by decide +kernel
theorem dX3_at_22 : decode cX3_at 22 = .ok (.getfield 13, 3) := by decide +kernel
theorem dX3_at_25 : decode cX3_at 25 = .ok (.iload_n 1, 1) := by decide +kernel
theorem dX3_at_26 : decode cX3_at 26 = .ok (.iaload, 1) := by decide +kernel
theorem dX3_at_27 : decode cX3_at 27 = .ok (.goto 4, 3) := by decide +kernel
theorem dX3_at_30 : decode cX3_at 30 = .ok (.iconst 0, 1) := by decide +kernel
theorem dX3_at_31 : decode cX3_at 31 = .ok (.ireturn, 1) := by decide +kernel
set_option maxRecDepth 20000 in
theorem ggX3_atRound_X3_at : GoodIn wsX3_atRound wsX3_at := goodIn_r _ [6, 1, 7, 8, 9] (by decide +kernel) (by decide +kernel)
set_option maxRecDepth 20000 in
theorem gX3_atRound_X3_at : GoodIn wsX3_atRound (wsV RX3 23 RX3 yX3_at wsX3_at) := goodIn_app (goodIn_of _ (by decide +kernel)) ggX3_atRound_X3_at
theorem dX3_atRound_0 : decode cX3_atRound 0 = .ok (.aload_n 0, 1) := by decide +kernel
theorem dX3_atRound_1 : decode cX3_atRound 1 = .ok (.getfield 19, 3) := by decide +kernel
theorem dX3_atRound_4 : decode cX3_atRound 4 = .ok (.ifCond .le 16, 3) := by decide +kernel
theorem dX3_atRound_7 : decode cX3_atRound 7 = .ok (.aload_n 0, 1) := by decide +kernel
theorem dX3_atRound_8 : decode cX3_atRound 8 = .ok (.iload_n 1, 1) := by decide +kernel
theorem dX3_atRound_9 : decode cX3_atRound 9 = .ok (.aload_n 0, 1) := by decide +kernel
theorem dX3_atRound_10 : decode cX3_atRound 10 = .ok (.getfield 19, 3) := by decide +kernel
theorem dX3_atRound_13 : decode cX3_atRound 13 = .ok (.irem, 1) := by decide +kernel
theorem dX3_atRound_14 : decode cX3_atRound 14 = .ok (.invokevirtual 23, 3) := by decide +kernel
theorem dX3_atRound_17 : decode cX3_atRound 17 = .ok (.goto 4, 3) := by decide +kernel
theorem dX3_atRound_20 : decode cX3_atRound 20 = .ok (.iconst 0, 1) := by decide +kernel
theorem dX3_atRound_21 : decode cX3_atRound 21 = .ok (.ireturn, 1) := by decide +kernel
theorem dX3_put_0 : decode cX3_put 0 = .ok (.iload_n 1, 1) := by decide +kernel
theorem dX3_put_1 : decode cX3_put 1 = .ok (.ifCond .lt 27, 3) := by decide +kernel
theorem dX3_put_4 : decode cX3_put 4 = .ok (.iload_n 1, 1) := by decide +kernel
theorem dX3_put_5 : decode cX3_put 5 = .ok (.aload_n 0, 1) := by decide +kernel
theorem dX3_put_6 : decode cX3_put 6 = .ok (.getfield 19, 3) := by decide +kernel
theorem dX3_put_9 : decode cX3_put 9 = .ok (.if_icmp .ge 19, 3) := by decide +kernel
theorem dX3_put_12 : decode cX3_put 12 = .ok (.iload_n 1, 1) := by decide +kernel
theorem dX3_put_13 : decode cX3_put 13 = .ok (.aload_n 0, 1) := by decide +kernel
theorem dX3_put_14 : decode cX3_put 14 = .ok (.getfield 13, 3) := by decide +kernel
theorem dX3_put_17 : decode cX3_put 17 = .ok (.arraylength, 1) := by decide +kernel
theorem dX3_put_18 : decode cX3_put 18 = .ok (.if_icmp .ge 10, 3) := by decide +kernel
theorem dX3_put_21 : decode cX3_put 21 = .ok (.aload_n 0, 1) := by decide +kernel
theorem dX3_put_22 : decode cX3_put 22 = .ok (.getfield 13, 3) := by decide +kernel
theorem dX3_put_25 : decode cX3_put 25 = .ok (.iload_n 1, 1) := by decide +kernel
theorem dX3_put_26 : decode cX3_put 26 = .ok (.iload_n 2, 1) := by decide +kernel
theorem dX3_put_27 : decode cX3_put 27 = .ok (.iastore, 1) := by decide +kernel
theorem dX3_put_28 : decode cX3_put 28 = .ok (.return_, 1) := by decide +kernel
theorem dX3_add_0 : decode cX3_add 0 = .ok (.aload_n 0, 1) := by decide +kernel
theorem dX3_add_1 : decode cX3_add 1 = .ok (.getfield 19, 3) := by decide +kernel
theorem dX3_add_4 : decode cX3_add 4 = .ok (.ifCond .lt 35, 3) := by decide +kernel
theorem dX3_add_7 : decode cX3_add 7 = .ok (.aload_n 0, 1) := by decide +kernel
theorem dX3_add_8 : decode cX3_add 8 = .ok (.getfield 19, 3) := by decide +kernel
theorem dX3_add_11 : decode cX3_add 11 = .ok (.aload_n 0, 1) := by decide +kernel
theorem dX3_add_12 : decode cX3_add 12 = .ok (.getfield 13, 3) := by decide +kernel
theorem dX3_add_15 : decode cX3_add 15 = .ok (.arraylength, 1) := by decide +kernel
theorem dX3_add_16 : decode cX3_add 16 = .ok (.if_icmp .ge 23, 3) := by decide +kernel
theorem dX3_add_19 : decode cX3_add 19 = .ok (.aload_n 0, 1) := by decide +kernel
theorem dX3_add_20 : decode cX3_add 20 = .ok (.getfield 13, 3) := by decide +kernel
theorem dX3_add_23 : decode cX3_add 23 = .ok (.aload_n 0, 1) := by decide +kernel
theorem dX3_add_24 : decode cX3_add 24 = .ok (.getfield 19, 3) := by decide +kernel
theorem dX3_add_27 : decode cX3_add 27 = .ok (.iload_n 1, 1) := by decide +kernel
theorem dX3_add_28 : decode cX3_add 28 = .ok (.iastore, 1) := by decide +kernel
theorem dX3_add_29 : decode cX3_add 29 = .ok (.aload_n 0, 1) := by decide +kernel
theorem dX3_add_30 : decode cX3_add 30 = .ok (.dup, 1) := by decide +kernel
theorem dX3_add_31 : decode cX3_add 31 = .ok (.getfield 19, 3) := by decide +kernel
theorem dX3_add_34 : decode cX3_add 34 = .ok (.iconst 1, 1) := by decide +kernel
theorem dX3_add_35 : decode cX3_add 35 = .ok (.iadd, 1) := by decide +kernel
theorem dX3_add_36 : decode cX3_add 36 = .ok (.putfield 19, 3) := by decide +kernel
theorem dX3_add_39 : decode cX3_add 39 = .ok (.return_, 1) := by decide +kernel
set_option maxRecDepth 20000 in
theorem ggX3_last_X3_at : GoodIn wsX3_last wsX3_at := goodIn_r _ [6, 1, 7, 8, 9] (by decide +kernel) (by decide +kernel)
set_option maxRecDepth 20000 in
theorem gX3_last_X3_at : GoodIn wsX3_last (wsV RX3 23 RX3 yX3_at wsX3_at) := goodIn_app (goodIn_of _ (by decide +kernel)) ggX3_last_X3_at
theorem dX3_last_0 : decode cX3_last 0 = .ok (.aload_n 0, 1) := by decide +kernel
theorem dX3_last_1 : decode cX3_last 1 = .ok (.aload_n 0, 1) := by decide +kernel
theorem dX3_last_2 : decode cX3_last 2 = .ok (.getfield 19, 3) := by decide +kernel
theorem dX3_last_5 : decode cX3_last 5 = .ok (.iconst 1, 1) := by decide +kernel
theorem dX3_last_6 : decode cX3_last 6 = .ok (.isub, 1) := by decide +kernel
theorem dX3_last_7 : decode cX3_last 7 = .ok (.invokevirtual 23, 3) := by decide +kernel
theorem dX3_last_10 : decode cX3_last 10 = .ok (.ireturn, 1) := by decide +kernel
theorem dX3_cutTo_0 : decode cX3_cutTo 0 = .ok (.aload_n 0, 1) := by decide +kernel
theorem dX3_cutTo_1 : decode cX3_cutTo 1 = .ok (.iconst 0, 1) := by decide +kernel
theorem dX3_cutTo_2 : decode cX3_cutTo 2 = .ok (.aload_n 0, 1) := by decide +kernel
theorem dX3_cutTo_3 : decode cX3_cutTo 3 = .ok (.getfield 19, 3) := by decide +kernel
theorem dX3_cutTo_6 : decode cX3_cutTo 6 = .ok (.iload_n 1, 1) := by decide +kernel
theorem dX3_cutTo_7 : decode cX3_cutTo 7 = .ok (.invokestatic 27, 3) := by decide +kernel
theorem dX3_cutTo_10 : decode cX3_cutTo 10 = .ok (.invokestatic 7, 3) := by decide +kernel
theorem dX3_cutTo_13 : decode cX3_cutTo 13 = .ok (.putfield 19, 3) := by decide +kernel
theorem dX3_cutTo_16 : decode cX3_cutTo 16 = .ok (.return_, 1) := by decide +kernel
theorem dX3_clear_0 : decode cX3_clear 0 = .ok (.aload_n 0, 1) := by decide +kernel
theorem dX3_clear_1 : decode cX3_clear 1 = .ok (.iconst 0, 1) := by decide +kernel
theorem dX3_clear_2 : decode cX3_clear 2 = .ok (.putfield 19, 3) := by decide +kernel
theorem dX3_clear_5 : decode cX3_clear 5 = .ok (.return_, 1) := by decide +kernel
set_option maxRecDepth 20000 in
theorem ggX3_copyFrom_X3_clear : GoodIn wsX3_copyFrom wsX3_clear := goodIn_r _ [5, 6, 20, 21] (by decide +kernel) (by decide +kernel)
set_option maxRecDepth 20000 in
theorem gX3_copyFrom_X3_clear : GoodIn wsX3_copyFrom (wsV RX3 30 RX3 yX3_clear wsX3_clear) := goodIn_app (goodIn_of _ (by decide +kernel)) ggX3_copyFrom_X3_clear
set_option maxRecDepth 20000 in
theorem ggX3_copyFrom_X3_addAll : GoodIn wsX3_copyFrom wsX3_addAll := goodIn_r _ [10, 6, 11, 12, 13, 4, 14, 15, 16, 17, 18, 19, 20, 21] (by decide +kernel) (by decide +kernel)
set_option maxRecDepth 20000 in
theorem gX3_copyFrom_X3_addAll : GoodIn wsX3_copyFrom (wsV RX3 33 RX3 yX3_addAll wsX3_addAll) := goodIn_app (goodIn_of _ (by decide +kernel)) ggX3_copyFrom_X3_addAll
theorem dX3_copyFrom_0 : decode cX3_copyFrom 0 = .ok (.aload_n 0, 1) := by decide +kernel
theorem dX3_copyFrom_1 : decode cX3_copyFrom 1 = .ok (.invokevirtual 30, 3) := by decide +kernel
theorem dX3_copyFrom_4 : decode cX3_copyFrom 4 = .ok (.aload_n 0, 1) := by decide +kernel
theorem dX3_copyFrom_5 : decode cX3_copyFrom 5 = .ok (.aload_n 1, 1) := by decide +kernel
theorem dX3_copyFrom_6 : decode cX3_copyFrom 6 = .ok (.invokevirtual 33, 3) := by decide +kernel
theorem dX3_copyFrom_9 : decode cX3_copyFrom 9 = .ok (.return_, 1) := by decide +kernel
set_option maxRecDepth 20000 in
theorem ggX3_addAll_X3_at : GoodIn wsX3_addAll wsX3_at := goodIn_r _ [6, 1, 7, 12, 13] (by decide +kernel) (by decide +kernel)
set_option maxRecDepth 20000 in
theorem gX3_addAll_X3_at : GoodIn wsX3_addAll (wsV RX3 23 RX3 yX3_at wsX3_at) := goodIn_app (goodIn_of _ (by decide +kernel)) ggX3_addAll_X3_at
set_option maxRecDepth 20000 in
theorem ggX3_addAll_X3_add : GoodIn wsX3_addAll wsX3_add := goodIn_r _ [11, 1, 7, 12, 13] (by decide +kernel) (by decide +kernel)
set_option maxRecDepth 20000 in
theorem gX3_addAll_X3_add : GoodIn wsX3_addAll (wsV RX3 37 RX3 yX3_add wsX3_add) := goodIn_app (goodIn_of _ (by decide +kernel)) ggX3_addAll_X3_add
theorem dX3_addAll_0 : decode cX3_addAll 0 = .ok (.iconst 0, 1) := by decide +kernel
theorem dX3_addAll_1 : decode cX3_addAll 1 = .ok (.istore_n 2, 1) := by decide +kernel
theorem dX3_addAll_2 : decode cX3_addAll 2 = .ok (.iload_n 2, 1) := by decide +kernel
theorem dX3_addAll_3 : decode cX3_addAll 3 = .ok (.aload_n 1, 1) := by decide +kernel
theorem dX3_addAll_4 : decode cX3_addAll 4 = .ok (.getfield 19, 3) := by decide +kernel
theorem dX3_addAll_7 : decode cX3_addAll 7 = .ok (.if_icmp .ge 18, 3) := by decide +kernel
theorem dX3_addAll_10 : decode cX3_addAll 10 = .ok (.aload_n 0, 1) := by decide +kernel
theorem dX3_addAll_11 : decode cX3_addAll 11 = .ok (.aload_n 1, 1) := by decide +kernel
theorem dX3_addAll_12 : decode cX3_addAll 12 = .ok (.iload_n 2, 1) := by decide +kernel
theorem dX3_addAll_13 : decode cX3_addAll 13 = .ok (.invokevirtual 23, 3) := by decide +kernel
theorem dX3_addAll_16 : decode cX3_addAll 16 = .ok (.invokevirtual 37, 3) := by decide +kernel
theorem dX3_addAll_19 : decode cX3_addAll 19 = .ok (.iinc 2 1, 3) := by decide +kernel
theorem dX3_addAll_22 : decode cX3_addAll 22 = .ok (.goto (-20), 3) := by decide +kernel
theorem dX3_addAll_25 : decode cX3_addAll 25 = .ok (.return_, 1) := by decide +kernel
set_option maxRecDepth 20000 in
theorem ggX3_turnFrom_X3_at : GoodIn wsX3_turnFrom wsX3_at := goodIn_r _ [6, 1, 7, 12, 13] (by decide +kernel) (by decide +kernel)
set_option maxRecDepth 20000 in
theorem gX3_turnFrom_X3_at : GoodIn wsX3_turnFrom (wsV RX3 23 RX3 yX3_at wsX3_at) := goodIn_app (goodIn_of _ (by decide +kernel)) ggX3_turnFrom_X3_at
set_option maxRecDepth 20000 in
theorem ggX3_turnFrom_X3_put : GoodIn wsX3_turnFrom wsX3_put := goodIn_r _ [11, 1, 7, 12, 13] (by decide +kernel) (by decide +kernel)
set_option maxRecDepth 20000 in
theorem gX3_turnFrom_X3_put : GoodIn wsX3_turnFrom (wsV RX3 41 RX3 yX3_put wsX3_put) := goodIn_app (goodIn_of _ (by decide +kernel)) ggX3_turnFrom_X3_put
theorem dX3_turnFrom_0 : decode cX3_turnFrom 0 = .ok (.iload_n 1, 1) := by decide +kernel
theorem dX3_turnFrom_1 : decode cX3_turnFrom 1 = .ok (.istore_n 2, 1) := by decide +kernel
theorem dX3_turnFrom_2 : decode cX3_turnFrom 2 = .ok (.aload_n 0, 1) := by decide +kernel
theorem dX3_turnFrom_3 : decode cX3_turnFrom 3 = .ok (.getfield 19, 3) := by decide +kernel
theorem dX3_turnFrom_6 : decode cX3_turnFrom 6 = .ok (.iconst 1, 1) := by decide +kernel
theorem dX3_turnFrom_7 : decode cX3_turnFrom 7 = .ok (.isub, 1) := by decide +kernel
theorem dX3_turnFrom_8 : decode cX3_turnFrom 8 = .ok (.istore_n 3, 1) := by decide +kernel
theorem dX3_turnFrom_9 : decode cX3_turnFrom 9 = .ok (.iload_n 2, 1) := by decide +kernel
theorem dX3_turnFrom_10 : decode cX3_turnFrom 10 = .ok (.iload_n 3, 1) := by decide +kernel
theorem dX3_turnFrom_11 : decode cX3_turnFrom 11 = .ok (.if_icmp .ge 36, 3) := by decide +kernel
theorem dX3_turnFrom_14 : decode cX3_turnFrom 14 = .ok (.aload_n 0, 1) := by decide +kernel
theorem dX3_turnFrom_15 : decode cX3_turnFrom 15 = .ok (.iload_n 2, 1) := by decide +kernel
theorem dX3_turnFrom_16 : decode cX3_turnFrom 16 = .ok (.invokevirtual 23, 3) := by decide +kernel
theorem dX3_turnFrom_19 : decode cX3_turnFrom 19 = .ok (.istore 4, 2) := by decide +kernel
theorem dX3_turnFrom_21 : decode cX3_turnFrom 21 = .ok (.aload_n 0, 1) := by decide +kernel
theorem dX3_turnFrom_22 : decode cX3_turnFrom 22 = .ok (.iload_n 2, 1) := by decide +kernel
theorem dX3_turnFrom_23 : decode cX3_turnFrom 23 = .ok (.aload_n 0, 1) := by decide +kernel
theorem dX3_turnFrom_24 : decode cX3_turnFrom 24 = .ok (.iload_n 3, 1) := by decide +kernel
theorem dX3_turnFrom_25 : decode cX3_turnFrom 25 = .ok (.invokevirtual 23, 3) := by decide +kernel
theorem dX3_turnFrom_28 : decode cX3_turnFrom 28 = .ok (.invokevirtual 41, 3) := by decide +kernel
theorem dX3_turnFrom_31 : decode cX3_turnFrom 31 = .ok (.aload_n 0, 1) := by decide +kernel
theorem dX3_turnFrom_32 : decode cX3_turnFrom 32 = .ok (.iload_n 3, 1) := by decide +kernel
theorem dX3_turnFrom_33 : decode cX3_turnFrom 33 = .ok (.iload 4, 2) := by decide +kernel
theorem dX3_turnFrom_35 : decode cX3_turnFrom 35 = .ok (.invokevirtual 41, 3) := by decide +kernel
theorem dX3_turnFrom_38 : decode cX3_turnFrom 38 = .ok (.iinc 2 1, 3) := by decide +kernel
theorem dX3_turnFrom_41 : decode cX3_turnFrom 41 = .ok (.iinc 3 (-1), 3) := by decide +kernel
theorem dX3_turnFrom_44 : decode cX3_turnFrom 44 = .ok (.goto (-35), 3) := by decide +kernel
theorem dX3_turnFrom_47 : decode cX3_turnFrom 47 = .ok (.return_, 1) := by decide +kernel
set_option maxRecDepth 20000 in
theorem ggX3_leastPeriod_X3_hasPeriod : GoodIn wsX3_leastPeriod wsX3_hasPeriod := goodIn_r _ [6, 1, 7, 8, 9, 5, 10, 11, 12, 13] (by decide +kernel) (by decide +kernel)
set_option maxRecDepth 20000 in
theorem gX3_leastPeriod_X3_hasPeriod : GoodIn wsX3_leastPeriod (wsV RX3 45 RX3 yX3_hasPeriod wsX3_hasPeriod) := goodIn_app (goodIn_of _ (by decide +kernel)) ggX3_leastPeriod_X3_hasPeriod
theorem dX3_leastPeriod_0 : decode cX3_leastPeriod 0 = .ok (.iconst 1, 1) := by decide +kernel
theorem dX3_leastPeriod_1 : decode cX3_leastPeriod 1 = .ok (.istore_n 1, 1) := by decide +kernel
theorem dX3_leastPeriod_2 : decode cX3_leastPeriod 2 = .ok (.iload_n 1, 1) := by decide +kernel
theorem dX3_leastPeriod_3 : decode cX3_leastPeriod 3 = .ok (.aload_n 0, 1) := by decide +kernel
theorem dX3_leastPeriod_4 : decode cX3_leastPeriod 4 = .ok (.getfield 19, 3) := by decide +kernel
theorem dX3_leastPeriod_7 : decode cX3_leastPeriod 7 = .ok (.if_icmp .ge 19, 3) := by decide +kernel
theorem dX3_leastPeriod_10 : decode cX3_leastPeriod 10 = .ok (.aload_n 0, 1) := by decide +kernel
theorem dX3_leastPeriod_11 : decode cX3_leastPeriod 11 = .ok (.iload_n 1, 1) := by decide +kernel
theorem dX3_leastPeriod_12 : decode cX3_leastPeriod 12 = .ok (.invokevirtual 45, 3) := by decide +kernel
theorem dX3_leastPeriod_15 : decode cX3_leastPeriod 15 = .ok (.ifCond .eq 5, 3) := by decide +kernel
theorem dX3_leastPeriod_18 : decode cX3_leastPeriod 18 = .ok (.iload_n 1, 1) := by decide +kernel
theorem dX3_leastPeriod_19 : decode cX3_leastPeriod 19 = .ok (.ireturn, 1) := by decide +kernel
theorem dX3_leastPeriod_20 : decode cX3_leastPeriod 20 = .ok (.iinc 1 1, 3) := by decide +kernel
theorem dX3_leastPeriod_23 : decode cX3_leastPeriod 23 = .ok (.goto (-21), 3) := by decide +kernel
theorem dX3_leastPeriod_26 : decode cX3_leastPeriod 26 = .ok (.aload_n 0, 1) := by decide +kernel
theorem dX3_leastPeriod_27 : decode cX3_leastPeriod 27 = .ok (.getfield 19, 3) := by decide +kernel
theorem dX3_leastPeriod_30 : decode cX3_leastPeriod 30 = .ok (.ireturn, 1) := by decide +kernel
set_option maxRecDepth 20000 in
theorem ggX3_hasPeriod_X3_at : GoodIn wsX3_hasPeriod wsX3_at := goodIn_r _ [6, 1, 7, 8, 9] (by decide +kernel) (by decide +kernel)
set_option maxRecDepth 20000 in
theorem gX3_hasPeriod_X3_at : GoodIn wsX3_hasPeriod (wsV RX3 23 RX3 yX3_at wsX3_at) := goodIn_app (goodIn_of _ (by decide +kernel)) ggX3_hasPeriod_X3_at
theorem dX3_hasPeriod_0 : decode cX3_hasPeriod 0 = .ok (.iload_n 1, 1) := by decide +kernel
theorem dX3_hasPeriod_1 : decode cX3_hasPeriod 1 = .ok (.istore_n 2, 1) := by decide +kernel
theorem dX3_hasPeriod_2 : decode cX3_hasPeriod 2 = .ok (.iload_n 2, 1) := by decide +kernel
theorem dX3_hasPeriod_3 : decode cX3_hasPeriod 3 = .ok (.aload_n 0, 1) := by decide +kernel
theorem dX3_hasPeriod_4 : decode cX3_hasPeriod 4 = .ok (.getfield 19, 3) := by decide +kernel
theorem dX3_hasPeriod_7 : decode cX3_hasPeriod 7 = .ok (.if_icmp .ge 26, 3) := by decide +kernel
theorem dX3_hasPeriod_10 : decode cX3_hasPeriod 10 = .ok (.aload_n 0, 1) := by decide +kernel
theorem dX3_hasPeriod_11 : decode cX3_hasPeriod 11 = .ok (.iload_n 2, 1) := by decide +kernel
theorem dX3_hasPeriod_12 : decode cX3_hasPeriod 12 = .ok (.invokevirtual 23, 3) := by decide +kernel
theorem dX3_hasPeriod_15 : decode cX3_hasPeriod 15 = .ok (.aload_n 0, 1) := by decide +kernel
theorem dX3_hasPeriod_16 : decode cX3_hasPeriod 16 = .ok (.iload_n 2, 1) := by decide +kernel
theorem dX3_hasPeriod_17 : decode cX3_hasPeriod 17 = .ok (.iload_n 1, 1) := by decide +kernel
theorem dX3_hasPeriod_18 : decode cX3_hasPeriod 18 = .ok (.isub, 1) := by decide +kernel
theorem dX3_hasPeriod_19 : decode cX3_hasPeriod 19 = .ok (.invokevirtual 23, 3) := by decide +kernel
theorem dX3_hasPeriod_22 : decode cX3_hasPeriod 22 = .ok (.if_icmp .eq 5, 3) := by decide +kernel
theorem dX3_hasPeriod_25 : decode cX3_hasPeriod 25 = .ok (.iconst 0, 1) := by decide +kernel
theorem dX3_hasPeriod_26 : decode cX3_hasPeriod 26 = .ok (.ireturn, 1) := by decide +kernel
theorem dX3_hasPeriod_27 : decode cX3_hasPeriod 27 = .ok (.iinc 2 1, 3) := by decide +kernel
theorem dX3_hasPeriod_30 : decode cX3_hasPeriod 30 = .ok (.goto (-28), 3) := by decide +kernel
theorem dX3_hasPeriod_33 : decode cX3_hasPeriod 33 = .ok (.iconst 1, 1) := by decide +kernel
theorem dX3_hasPeriod_34 : decode cX3_hasPeriod 34 = .ok (.ireturn, 1) := by decide +kernel
set_option maxRecDepth 20000 in
theorem ggX3_countDistinct_X3_at : GoodIn wsX3_countDistinct wsX3_at := goodIn_r _ [6, 1, 7, 12, 13] (by decide +kernel) (by decide +kernel)
set_option maxRecDepth 20000 in
theorem gX3_countDistinct_X3_at : GoodIn wsX3_countDistinct (wsV RX3 23 RX3 yX3_at wsX3_at) := goodIn_app (goodIn_of _ (by decide +kernel)) ggX3_countDistinct_X3_at
set_option maxRecDepth 20000 in
theorem ggX3_countDistinct_X3_firstPlaceOf : GoodIn wsX3_countDistinct wsX3_firstPlaceOf := goodIn_r _ [11, 1, 2, 3, 4, 5, 6, 7, 12, 13] (by decide +kernel) (by decide +kernel)
set_option maxRecDepth 20000 in
theorem gX3_countDistinct_X3_firstPlaceOf : GoodIn wsX3_countDistinct (wsV RX3 49 RX3 yX3_firstPlaceOf wsX3_firstPlaceOf) := goodIn_app (goodIn_of _ (by decide +kernel)) ggX3_countDistinct_X3_firstPlaceOf
theorem dX3_countDistinct_0 : decode cX3_countDistinct 0 = .ok (.iconst 0, 1) := by decide +kernel
theorem dX3_countDistinct_1 : decode cX3_countDistinct 1 = .ok (.istore_n 1, 1) := by decide +kernel
theorem dX3_countDistinct_2 : decode cX3_countDistinct 2 = .ok (.iconst 0, 1) := by decide +kernel
theorem dX3_countDistinct_3 : decode cX3_countDistinct 3 = .ok (.istore_n 2, 1) := by decide +kernel
theorem dX3_countDistinct_4 : decode cX3_countDistinct 4 = .ok (.iload_n 2, 1) := by decide +kernel
theorem dX3_countDistinct_5 : decode cX3_countDistinct 5 = .ok (.aload_n 0, 1) := by decide +kernel
theorem dX3_countDistinct_6 : decode cX3_countDistinct 6 = .ok (.getfield 19, 3) := by decide +kernel
theorem dX3_countDistinct_9 : decode cX3_countDistinct 9 = .ok (.if_icmp .ge 25, 3) := by decide +kernel
theorem dX3_countDistinct_12 : decode cX3_countDistinct 12 = .ok (.aload_n 0, 1) := by decide +kernel
theorem dX3_countDistinct_13 : decode cX3_countDistinct 13 = .ok (.aload_n 0, 1) := by decide +kernel
theorem dX3_countDistinct_14 : decode cX3_countDistinct 14 = .ok (.iload_n 2, 1) := by decide +kernel
theorem dX3_countDistinct_15 : decode cX3_countDistinct 15 = .ok (.invokevirtual 23, 3) := by decide +kernel
theorem dX3_countDistinct_18 : decode cX3_countDistinct 18 = .ok (.invokevirtual 49, 3) := by decide +kernel
theorem dX3_countDistinct_21 : decode cX3_countDistinct 21 = .ok (.iload_n 2, 1) := by decide +kernel
theorem dX3_countDistinct_22 : decode cX3_countDistinct 22 = .ok (.if_icmp .ne 6, 3) := by decide +kernel
theorem dX3_countDistinct_25 : decode cX3_countDistinct 25 = .ok (.iinc 1 1, 3) := by decide +kernel
theorem dX3_countDistinct_28 : decode cX3_countDistinct 28 = .ok (.iinc 2 1, 3) := by decide +kernel
theorem dX3_countDistinct_31 : decode cX3_countDistinct 31 = .ok (.goto (-27), 3) := by decide +kernel
theorem dX3_countDistinct_34 : decode cX3_countDistinct 34 = .ok (.iload_n 1, 1) := by decide +kernel
theorem dX3_countDistinct_35 : decode cX3_countDistinct 35 = .ok (.ireturn, 1) := by decide +kernel
set_option maxRecDepth 20000 in
theorem ggX3_firstPlaceOf_X3_at : GoodIn wsX3_firstPlaceOf wsX3_at := goodIn_r _ [6, 1, 7, 8, 9] (by decide +kernel) (by decide +kernel)
set_option maxRecDepth 20000 in
theorem gX3_firstPlaceOf_X3_at : GoodIn wsX3_firstPlaceOf (wsV RX3 23 RX3 yX3_at wsX3_at) := goodIn_app (goodIn_of _ (by decide +kernel)) ggX3_firstPlaceOf_X3_at
theorem dX3_firstPlaceOf_0 : decode cX3_firstPlaceOf 0 = .ok (.iconst 0, 1) := by decide +kernel
theorem dX3_firstPlaceOf_1 : decode cX3_firstPlaceOf 1 = .ok (.istore_n 2, 1) := by decide +kernel
theorem dX3_firstPlaceOf_2 : decode cX3_firstPlaceOf 2 = .ok (.iload_n 2, 1) := by decide +kernel
theorem dX3_firstPlaceOf_3 : decode cX3_firstPlaceOf 3 = .ok (.aload_n 0, 1) := by decide +kernel
theorem dX3_firstPlaceOf_4 : decode cX3_firstPlaceOf 4 = .ok (.getfield 19, 3) := by decide +kernel
theorem dX3_firstPlaceOf_7 : decode cX3_firstPlaceOf 7 = .ok (.if_icmp .ge 20, 3) := by decide +kernel
theorem dX3_firstPlaceOf_10 : decode cX3_firstPlaceOf 10 = .ok (.aload_n 0, 1) := by decide +kernel
theorem dX3_firstPlaceOf_11 : decode cX3_firstPlaceOf 11 = .ok (.iload_n 2, 1) := by decide +kernel
theorem dX3_firstPlaceOf_12 : decode cX3_firstPlaceOf 12 = .ok (.invokevirtual 23, 3) := by decide +kernel
theorem dX3_firstPlaceOf_15 : decode cX3_firstPlaceOf 15 = .ok (.iload_n 1, 1) := by decide +kernel
theorem dX3_firstPlaceOf_16 : decode cX3_firstPlaceOf 16 = .ok (.if_icmp .ne 5, 3) := by decide +kernel
theorem dX3_firstPlaceOf_19 : decode cX3_firstPlaceOf 19 = .ok (.iload_n 2, 1) := by decide +kernel
theorem dX3_firstPlaceOf_20 : decode cX3_firstPlaceOf 20 = .ok (.ireturn, 1) := by decide +kernel
theorem dX3_firstPlaceOf_21 : decode cX3_firstPlaceOf 21 = .ok (.iinc 2 1, 3) := by decide +kernel
theorem dX3_firstPlaceOf_24 : decode cX3_firstPlaceOf 24 = .ok (.goto (-22), 3) := by decide +kernel
theorem dX3_firstPlaceOf_27 : decode cX3_firstPlaceOf 27 = .ok (.iconst (-1), 1) := by decide +kernel
theorem dX3_firstPlaceOf_28 : decode cX3_firstPlaceOf 28 = .ok (.ireturn, 1) := by decide +kernel
set_option maxRecDepth 20000 in
theorem ggX3_countBits_X3_at : GoodIn wsX3_countBits wsX3_at := goodIn_r _ [6, 1, 7, 15, 16] (by decide +kernel) (by decide +kernel)
set_option maxRecDepth 20000 in
theorem gX3_countBits_X3_at : GoodIn wsX3_countBits (wsV RX3 23 RX3 yX3_at wsX3_at) := goodIn_app (goodIn_of _ (by decide +kernel)) ggX3_countBits_X3_at
set_option maxRecDepth 20000 in
theorem ggX3_countBits_J6_bitCount_0f7a4 : GoodIn wsX3_countBits wsJ6_bitCount_0f7a4 := goodIn_r _ [11, 12, 13, 14] (by decide +kernel) (by decide +kernel)
set_option maxRecDepth 20000 in
theorem gX3_countBits_J6_bitCount_0f7a4 : GoodIn wsX3_countBits (va_wsS RX3 52 yJ6_bitCount_0f7a4 wsJ6_bitCount_0f7a4) := goodIn_app (goodIn_of _ (by decide +kernel)) ggX3_countBits_J6_bitCount_0f7a4
theorem dX3_countBits_0 : decode cX3_countBits 0 = .ok (.iconst 0, 1) := by decide +kernel
theorem dX3_countBits_1 : decode cX3_countBits 1 = .ok (.istore_n 1, 1) := by decide +kernel
theorem dX3_countBits_2 : decode cX3_countBits 2 = .ok (.iconst 0, 1) := by decide +kernel
theorem dX3_countBits_3 : decode cX3_countBits 3 = .ok (.istore_n 2, 1) := by decide +kernel
theorem dX3_countBits_4 : decode cX3_countBits 4 = .ok (.iload_n 2, 1) := by decide +kernel
theorem dX3_countBits_5 : decode cX3_countBits 5 = .ok (.aload_n 0, 1) := by decide +kernel
theorem dX3_countBits_6 : decode cX3_countBits 6 = .ok (.getfield 19, 3) := by decide +kernel
theorem dX3_countBits_9 : decode cX3_countBits 9 = .ok (.if_icmp .ge 20, 3) := by decide +kernel
theorem dX3_countBits_12 : decode cX3_countBits 12 = .ok (.iload_n 1, 1) := by decide +kernel
theorem dX3_countBits_13 : decode cX3_countBits 13 = .ok (.aload_n 0, 1) := by decide +kernel
theorem dX3_countBits_14 : decode cX3_countBits 14 = .ok (.iload_n 2, 1) := by decide +kernel
theorem dX3_countBits_15 : decode cX3_countBits 15 = .ok (.invokevirtual 23, 3) := by decide +kernel
theorem dX3_countBits_18 : decode cX3_countBits 18 = .ok (.invokestatic 52, 3) := by decide +kernel
theorem dX3_countBits_21 : decode cX3_countBits 21 = .ok (.iadd, 1) := by decide +kernel
theorem dX3_countBits_22 : decode cX3_countBits 22 = .ok (.istore_n 1, 1) := by decide +kernel
theorem dX3_countBits_23 : decode cX3_countBits 23 = .ok (.iinc 2 1, 3) := by decide +kernel
theorem dX3_countBits_26 : decode cX3_countBits 26 = .ok (.goto (-22), 3) := by decide +kernel
theorem dX3_countBits_29 : decode cX3_countBits 29 = .ok (.iload_n 1, 1) := by decide +kernel
theorem dX3_countBits_30 : decode cX3_countBits 30 = .ok (.ireturn, 1) := by decide +kernel
set_option maxRecDepth 20000 in
theorem ggX3_countRuns_X3_at : GoodIn wsX3_countRuns wsX3_at := goodIn_r _ [6, 1, 7, 18, 19] (by decide +kernel) (by decide +kernel)
set_option maxRecDepth 20000 in
theorem gX3_countRuns_X3_at : GoodIn wsX3_countRuns (wsV RX3 23 RX3 yX3_at wsX3_at) := goodIn_app (goodIn_of _ (by decide +kernel)) ggX3_countRuns_X3_at
set_option maxRecDepth 20000 in
theorem ggX3_countRuns_X4_runStarts : GoodIn wsX3_countRuns wsX4_runStarts := goodIn_r _ [10] (by decide +kernel) (by decide +kernel)
set_option maxRecDepth 20000 in
theorem gX3_countRuns_X4_runStarts_n57 : GoodIn wsX3_countRuns (wsX4_runStarts) := ggX3_countRuns_X4_runStarts
set_option maxRecDepth 20000 in
theorem ggX3_countRuns_J6_bitCount_0f7a4 : GoodIn wsX3_countRuns wsJ6_bitCount_0f7a4 := goodIn_r _ [14, 15, 16, 17] (by decide +kernel) (by decide +kernel)
set_option maxRecDepth 20000 in
theorem gX3_countRuns_J6_bitCount_0f7a4 : GoodIn wsX3_countRuns (va_wsS RX3 52 yJ6_bitCount_0f7a4 wsJ6_bitCount_0f7a4) := goodIn_app (goodIn_of _ (by decide +kernel)) ggX3_countRuns_J6_bitCount_0f7a4
theorem dX3_countRuns_0 : decode cX3_countRuns 0 = .ok (.iconst 0, 1) := by decide +kernel
theorem dX3_countRuns_1 : decode cX3_countRuns 1 = .ok (.istore_n 2, 1) := by decide +kernel
theorem dX3_countRuns_2 : decode cX3_countRuns 2 = .ok (.iconst 0, 1) := by decide +kernel
theorem dX3_countRuns_3 : decode cX3_countRuns 3 = .ok (.istore_n 3, 1) := by decide +kernel
theorem dX3_countRuns_4 : decode cX3_countRuns 4 = .ok (.iload_n 3, 1) := by decide +kernel
theorem dX3_countRuns_5 : decode cX3_countRuns 5 = .ok (.aload_n 0, 1) := by decide +kernel
theorem dX3_countRuns_6 : decode cX3_countRuns 6 = .ok (.getfield 19, 3) := by decide +kernel
theorem dX3_countRuns_9 : decode cX3_countRuns 9 = .ok (.if_icmp .ge 24, 3) := by decide +kernel
theorem dX3_countRuns_12 : decode cX3_countRuns 12 = .ok (.iload_n 2, 1) := by decide +kernel
theorem dX3_countRuns_13 : decode cX3_countRuns 13 = .ok (.aload_n 0, 1) := by decide +kernel
theorem dX3_countRuns_14 : decode cX3_countRuns 14 = .ok (.iload_n 3, 1) := by decide +kernel
theorem dX3_countRuns_15 : decode cX3_countRuns 15 = .ok (.invokevirtual 23, 3) := by decide +kernel
theorem dX3_countRuns_18 : decode cX3_countRuns 18 = .ok (.iload_n 1, 1) := by decide +kernel
theorem dX3_countRuns_19 : decode cX3_countRuns 19 = .ok (.invokestatic 57, 3) := by decide +kernel
theorem dX3_countRuns_22 : decode cX3_countRuns 22 = .ok (.invokestatic 52, 3) := by decide +kernel
theorem dX3_countRuns_25 : decode cX3_countRuns 25 = .ok (.iadd, 1) := by decide +kernel
theorem dX3_countRuns_26 : decode cX3_countRuns 26 = .ok (.istore_n 2, 1) := by decide +kernel
theorem dX3_countRuns_27 : decode cX3_countRuns 27 = .ok (.iinc 3 1, 3) := by decide +kernel
theorem dX3_countRuns_30 : decode cX3_countRuns 30 = .ok (.goto (-26), 3) := by decide +kernel
theorem dX3_countRuns_33 : decode cX3_countRuns 33 = .ok (.iload_n 2, 1) := by decide +kernel
theorem dX3_countRuns_34 : decode cX3_countRuns 34 = .ok (.ireturn, 1) := by decide +kernel
set_option maxRecDepth 20000 in
theorem ggX3_firstWithRun_X3_at : GoodIn wsX3_firstWithRun wsX3_at := goodIn_r _ [6, 1, 7, 11, 12] (by decide +kernel) (by decide +kernel)
set_option maxRecDepth 20000 in
theorem gX3_firstWithRun_X3_at : GoodIn wsX3_firstWithRun (wsV RX3 23 RX3 yX3_at wsX3_at) := goodIn_app (goodIn_of _ (by decide +kernel)) ggX3_firstWithRun_X3_at
set_option maxRecDepth 20000 in
theorem ggX3_firstWithRun_X4_runStarts : GoodIn wsX3_firstWithRun wsX4_runStarts := goodIn_r _ [10] (by decide +kernel) (by decide +kernel)
set_option maxRecDepth 20000 in
theorem gX3_firstWithRun_X4_runStarts_n57 : GoodIn wsX3_firstWithRun (wsX4_runStarts) := ggX3_firstWithRun_X4_runStarts
theorem dX3_firstWithRun_0 : decode cX3_firstWithRun 0 = .ok (.iconst 0, 1) := by decide +kernel
theorem dX3_firstWithRun_1 : decode cX3_firstWithRun 1 = .ok (.istore_n 2, 1) := by decide +kernel
theorem dX3_firstWithRun_2 : decode cX3_firstWithRun 2 = .ok (.iload_n 2, 1) := by decide +kernel
theorem dX3_firstWithRun_3 : decode cX3_firstWithRun 3 = .ok (.aload_n 0, 1) := by decide +kernel
theorem dX3_firstWithRun_4 : decode cX3_firstWithRun 4 = .ok (.getfield 19, 3) := by decide +kernel
theorem dX3_firstWithRun_7 : decode cX3_firstWithRun 7 = .ok (.if_icmp .ge 23, 3) := by decide +kernel
theorem dX3_firstWithRun_10 : decode cX3_firstWithRun 10 = .ok (.aload_n 0, 1) := by decide +kernel
theorem dX3_firstWithRun_11 : decode cX3_firstWithRun 11 = .ok (.iload_n 2, 1) := by decide +kernel
theorem dX3_firstWithRun_12 : decode cX3_firstWithRun 12 = .ok (.invokevirtual 23, 3) := by decide +kernel
theorem dX3_firstWithRun_15 : decode cX3_firstWithRun 15 = .ok (.iload_n 1, 1) := by decide +kernel
theorem dX3_firstWithRun_16 : decode cX3_firstWithRun 16 = .ok (.invokestatic 57, 3) := by decide +kernel
theorem dX3_firstWithRun_19 : decode cX3_firstWithRun 19 = .ok (.ifCond .eq 5, 3) := by decide +kernel
theorem dX3_firstWithRun_22 : decode cX3_firstWithRun 22 = .ok (.iload_n 2, 1) := by decide +kernel
theorem dX3_firstWithRun_23 : decode cX3_firstWithRun 23 = .ok (.ireturn, 1) := by decide +kernel
theorem dX3_firstWithRun_24 : decode cX3_firstWithRun 24 = .ok (.iinc 2 1, 3) := by decide +kernel
theorem dX3_firstWithRun_27 : decode cX3_firstWithRun 27 = .ok (.goto (-25), 3) := by decide +kernel
theorem dX3_firstWithRun_30 : decode cX3_firstWithRun 30 = .ok (.iconst (-1), 1) := by decide +kernel
theorem dX3_firstWithRun_31 : decode cX3_firstWithRun 31 = .ok (.ireturn, 1) := by decide +kernel
set_option maxRecDepth 20000 in
theorem ggX3_longestOfRuns_X3_at : GoodIn wsX3_longestOfRuns wsX3_at := goodIn_r _ [10, 1, 11, 15, 16] (by decide +kernel) (by decide +kernel)
set_option maxRecDepth 20000 in
theorem gX3_longestOfRuns_X3_at : GoodIn wsX3_longestOfRuns (wsV RX3 23 RX3 yX3_at wsX3_at) := goodIn_app (goodIn_of _ (by decide +kernel)) ggX3_longestOfRuns_X3_at
set_option maxRecDepth 20000 in
theorem ggX3_longestOfRuns_X4_longestRun : GoodIn wsX3_longestOfRuns wsX4_longestRun := goodIn_r _ [14] (by decide +kernel) (by decide +kernel)
set_option maxRecDepth 20000 in
theorem gX3_longestOfRuns_X4_longestRun_n62 : GoodIn wsX3_longestOfRuns (wsX4_longestRun) := ggX3_longestOfRuns_X4_longestRun
theorem dX3_longestOfRuns_0 : decode cX3_longestOfRuns 0 = .ok (.iconst 0, 1) := by decide +kernel
theorem dX3_longestOfRuns_1 : decode cX3_longestOfRuns 1 = .ok (.istore_n 1, 1) := by decide +kernel
theorem dX3_longestOfRuns_2 : decode cX3_longestOfRuns 2 = .ok (.iconst 0, 1) := by decide +kernel
theorem dX3_longestOfRuns_3 : decode cX3_longestOfRuns 3 = .ok (.istore_n 2, 1) := by decide +kernel
theorem dX3_longestOfRuns_4 : decode cX3_longestOfRuns 4 = .ok (.iload_n 2, 1) := by decide +kernel
theorem dX3_longestOfRuns_5 : decode cX3_longestOfRuns 5 = .ok (.aload_n 0, 1) := by decide +kernel
theorem dX3_longestOfRuns_6 : decode cX3_longestOfRuns 6 = .ok (.getfield 19, 3) := by decide +kernel
theorem dX3_longestOfRuns_9 : decode cX3_longestOfRuns 9 = .ok (.if_icmp .ge 22, 3) := by decide +kernel
theorem dX3_longestOfRuns_12 : decode cX3_longestOfRuns 12 = .ok (.iload_n 1, 1) := by decide +kernel
theorem dX3_longestOfRuns_13 : decode cX3_longestOfRuns 13 = .ok (.aload_n 0, 1) := by decide +kernel
theorem dX3_longestOfRuns_14 : decode cX3_longestOfRuns 14 = .ok (.iload_n 2, 1) := by decide +kernel
theorem dX3_longestOfRuns_15 : decode cX3_longestOfRuns 15 = .ok (.invokevirtual 23, 3) := by decide +kernel
theorem dX3_longestOfRuns_18 : decode cX3_longestOfRuns 18 = .ok (.invokestatic 62, 3) := by decide +kernel
theorem dX3_longestOfRuns_21 : decode cX3_longestOfRuns 21 = .ok (.invokestatic 7, 3) := by decide +kernel
theorem dX3_longestOfRuns_24 : decode cX3_longestOfRuns 24 = .ok (.istore_n 1, 1) := by decide +kernel
theorem dX3_longestOfRuns_25 : decode cX3_longestOfRuns 25 = .ok (.iinc 2 1, 3) := by decide +kernel
theorem dX3_longestOfRuns_28 : decode cX3_longestOfRuns 28 = .ok (.goto (-24), 3) := by decide +kernel
theorem dX3_longestOfRuns_31 : decode cX3_longestOfRuns 31 = .ok (.iload_n 1, 1) := by decide +kernel
theorem dX3_longestOfRuns_32 : decode cX3_longestOfRuns 32 = .ok (.ireturn, 1) := by decide +kernel
set_option maxRecDepth 20000 in
theorem ggX4_init_X2_init : GoodIn wsX4_init wsX2_init := goodIn_r _ [24, 25, 2, 3, 26, 13, 14, 27, 28, 29, 30, 31, 32, 33, 34, 35, 36, 37, 38, 39, 40, 76, 77, 68, 69, 70, 71] (by decide +kernel) (by decide +kernel)
set_option maxRecDepth 20000 in
theorem gX4_init_X2_init_n15 : GoodIn wsX4_init (wsX2_init) := ggX4_init_X2_init
set_option maxRecDepth 20000 in
theorem ggX4_init_X1_init : GoodIn wsX4_init wsX1_init := goodIn_r _ [42, 43, 2, 3, 44, 13, 14, 45, 46, 47, 32, 33, 34, 35, 36, 37, 38, 39, 40, 76, 77, 72, 73, 74, 75] (by decide +kernel) (by decide +kernel)
set_option maxRecDepth 20000 in
theorem gX4_init_X1_init_n18 : GoodIn wsX4_init (wsX1_init) := ggX4_init_X1_init
set_option maxRecDepth 20000 in
theorem ggX4_init_X3_init : GoodIn wsX4_init wsX3_init := goodIn_r _ [33, 34, 2, 3, 35, 36, 37, 38, 39, 40, 76, 77] (by decide +kernel) (by decide +kernel)
set_option maxRecDepth 20000 in
theorem gX4_init_X3_init : GoodIn wsX4_init (wsX3_init) := ggX4_init_X3_init
set_option maxRecDepth 20000 in
theorem ggX4_init_X3_add : GoodIn wsX4_init wsX3_add := goodIn_r _ [52, 53, 40, 76, 77] (by decide +kernel) (by decide +kernel)
set_option maxRecDepth 20000 in
theorem gX4_init_X3_add : GoodIn wsX4_init (wsV RX4 32 RX3 yX3_add wsX3_add) := goodIn_app (goodIn_of _ (by decide +kernel)) ggX4_init_X3_add
set_option maxRecDepth 20000 in
theorem ggX4_init_X0_init : GoodIn wsX4_init wsX0_init := goodIn_r _ [55, 56, 2, 3, 57, 13, 14, 58, 59, 60, 32, 33, 34, 35, 36, 37, 38, 39, 40, 76, 77, 78, 79] (by decide +kernel) (by decide +kernel)
set_option maxRecDepth 20000 in
theorem gX4_init_X0_init_n37 : GoodIn wsX4_init (wsX0_init) := ggX4_init_X0_init
theorem dX4_init_0 : decode cX4_init 0 = .ok (.aload_n 0, 1) := by decide +kernel
theorem dX4_init_1 : decode cX4_init 1 = .ok (.invokespecial 1, 3) := by decide +kernel
theorem dX4_init_4 : decode cX4_init 4 = .ok (.aload_n 0, 1) := by decide +kernel
theorem dX4_init_5 : decode cX4_init 5 = .ok (.bipush 10, 2) := by decide +kernel
theorem dX4_init_7 : decode cX4_init 7 = .ok (.anewarray 9, 3) := by decide +kernel
theorem dX4_init_10 : decode cX4_init 10 = .ok (.putfield 11, 3) := by decide +kernel
theorem dX4_init_13 : decode cX4_init 13 = .ok (.iconst 0, 1) := by decide +kernel
theorem dX4_init_14 : decode cX4_init 14 = .ok (.istore_n 1, 1) := by decide +kernel
theorem dX4_init_15 : decode cX4_init 15 = .ok (.iload_n 1, 1) := by decide +kernel
theorem dX4_init_16 : decode cX4_init 16 = .ok (.aload_n 0, 1) := by decide +kernel
theorem dX4_init_17 : decode cX4_init 17 = .ok (.getfield 11, 3) := by decide +kernel
theorem dX4_init_20 : decode cX4_init 20 = .ok (.arraylength, 1) := by decide +kernel
theorem dX4_init_21 : decode cX4_init 21 = .ok (.if_icmp .ge 22, 3) := by decide +kernel
theorem dX4_init_24 : decode cX4_init 24 = .ok (.aload_n 0, 1) := by decide +kernel
theorem dX4_init_25 : decode cX4_init 25 = .ok (.getfield 11, 3) := by decide +kernel
theorem dX4_init_28 : decode cX4_init 28 = .ok (.iload_n 1, 1) := by decide +kernel
theorem dX4_init_29 : decode cX4_init 29 = .ok (.new 9, 3) := by decide +kernel
theorem dX4_init_32 : decode cX4_init 32 = .ok (.dup, 1) := by decide +kernel
theorem dX4_init_33 : decode cX4_init 33 = .ok (.invokespecial 15, 3) := by decide +kernel
theorem dX4_init_36 : decode cX4_init 36 = .ok (.aastore, 1) := by decide +kernel
theorem dX4_init_37 : decode cX4_init 37 = .ok (.iinc 1 1, 3) := by decide +kernel
theorem dX4_init_40 : decode cX4_init 40 = .ok (.goto (-25), 3) := by decide +kernel
theorem dX4_init_43 : decode cX4_init 43 = .ok (.aload_n 0, 1) := by decide +kernel
theorem dX4_init_44 : decode cX4_init 44 = .ok (.new 16, 3) := by decide +kernel
theorem dX4_init_47 : decode cX4_init 47 = .ok (.dup, 1) := by decide +kernel
theorem dX4_init_48 : decode cX4_init 48 = .ok (.invokespecial 18, 3) := by decide +kernel
theorem dX4_init_51 : decode cX4_init 51 = .ok (.putfield 19, 3) := by decide +kernel
theorem dX4_init_54 : decode cX4_init 54 = .ok (.aload_n 0, 1) := by decide +kernel
theorem dX4_init_55 : decode cX4_init 55 = .ok (.new 23, 3) := by decide +kernel
theorem dX4_init_58 : decode cX4_init 58 = .ok (.dup, 1) := by decide +kernel
theorem dX4_init_59 : decode cX4_init 59 = .ok (.bipush 8, 2) := by decide +kernel
theorem dX4_init_61 : decode cX4_init 61 = .ok (.invokespecial 25, 3) := by decide +kernel
theorem dX4_init_64 : decode cX4_init 64 = .ok (.putfield 28, 3) := by decide +kernel
theorem dX4_init_67 : decode cX4_init 67 = .ok (.iconst 0, 1) := by decide +kernel
theorem dX4_init_68 : decode cX4_init 68 = .ok (.istore_n 1, 1) := by decide +kernel
theorem dX4_init_69 : decode cX4_init 69 = .ok (.iload_n 1, 1) := by decide +kernel
theorem dX4_init_70 : decode cX4_init 70 = .ok (.bipush 8, 2) := by decide +kernel
theorem dX4_init_72 : decode cX4_init 72 = .ok (.if_icmp .ge 19, 3) := by decide +kernel
theorem dX4_init_75 : decode cX4_init 75 = .ok (.aload_n 0, 1) := by decide +kernel
theorem dX4_init_76 : decode cX4_init 76 = .ok (.getfield 28, 3) := by decide +kernel
theorem dX4_init_79 : decode cX4_init 79 = .ok (.iconst 1, 1) := by decide +kernel
theorem dX4_init_80 : decode cX4_init 80 = .ok (.iload_n 1, 1) := by decide +kernel
theorem dX4_init_81 : decode cX4_init 81 = .ok (.ishl, 1) := by decide +kernel
theorem dX4_init_82 : decode cX4_init 82 = .ok (.invokevirtual 32, 3) := by decide +kernel
theorem dX4_init_85 : decode cX4_init 85 = .ok (.iinc 1 1, 3) := by decide +kernel
theorem dX4_init_88 : decode cX4_init 88 = .ok (.goto (-19), 3) := by decide +kernel
theorem dX4_init_91 : decode cX4_init 91 = .ok (.aload_n 0, 1) := by decide +kernel
theorem dX4_init_92 : decode cX4_init 92 = .ok (.new 35, 3) := by decide +kernel
theorem dX4_init_95 : decode cX4_init 95 = .ok (.dup, 1) := by decide +kernel
theorem dX4_init_96 : decode cX4_init 96 = .ok (.invokespecial 37, 3) := by decide +kernel
theorem dX4_init_99 : decode cX4_init 99 = .ok (.putfield 38, 3) := by decide +kernel
theorem dX4_init_102 : decode cX4_init 102 = .ok (.aload_n 0, 1) := by decide +kernel
theorem dX4_init_103 : decode cX4_init 103 = .ok (.new 9, 3) := by decide +kernel
theorem dX4_init_106 : decode cX4_init 106 = .ok (.dup, 1) := by decide +kernel
theorem dX4_init_107 : decode cX4_init 107 = .ok (.invokespecial 15, 3) := by decide +kernel
theorem dX4_init_110 : decode cX4_init 110 = .ok (.putfield 42, 3) := by decide +kernel
theorem dX4_init_113 : decode cX4_init 113 = .ok (.aload_n 0, 1) := by decide +kernel
theorem dX4_init_114 : decode cX4_init 114 = .ok (.new 23, 3) := by decide +kernel
theorem dX4_init_117 : decode cX4_init 117 = .ok (.dup, 1) := by decide +kernel
theorem dX4_init_118 : decode cX4_init 118 = .ok (.bipush 8, 2) := by decide +kernel
theorem dX4_init_120 : decode cX4_init 120 = .ok (.invokespecial 25, 3) := by decide +kernel
theorem dX4_init_123 : decode cX4_init 123 = .ok (.putfield 46, 3) := by decide +kernel
theorem dX4_init_126 : decode cX4_init 126 = .ok (.aload_n 0, 1) := by decide +kernel
theorem dX4_init_127 : decode cX4_init 127 = .ok (.new 35, 3) := by decide +kernel
theorem dX4_init_130 : decode cX4_init 130 = .ok (.dup, 1) := by decide +kernel
theorem dX4_init_131 : decode cX4_init 131 = .ok (.invokespecial 37, 3) := by decide +kernel
theorem dX4_init_134 : decode cX4_init 134 = .ok (.putfield 49, 3) := by decide +kernel
theorem dX4_init_137 : decode cX4_init 137 = .ok (.return_, 1) := by decide +kernel
set_option maxRecDepth 20000 in
theorem ggX4_token_X4_programForToken : GoodIn wsX4_token wsX4_programForToken := goodIn_ca (goodIn_ca (goodIn_ca (goodIn_r _ [5, 6, 7, 8, 9, 10, 11, 12, 4, 13, 14, 15, 16, 17, 18, 19, 163, 164, 165, 166, 167, 168, 169, 170, 171, 172, 173, 174, 175] (by decide +kernel) (by decide +kernel)) (goodIn_sub (fun _ h => List.mem_cons_of_mem _ (List.mem_append_left _ (List.mem_append_left _ (List.mem_append_right _ h)))) (by decide +kernel))) (goodIn_sub (fun _ h => List.mem_cons_of_mem _ (List.mem_append_left _ (List.mem_append_right _ h))) (by decide +kernel))) (goodIn_sub (fun _ h => List.mem_cons_of_mem _ (List.mem_append_right _ h)) (by decide +kernel))
set_option maxRecDepth 20000 in
theorem gX4_token_X4_programForToken : GoodIn wsX4_token (wsV RX4 52 RX4 yX4_programForToken wsX4_programForToken) := goodIn_app (goodIn_of _ (by decide +kernel)) ggX4_token_X4_programForToken
set_option maxRecDepth 20000 in
theorem ggX4_token_X3_add : GoodIn wsX4_token wsX3_add := goodIn_r _ [24, 25, 26, 167, 168] (by decide +kernel) (by decide +kernel)
set_option maxRecDepth 20000 in
theorem gX4_token_X3_add : GoodIn wsX4_token (wsV RX4 32 RX3 yX3_add wsX3_add) := goodIn_app (goodIn_of _ (by decide +kernel)) ggX4_token_X3_add
set_option maxRecDepth 20000 in
theorem ggX4_token_X4_renewFrom : GoodIn wsX4_token wsX4_renewFrom := goodIn_r _ [30, 16, 31, 32, 33, 34, 35, 36, 37, 38, 39, 40, 41, 42, 43, 23, 44, 25, 45, 46, 47, 48, 26, 49, 50, 51, 52, 53, 54, 55, 56, 57, 58, 59, 60, 61, 62, 63, 64, 65, 21, 22, 24, 66, 67, 68, 69, 70, 71, 72, 73, 74, 75, 76, 77, 78, 79, 80, 81, 82, 83, 84, 85, 86, 87, 88, 89, 90, 91, 92, 93, 94, 95, 96, 97, 98, 99, 100, 101, 102, 103, 104, 105, 106, 107, 108, 109, 110, 111, 112, 113, 114, 115, 116, 117, 118, 119, 120, 121, 122, 123, 124, 125, 126, 127, 128, 129, 130, 131, 132, 133, 134, 135, 136, 137, 138, 139, 140, 141, 142, 143, 144, 145, 146, 4, 147, 148, 149, 150, 151, 152, 153, 154, 155, 156, 157, 158, 159, 160, 161, 162, 169, 170, 171, 172, 173, 174, 175, 176, 177, 178, 179, 163, 164, 165, 166, 167, 168, 180, 181] (by decide +kernel) (by decide +kernel)
set_option maxRecDepth 20000 in
theorem gX4_token_X4_renewFrom : GoodIn wsX4_token (wsV RX4 59 RX4 yX4_renewFrom wsX4_renewFrom) := goodIn_app (goodIn_of _ (by decide +kernel)) ggX4_token_X4_renewFrom
theorem dX4_token_0 : decode cX4_token 0 = .ok (.aload_n 0, 1) := by decide +kernel
theorem dX4_token_1 : decode cX4_token 1 = .ok (.iload_n 1, 1) := by decide +kernel
theorem dX4_token_2 : decode cX4_token 2 = .ok (.iload_n 2, 1) := by decide +kernel
theorem dX4_token_3 : decode cX4_token 3 = .ok (.invokevirtual 52, 3) := by decide +kernel
theorem dX4_token_6 : decode cX4_token 6 = .ok (.astore_n 3, 1) := by decide +kernel
theorem dX4_token_7 : decode cX4_token 7 = .ok (.aload_n 3, 1) := by decide +kernel
theorem dX4_token_8 : decode cX4_token 8 = .ok (.getfield 56, 3) := by decide +kernel
theorem dX4_token_11 : decode cX4_token 11 = .ok (.iload_n 2, 1) := by decide +kernel
theorem dX4_token_12 : decode cX4_token 12 = .ok (.invokevirtual 32, 3) := by decide +kernel
theorem dX4_token_15 : decode cX4_token 15 = .ok (.aload_n 0, 1) := by decide +kernel
theorem dX4_token_16 : decode cX4_token 16 = .ok (.iload_n 1, 1) := by decide +kernel
theorem dX4_token_17 : decode cX4_token 17 = .ok (.invokevirtual 59, 3) := by decide +kernel
theorem dX4_token_20 : decode cX4_token 20 = .ok (.aload_n 3, 1) := by decide +kernel
theorem dX4_token_21 : decode cX4_token 21 = .ok (.getfield 56, 3) := by decide +kernel
theorem dX4_token_24 : decode cX4_token 24 = .ok (.getfield 62, 3) := by decide +kernel
theorem dX4_token_27 : decode cX4_token 27 = .ok (.ireturn, 1) := by decide +kernel
set_option maxRecDepth 20000 in
theorem ggX4_untoken_X4_programAt : GoodIn wsX4_untoken wsX4_programAt := goodIn_ca (goodIn_r _ [7, 8, 9, 10, 160, 161, 162, 163, 164, 165, 166] (by decide +kernel) (by decide +kernel)) (goodIn_sub (fun _ h => List.mem_cons_of_mem _ (List.mem_append_right _ h)) (by decide +kernel))
set_option maxRecDepth 20000 in
theorem gX4_untoken_X4_programAt : GoodIn wsX4_untoken (wsV RX4 66 RX4 yX4_programAt wsX4_programAt) := goodIn_app (goodIn_of _ (by decide +kernel)) ggX4_untoken_X4_programAt
set_option maxRecDepth 20000 in
theorem ggX4_untoken_X3_cutTo : GoodIn wsX4_untoken wsX3_cutTo := goodIn_r _ [15, 16, 17, 18, 19, 20, 21, 22, 23, 158, 159] (by decide +kernel) (by decide +kernel)
set_option maxRecDepth 20000 in
theorem gX4_untoken_X3_cutTo : GoodIn wsX4_untoken (wsV RX4 77 RX3 yX3_cutTo wsX3_cutTo) := goodIn_app (goodIn_of _ (by decide +kernel)) ggX4_untoken_X3_cutTo
set_option maxRecDepth 20000 in
theorem ggX4_untoken_X4_renewFrom : GoodIn wsX4_untoken wsX4_renewFrom := goodIn_r _ [27, 10, 28, 29, 30, 31, 32, 33, 34, 35, 36, 37, 38, 39, 40, 14, 41, 16, 42, 43, 44, 45, 46, 47, 48, 49, 50, 51, 52, 53, 54, 55, 56, 57, 58, 59, 60, 61, 62, 63, 64, 65, 66, 67, 68, 69, 70, 71, 72, 73, 74, 75, 76, 77, 78, 79, 80, 12, 13, 15, 17, 18, 19, 20, 21, 22, 23, 81, 82, 83, 84, 85, 86, 87, 88, 89, 90, 91, 92, 93, 94, 95, 96, 97, 98, 99, 100, 101, 102, 103, 104, 105, 106, 107, 108, 109, 110, 111, 112, 113, 114, 115, 116, 117, 118, 119, 120, 121, 122, 123, 124, 125, 126, 127, 128, 129, 130, 131, 132, 133, 134, 135, 136, 137, 6, 138, 139, 140, 141, 142, 143, 144, 145, 146, 147, 148, 149, 150, 151, 152, 153, 160, 161, 162, 163, 164, 165, 166, 167, 168, 169, 170, 154, 155, 156, 157, 158, 159, 171, 172] (by decide +kernel) (by decide +kernel)
set_option maxRecDepth 20000 in
theorem gX4_untoken_X4_renewFrom : GoodIn wsX4_untoken (wsV RX4 59 RX4 yX4_renewFrom wsX4_renewFrom) := goodIn_app (goodIn_of _ (by decide +kernel)) ggX4_untoken_X4_renewFrom
theorem dX4_untoken_0 : decode cX4_untoken 0 = .ok (.aload_n 0, 1) := by decide +kernel
theorem dX4_untoken_1 : decode cX4_untoken 1 = .ok (.iload_n 1, 1) := by decide +kernel
theorem dX4_untoken_2 : decode cX4_untoken 2 = .ok (.invokevirtual 66, 3) := by decide +kernel
theorem dX4_untoken_5 : decode cX4_untoken 5 = .ok (.astore_n 3, 1) := by decide +kernel
theorem dX4_untoken_6 : decode cX4_untoken 6 = .ok (.iload_n 2, 1) := by decide +kernel
theorem dX4_untoken_7 : decode cX4_untoken 7 = .ok (.iconst 1, 1) := by decide +kernel
theorem dX4_untoken_8 : decode cX4_untoken 8 = .ok (.if_icmp .lt 9, 3) := by decide +kernel
theorem dX4_untoken_11 : decode cX4_untoken 11 = .ok (.iload_n 2, 1) := by decide +kernel
theorem dX4_untoken_12 : decode cX4_untoken 12 = .ok (.bipush 40, 2) := by decide +kernel
theorem dX4_untoken_14 : decode cX4_untoken 14 = .ok (.if_icmp .le 13, 3) := by decide +kernel
theorem dX4_untoken_17 : decode cX4_untoken 17 = .ok (.new 70, 3) := by decide +kernel
theorem dX4_untoken_20 : decode cX4_untoken 20 = .ok (.dup, 1) := by decide +kernel
theorem dX4_untoken_21 : decode cX4_untoken 21 = .ok (.ldc 72, 2) := by decide +kernel
theorem dX4_untoken_23 : decode cX4_untoken 23 = .ok (.invokespecial 74, 3) := by decide +kernel
theorem dX4_untoken_26 : decode cX4_untoken 26 = .ok (.athrow, 1) := by decide +kernel
theorem dX4_untoken_27 : decode cX4_untoken 27 = .ok (.aload_n 3, 1) := by decide +kernel
theorem dX4_untoken_28 : decode cX4_untoken 28 = .ok (.getfield 56, 3) := by decide +kernel
theorem dX4_untoken_31 : decode cX4_untoken 31 = .ok (.aload_n 3, 1) := by decide +kernel
theorem dX4_untoken_32 : decode cX4_untoken 32 = .ok (.getfield 56, 3) := by decide +kernel
theorem dX4_untoken_35 : decode cX4_untoken 35 = .ok (.getfield 62, 3) := by decide +kernel
theorem dX4_untoken_38 : decode cX4_untoken 38 = .ok (.iload_n 2, 1) := by decide +kernel
theorem dX4_untoken_39 : decode cX4_untoken 39 = .ok (.isub, 1) := by decide +kernel
theorem dX4_untoken_40 : decode cX4_untoken 40 = .ok (.invokevirtual 77, 3) := by decide +kernel
theorem dX4_untoken_43 : decode cX4_untoken 43 = .ok (.aload_n 0, 1) := by decide +kernel
theorem dX4_untoken_44 : decode cX4_untoken 44 = .ok (.iload_n 1, 1) := by decide +kernel
theorem dX4_untoken_45 : decode cX4_untoken 45 = .ok (.invokevirtual 59, 3) := by decide +kernel
theorem dX4_untoken_48 : decode cX4_untoken 48 = .ok (.aload_n 3, 1) := by decide +kernel
theorem dX4_untoken_49 : decode cX4_untoken 49 = .ok (.getfield 56, 3) := by decide +kernel
theorem dX4_untoken_52 : decode cX4_untoken 52 = .ok (.getfield 62, 3) := by decide +kernel
theorem dX4_untoken_55 : decode cX4_untoken 55 = .ok (.ireturn, 1) := by decide +kernel
set_option maxRecDepth 20000 in
theorem ggX4_ofProgram_X4_programAt : GoodIn wsX4_ofProgram wsX4_programAt := goodIn_ca (goodIn_r _ [7, 8, 9, 10, 17, 18, 19, 20, 21, 22, 23] (by decide +kernel) (by decide +kernel)) (goodIn_sub (fun _ h => List.mem_cons_of_mem _ (List.mem_append_right _ h)) (by decide +kernel))
set_option maxRecDepth 20000 in
theorem gX4_ofProgram_X4_programAt : GoodIn wsX4_ofProgram (wsV RX4 66 RX4 yX4_programAt wsX4_programAt) := goodIn_app (goodIn_of _ (by decide +kernel)) ggX4_ofProgram_X4_programAt
theorem dX4_ofProgram_0 : decode cX4_ofProgram 0 = .ok (.aload_n 0, 1) := by decide +kernel
theorem dX4_ofProgram_1 : decode cX4_ofProgram 1 = .ok (.iload_n 1, 1) := by decide +kernel
theorem dX4_ofProgram_2 : decode cX4_ofProgram 2 = .ok (.invokevirtual 66, 3) := by decide +kernel
theorem dX4_ofProgram_5 : decode cX4_ofProgram 5 = .ok (.astore_n 3, 1) := by decide +kernel
theorem dX4_ofProgram_6 : decode cX4_ofProgram 6 = .ok (.iload_n 2, 1) := by decide +kernel
theorem dX4_ofProgram_7 : decode cX4_ofProgram 7 = .ok (.tableswitch 55 0 3 #[29, 37, 45, 50], 29) := by decide +kernel
theorem dX4_ofProgram_36 : decode cX4_ofProgram 36 = .ok (.aload_n 3, 1) := by decide +kernel
theorem dX4_ofProgram_37 : decode cX4_ofProgram 37 = .ok (.getfield 56, 3) := by decide +kernel
theorem dX4_ofProgram_40 : decode cX4_ofProgram 40 = .ok (.getfield 62, 3) := by decide +kernel
theorem dX4_ofProgram_43 : decode cX4_ofProgram 43 = .ok (.ireturn, 1) := by decide +kernel
theorem dX4_ofProgram_44 : decode cX4_ofProgram 44 = .ok (.aload_n 3, 1) := by decide +kernel
theorem dX4_ofProgram_45 : decode cX4_ofProgram 45 = .ok (.getfield 80, 3) := by decide +kernel
theorem dX4_ofProgram_48 : decode cX4_ofProgram 48 = .ok (.getfield 62, 3) := by decide +kernel
theorem dX4_ofProgram_51 : decode cX4_ofProgram 51 = .ok (.ireturn, 1) := by decide +kernel
theorem dX4_ofProgram_52 : decode cX4_ofProgram 52 = .ok (.aload_n 3, 1) := by decide +kernel
theorem dX4_ofProgram_53 : decode cX4_ofProgram 53 = .ok (.getfield 83, 3) := by decide +kernel
theorem dX4_ofProgram_56 : decode cX4_ofProgram 56 = .ok (.ireturn, 1) := by decide +kernel
theorem dX4_ofProgram_57 : decode cX4_ofProgram 57 = .ok (.aload_n 3, 1) := by decide +kernel
theorem dX4_ofProgram_58 : decode cX4_ofProgram 58 = .ok (.getfield 86, 3) := by decide +kernel
theorem dX4_ofProgram_61 : decode cX4_ofProgram 61 = .ok (.ireturn, 1) := by decide +kernel
theorem dX4_ofProgram_62 : decode cX4_ofProgram 62 = .ok (.new 70, 3) := by decide +kernel
theorem dX4_ofProgram_65 : decode cX4_ofProgram 65 = .ok (.dup, 1) := by decide +kernel
theorem dX4_ofProgram_66 : decode cX4_ofProgram 66 = .ok (.ldc 89, 2) := by decide +kernel
theorem dX4_ofProgram_68 : decode cX4_ofProgram 68 = .ok (.invokespecial 74, 3) := by decide +kernel
theorem dX4_ofProgram_71 : decode cX4_ofProgram 71 = .ok (.athrow, 1) := by decide +kernel
set_option maxRecDepth 20000 in
theorem ggX4_number_X4_programAt : GoodIn wsX4_number wsX4_programAt := goodIn_ca (goodIn_r _ [7, 1, 2, 8, 22, 23, 24, 25, 26, 27, 28] (by decide +kernel) (by decide +kernel)) (goodIn_sub (fun _ h => List.mem_cons_of_mem _ (List.mem_append_right _ h)) (by decide +kernel))
set_option maxRecDepth 20000 in
theorem gX4_number_X4_programAt : GoodIn wsX4_number (wsV RX4 66 RX4 yX4_programAt wsX4_programAt) := goodIn_app (goodIn_of _ (by decide +kernel)) ggX4_number_X4_programAt
set_option maxRecDepth 20000 in
theorem ggX4_number_X3_at : GoodIn wsX4_number wsX3_at := goodIn_r _ [13, 14, 15, 20, 21] (by decide +kernel) (by decide +kernel)
set_option maxRecDepth 20000 in
theorem gX4_number_X3_at : GoodIn wsX4_number (wsV RX4 96 RX3 yX3_at wsX3_at) := goodIn_app (goodIn_of _ (by decide +kernel)) ggX4_number_X3_at
theorem dX4_number_0 : decode cX4_number 0 = .ok (.aload_n 0, 1) := by decide +kernel
theorem dX4_number_1 : decode cX4_number 1 = .ok (.iload_n 1, 1) := by decide +kernel
theorem dX4_number_2 : decode cX4_number 2 = .ok (.invokevirtual 66, 3) := by decide +kernel
theorem dX4_number_5 : decode cX4_number 5 = .ok (.getfield 80, 3) := by decide +kernel
theorem dX4_number_8 : decode cX4_number 8 = .ok (.astore_n 3, 1) := by decide +kernel
theorem dX4_number_9 : decode cX4_number 9 = .ok (.iload_n 2, 1) := by decide +kernel
theorem dX4_number_10 : decode cX4_number 10 = .ok (.ifCond .lt 11, 3) := by decide +kernel
theorem dX4_number_13 : decode cX4_number 13 = .ok (.iload_n 2, 1) := by decide +kernel
theorem dX4_number_14 : decode cX4_number 14 = .ok (.aload_n 3, 1) := by decide +kernel
theorem dX4_number_15 : decode cX4_number 15 = .ok (.getfield 62, 3) := by decide +kernel
theorem dX4_number_18 : decode cX4_number 18 = .ok (.if_icmp .lt 13, 3) := by decide +kernel
theorem dX4_number_21 : decode cX4_number 21 = .ok (.new 91, 3) := by decide +kernel
theorem dX4_number_24 : decode cX4_number 24 = .ok (.dup, 1) := by decide +kernel
theorem dX4_number_25 : decode cX4_number 25 = .ok (.ldc 93, 2) := by decide +kernel
theorem dX4_number_27 : decode cX4_number 27 = .ok (.invokespecial 95, 3) := by decide +kernel
theorem dX4_number_30 : decode cX4_number 30 = .ok (.athrow, 1) := by decide +kernel
theorem dX4_number_31 : decode cX4_number 31 = .ok (.aload_n 3, 1) := by decide +kernel
theorem dX4_number_32 : decode cX4_number 32 = .ok (.iload_n 2, 1) := by decide +kernel
theorem dX4_number_33 : decode cX4_number 33 = .ok (.invokevirtual 96, 3) := by decide +kernel
theorem dX4_number_36 : decode cX4_number 36 = .ok (.ireturn, 1) := by decide +kernel
set_option maxRecDepth 20000 in
theorem ggX4_period_X4_programAt : GoodIn wsX4_period wsX4_programAt := goodIn_ca (goodIn_r _ [5, 6, 7, 8, 28, 29, 30, 31, 32, 33, 34] (by decide +kernel) (by decide +kernel)) (goodIn_sub (fun _ h => List.mem_cons_of_mem _ (List.mem_append_right _ h)) (by decide +kernel))
set_option maxRecDepth 20000 in
theorem gX4_period_X4_programAt : GoodIn wsX4_period (wsV RX4 66 RX4 yX4_programAt wsX4_programAt) := goodIn_app (goodIn_of _ (by decide +kernel)) ggX4_period_X4_programAt
set_option maxRecDepth 20000 in
theorem ggX4_period_X3_leastPeriod : GoodIn wsX4_period wsX3_leastPeriod := goodIn_r _ [13, 14, 15, 16, 17, 12, 18, 19, 20, 21, 22, 23, 35, 36] (by decide +kernel) (by decide +kernel)
set_option maxRecDepth 20000 in
theorem gX4_period_X3_leastPeriod : GoodIn wsX4_period (wsV RX4 100 RX3 yX3_leastPeriod wsX3_leastPeriod) := goodIn_app (goodIn_of _ (by decide +kernel)) ggX4_period_X3_leastPeriod
theorem dX4_period_0 : decode cX4_period 0 = .ok (.aload_n 0, 1) := by decide +kernel
theorem dX4_period_1 : decode cX4_period 1 = .ok (.iload_n 1, 1) := by decide +kernel
theorem dX4_period_2 : decode cX4_period 2 = .ok (.invokevirtual 66, 3) := by decide +kernel
theorem dX4_period_5 : decode cX4_period 5 = .ok (.getfield 80, 3) := by decide +kernel
theorem dX4_period_8 : decode cX4_period 8 = .ok (.invokevirtual 100, 3) := by decide +kernel
theorem dX4_period_11 : decode cX4_period 11 = .ok (.ireturn, 1) := by decide +kernel
theorem dX4_programAt_0 : decode cX4_programAt 0 = .ok (.iload_n 1, 1) := by decide +kernel
theorem dX4_programAt_1 : decode cX4_programAt 1 = .ok (.ifCond .lt 12, 3) := by decide +kernel
theorem dX4_programAt_4 : decode cX4_programAt 4 = .ok (.iload_n 1, 1) := by decide +kernel
theorem dX4_programAt_5 : decode cX4_programAt 5 = .ok (.aload_n 0, 1) := by decide +kernel
theorem dX4_programAt_6 : decode cX4_programAt 6 = .ok (.getfield 11, 3) := by decide +kernel
theorem dX4_programAt_9 : decode cX4_programAt 9 = .ok (.arraylength, 1) := by decide +kernel
theorem dX4_programAt_10 : decode cX4_programAt 10 = .ok (.if_icmp .lt 13, 3) := by decide +kernel
theorem dX4_programAt_13 : decode cX4_programAt 13 = .ok (.new 91, 3) := by decide +kernel
theorem dX4_programAt_16 : decode cX4_programAt 16 = .ok (.dup, 1) := by decide +kernel
theorem dX4_programAt_17 : decode cX4_programAt 17 = .ok (.ldc 104, 2) := by decide +kernel
theorem dX4_programAt_19 : decode cX4_programAt 19 = .ok (.invokespecial 95, 3) := by decide +kernel
theorem dX4_programAt_22 : decode cX4_programAt 22 = .ok (.athrow, 1) := by decide +kernel
theorem dX4_programAt_23 : decode cX4_programAt 23 = .ok (.aload_n 0, 1) := by decide +kernel
theorem dX4_programAt_24 : decode cX4_programAt 24 = .ok (.getfield 11, 3) := by decide +kernel
theorem dX4_programAt_27 : decode cX4_programAt 27 = .ok (.iload_n 1, 1) := by decide +kernel
theorem dX4_programAt_28 : decode cX4_programAt 28 = .ok (.aaload, 1) := by decide +kernel
theorem dX4_programAt_29 : decode cX4_programAt 29 = .ok (.areturn, 1) := by decide +kernel
set_option maxRecDepth 20000 in
theorem ggX4_programForToken_X4_programAt : GoodIn wsX4_programForToken wsX4_programAt := goodIn_ca (goodIn_r _ [9, 10, 11, 12, 22, 23, 24, 25, 26, 27, 28] (by decide +kernel) (by decide +kernel)) (goodIn_sub (fun _ h => List.mem_cons_of_mem _ (List.mem_append_right _ h)) (by decide +kernel))
set_option maxRecDepth 20000 in
theorem gX4_programForToken_X4_programAt : GoodIn wsX4_programForToken (wsV RX4 66 RX4 yX4_programAt wsX4_programAt) := goodIn_app (goodIn_of _ (by decide +kernel)) ggX4_programForToken_X4_programAt
set_option maxRecDepth 20000 in
theorem ggX4_programForToken_X4_isToken : GoodIn wsX4_programForToken wsX4_isToken := goodIn_r _ [15] (by decide +kernel) (by decide +kernel)
set_option maxRecDepth 20000 in
theorem gX4_programForToken_X4_isToken : GoodIn wsX4_programForToken (va_wsS RX4 106 yX4_isToken wsX4_isToken) := goodIn_app (goodIn_of _ (by decide +kernel)) ggX4_programForToken_X4_isToken
theorem dX4_programForToken_0 : decode cX4_programForToken 0 = .ok (.aload_n 0, 1) := by decide +kernel
theorem dX4_programForToken_1 : decode cX4_programForToken 1 = .ok (.iload_n 1, 1) := by decide +kernel
theorem dX4_programForToken_2 : decode cX4_programForToken 2 = .ok (.invokevirtual 66, 3) := by decide +kernel
theorem dX4_programForToken_5 : decode cX4_programForToken 5 = .ok (.astore_n 3, 1) := by decide +kernel
theorem dX4_programForToken_6 : decode cX4_programForToken 6 = .ok (.iload_n 2, 1) := by decide +kernel
theorem dX4_programForToken_7 : decode cX4_programForToken 7 = .ok (.invokestatic 106, 3) := by decide +kernel
theorem dX4_programForToken_10 : decode cX4_programForToken 10 = .ok (.ifCond .ne 13, 3) := by decide +kernel
theorem dX4_programForToken_13 : decode cX4_programForToken 13 = .ok (.new 70, 3) := by decide +kernel
theorem dX4_programForToken_16 : decode cX4_programForToken 16 = .ok (.dup, 1) := by decide +kernel
theorem dX4_programForToken_17 : decode cX4_programForToken 17 = .ok (.ldc 110, 2) := by decide +kernel
theorem dX4_programForToken_19 : decode cX4_programForToken 19 = .ok (.invokespecial 74, 3) := by decide +kernel
theorem dX4_programForToken_22 : decode cX4_programForToken 22 = .ok (.athrow, 1) := by decide +kernel
theorem dX4_programForToken_23 : decode cX4_programForToken 23 = .ok (.aload_n 3, 1) := by decide +kernel
theorem dX4_programForToken_24 : decode cX4_programForToken 24 = .ok (.getfield 56, 3) := by decide +kernel
theorem dX4_programForToken_27 : decode cX4_programForToken 27 = .ok (.getfield 62, 3) := by decide +kernel
theorem dX4_programForToken_30 : decode cX4_programForToken 30 = .ok (.bipush 40, 2) := by decide +kernel
theorem dX4_programForToken_32 : decode cX4_programForToken 32 = .ok (.if_icmp .lt 13, 3) := by decide +kernel
theorem dX4_programForToken_35 : decode cX4_programForToken 35 = .ok (.new 112, 3) := by decide +kernel
theorem dX4_programForToken_38 : decode cX4_programForToken 38 = .ok (.dup, 1) := by decide +kernel
theorem dX4_programForToken_39 : decode cX4_programForToken 39 = .ok (.ldc 114, 2) := by decide +kernel
theorem dX4_programForToken_41 : decode cX4_programForToken 41 = .ok (.invokespecial 116, 3) := by decide +kernel
theorem dX4_programForToken_44 : decode cX4_programForToken 44 = .ok (.athrow, 1) := by decide +kernel
theorem dX4_programForToken_45 : decode cX4_programForToken 45 = .ok (.aload_n 3, 1) := by decide +kernel
theorem dX4_programForToken_46 : decode cX4_programForToken 46 = .ok (.areturn, 1) := by decide +kernel
theorem dX4_isToken_0 : decode cX4_isToken 0 = .ok (.iload_n 0, 1) := by decide +kernel
theorem dX4_isToken_1 : decode cX4_isToken 1 = .ok (.ifCond .lt 9, 3) := by decide +kernel
theorem dX4_isToken_4 : decode cX4_isToken 4 = .ok (.iload_n 0, 1) := by decide +kernel
theorem dX4_isToken_5 : decode cX4_isToken 5 = .ok (.bipush 7, 2) := by decide +kernel
theorem dX4_isToken_7 : decode cX4_isToken 7 = .ok (.if_icmp .le 39, 3) := by decide +kernel
theorem dX4_isToken_10 : decode cX4_isToken 10 = .ok (.iload_n 0, 1) := by decide +kernel
theorem dX4_isToken_11 : decode cX4_isToken 11 = .ok (.bipush 10, 2) := by decide +kernel
theorem dX4_isToken_13 : decode cX4_isToken 13 = .ok (.if_icmp .eq 33, 3) := by decide +kernel
theorem dX4_isToken_16 : decode cX4_isToken 16 = .ok (.iload_n 0, 1) := by decide +kernel
theorem dX4_isToken_17 : decode cX4_isToken 17 = .ok (.bipush 11, 2) := by decide +kernel
theorem dX4_isToken_19 : decode cX4_isToken 19 = .ok (.if_icmp .eq 27, 3) := by decide +kernel
theorem dX4_isToken_22 : decode cX4_isToken 22 = .ok (.iload_n 0, 1) := by decide +kernel
theorem dX4_isToken_23 : decode cX4_isToken 23 = .ok (.bipush 22, 2) := by decide +kernel
theorem dX4_isToken_25 : decode cX4_isToken 25 = .ok (.if_icmp .lt 9, 3) := by decide +kernel
theorem dX4_isToken_28 : decode cX4_isToken 28 = .ok (.iload_n 0, 1) := by decide +kernel
theorem dX4_isToken_29 : decode cX4_isToken 29 = .ok (.bipush 33, 2) := by decide +kernel
theorem dX4_isToken_31 : decode cX4_isToken 31 = .ok (.if_icmp .le 15, 3) := by decide +kernel
theorem dX4_isToken_34 : decode cX4_isToken 34 = .ok (.iload_n 0, 1) := by decide +kernel
theorem dX4_isToken_35 : decode cX4_isToken 35 = .ok (.bipush 44, 2) := by decide +kernel
theorem dX4_isToken_37 : decode cX4_isToken 37 = .ok (.if_icmp .lt 13, 3) := by decide +kernel
theorem dX4_isToken_40 : decode cX4_isToken 40 = .ok (.iload_n 0, 1) := by decide +kernel
theorem dX4_isToken_41 : decode cX4_isToken 41 = .ok (.bipush 49, 2) := by decide +kernel
theorem dX4_isToken_43 : decode cX4_isToken 43 = .ok (.if_icmp .gt 7, 3) := by decide +kernel
theorem dX4_isToken_46 : decode cX4_isToken 46 = .ok (.iconst 1, 1) := by decide +kernel
theorem dX4_isToken_47 : decode cX4_isToken 47 = .ok (.goto 4, 3) := by decide +kernel
theorem dX4_isToken_50 : decode cX4_isToken 50 = .ok (.iconst 0, 1) := by decide +kernel
theorem dX4_isToken_51 : decode cX4_isToken 51 = .ok (.ireturn, 1) := by decide +kernel
set_option maxRecDepth 20000 in
theorem ggX4_renewFrom_X1_compile : GoodIn wsX4_renewFrom wsX1_compile := goodIn_r _ [7, 8, 9, 10, 11, 12, 13, 14, 15, 16, 17, 18, 19, 20, 21, 22, 23, 24, 25, 6, 26, 27, 28, 29, 30, 31, 32, 33, 34, 35, 36, 37, 38, 39, 40, 41, 42, 43, 44, 45, 46, 47, 48, 49, 50, 51, 52, 53, 54, 55, 56, 57, 58, 59, 60, 61, 62, 63, 64, 65, 66, 67, 68, 69, 70, 71, 72, 73, 74, 75, 76, 77, 78, 79, 80, 81, 82, 83, 84, 85, 86, 87, 88, 89, 90, 91, 92, 93, 94, 95, 96, 97, 98, 99, 100, 101, 102, 103, 104, 105, 106, 107, 108, 109, 110, 111, 112, 113, 114, 115, 116, 117, 118, 119, 120, 148, 149, 150, 151, 152, 153, 154, 155, 156, 157] (by decide +kernel) (by decide +kernel)
set_option maxRecDepth 20000 in
theorem gX4_renewFrom_X1_compile : GoodIn wsX4_renewFrom (wsV RX4 117 RX1 yX1_compile wsX1_compile) := goodIn_app (goodIn_of _ (by decide +kernel)) ggX4_renewFrom_X1_compile
set_option maxRecDepth 20000 in
theorem ggX4_renewFrom_X4_weave : GoodIn wsX4_renewFrom wsX4_weave := goodIn_r _ [125, 126, 1, 127, 128, 129, 130, 131, 132, 133, 134, 135, 13, 14, 15, 16, 17, 136, 40, 41, 42, 22, 137, 19, 20, 21, 138, 124, 139, 140, 85, 86, 87, 141, 142, 143, 144, 145, 146, 147, 152, 153, 154, 155, 158, 159, 156, 157] (by decide +kernel) (by decide +kernel)
set_option maxRecDepth 20000 in
theorem gX4_renewFrom_X4_weave : GoodIn wsX4_renewFrom (wsV RX4 121 RX4 yX4_weave wsX4_weave) := goodIn_app (goodIn_of _ (by decide +kernel)) ggX4_renewFrom_X4_weave
theorem dX4_renewFrom_0 : decode cX4_renewFrom 0 = .ok (.iload_n 1, 1) := by decide +kernel
theorem dX4_renewFrom_1 : decode cX4_renewFrom 1 = .ok (.iconst 4, 1) := by decide +kernel
theorem dX4_renewFrom_2 : decode cX4_renewFrom 2 = .ok (.if_icmp .lt 7, 3) := by decide +kernel
theorem dX4_renewFrom_5 : decode cX4_renewFrom 5 = .ok (.iconst 1, 1) := by decide +kernel
theorem dX4_renewFrom_6 : decode cX4_renewFrom 6 = .ok (.goto 4, 3) := by decide +kernel
theorem dX4_renewFrom_9 : decode cX4_renewFrom 9 = .ok (.iconst 0, 1) := by decide +kernel
theorem dX4_renewFrom_10 : decode cX4_renewFrom 10 = .ok (.istore_n 2, 1) := by decide +kernel
theorem dX4_renewFrom_11 : decode cX4_renewFrom 11 = .ok (.iload_n 1, 1) := by decide +kernel
theorem dX4_renewFrom_12 : decode cX4_renewFrom 12 = .ok (.istore_n 3, 1) := by decide +kernel
theorem dX4_renewFrom_13 : decode cX4_renewFrom 13 = .ok (.iload_n 2, 1) := by decide +kernel
theorem dX4_renewFrom_14 : decode cX4_renewFrom 14 = .ok (.ifCond .eq 36, 3) := by decide +kernel
theorem dX4_renewFrom_17 : decode cX4_renewFrom 17 = .ok (.iload_n 3, 1) := by decide +kernel
theorem dX4_renewFrom_18 : decode cX4_renewFrom 18 = .ok (.aload_n 0, 1) := by decide +kernel
theorem dX4_renewFrom_19 : decode cX4_renewFrom 19 = .ok (.getfield 11, 3) := by decide +kernel
theorem dX4_renewFrom_22 : decode cX4_renewFrom 22 = .ok (.arraylength, 1) := by decide +kernel
theorem dX4_renewFrom_23 : decode cX4_renewFrom 23 = .ok (.if_icmp .ge 27, 3) := by decide +kernel
theorem dX4_renewFrom_26 : decode cX4_renewFrom 26 = .ok (.aload_n 0, 1) := by decide +kernel
theorem dX4_renewFrom_27 : decode cX4_renewFrom 27 = .ok (.getfield 19, 3) := by decide +kernel
theorem dX4_renewFrom_30 : decode cX4_renewFrom 30 = .ok (.aload_n 0, 1) := by decide +kernel
theorem dX4_renewFrom_31 : decode cX4_renewFrom 31 = .ok (.getfield 11, 3) := by decide +kernel
theorem dX4_renewFrom_34 : decode cX4_renewFrom 34 = .ok (.iload_n 3, 1) := by decide +kernel
theorem dX4_renewFrom_35 : decode cX4_renewFrom 35 = .ok (.aload_n 0, 1) := by decide +kernel
theorem dX4_renewFrom_36 : decode cX4_renewFrom 36 = .ok (.getfield 11, 3) := by decide +kernel
theorem dX4_renewFrom_39 : decode cX4_renewFrom 39 = .ok (.iload_n 3, 1) := by decide +kernel
theorem dX4_renewFrom_40 : decode cX4_renewFrom 40 = .ok (.aaload, 1) := by decide +kernel
theorem dX4_renewFrom_41 : decode cX4_renewFrom 41 = .ok (.invokevirtual 117, 3) := by decide +kernel
theorem dX4_renewFrom_44 : decode cX4_renewFrom 44 = .ok (.iinc 3 1, 3) := by decide +kernel
theorem dX4_renewFrom_47 : decode cX4_renewFrom 47 = .ok (.goto (-34), 3) := by decide +kernel
theorem dX4_renewFrom_50 : decode cX4_renewFrom 50 = .ok (.iconst 0, 1) := by decide +kernel
theorem dX4_renewFrom_51 : decode cX4_renewFrom 51 = .ok (.istore_n 3, 1) := by decide +kernel
theorem dX4_renewFrom_52 : decode cX4_renewFrom 52 = .ok (.iload_n 3, 1) := by decide +kernel
theorem dX4_renewFrom_53 : decode cX4_renewFrom 53 = .ok (.iconst 4, 1) := by decide +kernel
theorem dX4_renewFrom_54 : decode cX4_renewFrom 54 = .ok (.if_icmp .ge 36, 3) := by decide +kernel
theorem dX4_renewFrom_57 : decode cX4_renewFrom 57 = .ok (.iload_n 2, 1) := by decide +kernel
theorem dX4_renewFrom_58 : decode cX4_renewFrom 58 = .ok (.ifCond .ne 8, 3) := by decide +kernel
theorem dX4_renewFrom_61 : decode cX4_renewFrom 61 = .ok (.iload_n 3, 1) := by decide +kernel
theorem dX4_renewFrom_62 : decode cX4_renewFrom 62 = .ok (.iload_n 1, 1) := by decide +kernel
theorem dX4_renewFrom_63 : decode cX4_renewFrom 63 = .ok (.if_icmp .ne 21, 3) := by decide +kernel
theorem dX4_renewFrom_66 : decode cX4_renewFrom 66 = .ok (.aload_n 0, 1) := by decide +kernel
theorem dX4_renewFrom_67 : decode cX4_renewFrom 67 = .ok (.getfield 19, 3) := by decide +kernel
theorem dX4_renewFrom_70 : decode cX4_renewFrom 70 = .ok (.aload_n 0, 1) := by decide +kernel
theorem dX4_renewFrom_71 : decode cX4_renewFrom 71 = .ok (.getfield 11, 3) := by decide +kernel
theorem dX4_renewFrom_74 : decode cX4_renewFrom 74 = .ok (.iload_n 3, 1) := by decide +kernel
theorem dX4_renewFrom_75 : decode cX4_renewFrom 75 = .ok (.aload_n 0, 1) := by decide +kernel
theorem dX4_renewFrom_76 : decode cX4_renewFrom 76 = .ok (.getfield 11, 3) := by decide +kernel
theorem dX4_renewFrom_79 : decode cX4_renewFrom 79 = .ok (.iload_n 3, 1) := by decide +kernel
theorem dX4_renewFrom_80 : decode cX4_renewFrom 80 = .ok (.aaload, 1) := by decide +kernel
theorem dX4_renewFrom_81 : decode cX4_renewFrom 81 = .ok (.invokevirtual 117, 3) := by decide +kernel
theorem dX4_renewFrom_84 : decode cX4_renewFrom 84 = .ok (.iinc 3 1, 3) := by decide +kernel
theorem dX4_renewFrom_87 : decode cX4_renewFrom 87 = .ok (.goto (-35), 3) := by decide +kernel
theorem dX4_renewFrom_90 : decode cX4_renewFrom 90 = .ok (.aload_n 0, 1) := by decide +kernel
theorem dX4_renewFrom_91 : decode cX4_renewFrom 91 = .ok (.invokevirtual 121, 3) := by decide +kernel
theorem dX4_renewFrom_94 : decode cX4_renewFrom 94 = .ok (.return_, 1) := by decide +kernel
set_option maxRecDepth 20000 in
theorem ggX4_tie_X4_checkTreadle : GoodIn wsX4_tie wsX4_checkTreadle := goodIn_ca (goodIn_r _ [7, 8, 9] (by decide +kernel) (by decide +kernel)) (goodIn_sub (fun _ h => List.mem_cons_of_mem _ (List.mem_append_right _ h)) (by decide +kernel))
set_option maxRecDepth 20000 in
theorem gX4_tie_X4_checkTreadle : GoodIn wsX4_tie (va_wsS RX4 124 yX4_checkTreadle wsX4_checkTreadle) := goodIn_app (goodIn_of _ (by decide +kernel)) ggX4_tie_X4_checkTreadle
set_option maxRecDepth 20000 in
theorem ggX4_tie_X3_at : GoodIn wsX4_tie wsX3_at := goodIn_r _ [14, 15, 16, 53, 54] (by decide +kernel) (by decide +kernel)
set_option maxRecDepth 20000 in
theorem gX4_tie_X3_at : GoodIn wsX4_tie (wsV RX4 96 RX3 yX3_at wsX3_at) := goodIn_app (goodIn_of _ (by decide +kernel)) ggX4_tie_X3_at
set_option maxRecDepth 20000 in
theorem ggX4_tie_X3_put : GoodIn wsX4_tie wsX3_put := goodIn_r _ [20, 15, 16, 53, 54] (by decide +kernel) (by decide +kernel)
set_option maxRecDepth 20000 in
theorem gX4_tie_X3_put : GoodIn wsX4_tie (wsV RX4 129 RX3 yX3_put wsX3_put) := goodIn_app (goodIn_of _ (by decide +kernel)) ggX4_tie_X3_put
set_option maxRecDepth 20000 in
theorem ggX4_tie_X4_weave : GoodIn wsX4_tie wsX4_weave := goodIn_r _ [24, 25, 26, 3, 27, 28, 29, 30, 31, 32, 33, 34, 35, 36, 13, 37, 15, 38, 39, 40, 41, 16, 42, 11, 12, 14, 43, 6, 44, 45, 18, 19, 20, 46, 47, 48, 49, 50, 51, 52, 55, 56, 57, 58, 59, 60, 53, 54] (by decide +kernel) (by decide +kernel)
set_option maxRecDepth 20000 in
theorem gX4_tie_X4_weave : GoodIn wsX4_tie (wsV RX4 121 RX4 yX4_weave wsX4_weave) := goodIn_app (goodIn_of _ (by decide +kernel)) ggX4_tie_X4_weave
theorem dX4_tie_0 : decode cX4_tie 0 = .ok (.iload_n 1, 1) := by decide +kernel
theorem dX4_tie_1 : decode cX4_tie 1 = .ok (.invokestatic 124, 3) := by decide +kernel
theorem dX4_tie_4 : decode cX4_tie 4 = .ok (.iload_n 2, 1) := by decide +kernel
theorem dX4_tie_5 : decode cX4_tie 5 = .ok (.ifCond .lt 10, 3) := by decide +kernel
theorem dX4_tie_8 : decode cX4_tie 8 = .ok (.iload_n 2, 1) := by decide +kernel
theorem dX4_tie_9 : decode cX4_tie 9 = .ok (.sipush 255, 3) := by decide +kernel
theorem dX4_tie_12 : decode cX4_tie 12 = .ok (.if_icmp .le 13, 3) := by decide +kernel
theorem dX4_tie_15 : decode cX4_tie 15 = .ok (.new 70, 3) := by decide +kernel
theorem dX4_tie_18 : decode cX4_tie 18 = .ok (.dup, 1) := by decide +kernel
theorem dX4_tie_19 : decode cX4_tie 19 = .ok (.ldc 127, 2) := by decide +kernel
theorem dX4_tie_21 : decode cX4_tie 21 = .ok (.invokespecial 74, 3) := by decide +kernel
theorem dX4_tie_24 : decode cX4_tie 24 = .ok (.athrow, 1) := by decide +kernel
theorem dX4_tie_25 : decode cX4_tie 25 = .ok (.aload_n 0, 1) := by decide +kernel
theorem dX4_tie_26 : decode cX4_tie 26 = .ok (.getfield 28, 3) := by decide +kernel
theorem dX4_tie_29 : decode cX4_tie 29 = .ok (.iload_n 1, 1) := by decide +kernel
theorem dX4_tie_30 : decode cX4_tie 30 = .ok (.invokevirtual 96, 3) := by decide +kernel
theorem dX4_tie_33 : decode cX4_tie 33 = .ok (.istore_n 3, 1) := by decide +kernel
theorem dX4_tie_34 : decode cX4_tie 34 = .ok (.aload_n 0, 1) := by decide +kernel
theorem dX4_tie_35 : decode cX4_tie 35 = .ok (.getfield 28, 3) := by decide +kernel
theorem dX4_tie_38 : decode cX4_tie 38 = .ok (.iload_n 1, 1) := by decide +kernel
theorem dX4_tie_39 : decode cX4_tie 39 = .ok (.iload_n 2, 1) := by decide +kernel
theorem dX4_tie_40 : decode cX4_tie 40 = .ok (.invokevirtual 129, 3) := by decide +kernel
theorem dX4_tie_43 : decode cX4_tie 43 = .ok (.aload_n 0, 1) := by decide +kernel
theorem dX4_tie_44 : decode cX4_tie 44 = .ok (.invokevirtual 121, 3) := by decide +kernel
theorem dX4_tie_47 : decode cX4_tie 47 = .ok (.iload_n 3, 1) := by decide +kernel
theorem dX4_tie_48 : decode cX4_tie 48 = .ok (.ireturn, 1) := by decide +kernel
set_option maxRecDepth 20000 in
theorem ggX4_tied_X4_checkTreadle : GoodIn wsX4_tied wsX4_checkTreadle := goodIn_ca (goodIn_r _ [5, 6, 7] (by decide +kernel) (by decide +kernel)) (goodIn_sub (fun _ h => List.mem_cons_of_mem _ (List.mem_append_right _ h)) (by decide +kernel))
set_option maxRecDepth 20000 in
theorem gX4_tied_X4_checkTreadle : GoodIn wsX4_tied (va_wsS RX4 124 yX4_checkTreadle wsX4_checkTreadle) := goodIn_app (goodIn_of _ (by decide +kernel)) ggX4_tied_X4_checkTreadle
set_option maxRecDepth 20000 in
theorem ggX4_tied_X3_at : GoodIn wsX4_tied wsX3_at := goodIn_r _ [12, 13, 14, 22, 23] (by decide +kernel) (by decide +kernel)
set_option maxRecDepth 20000 in
theorem gX4_tied_X3_at : GoodIn wsX4_tied (wsV RX4 96 RX3 yX3_at wsX3_at) := goodIn_app (goodIn_of _ (by decide +kernel)) ggX4_tied_X3_at
theorem dX4_tied_0 : decode cX4_tied 0 = .ok (.iload_n 1, 1) := by decide +kernel
theorem dX4_tied_1 : decode cX4_tied 1 = .ok (.invokestatic 124, 3) := by decide +kernel
theorem dX4_tied_4 : decode cX4_tied 4 = .ok (.aload_n 0, 1) := by decide +kernel
theorem dX4_tied_5 : decode cX4_tied 5 = .ok (.getfield 28, 3) := by decide +kernel
theorem dX4_tied_8 : decode cX4_tied 8 = .ok (.iload_n 1, 1) := by decide +kernel
theorem dX4_tied_9 : decode cX4_tied 9 = .ok (.invokevirtual 96, 3) := by decide +kernel
theorem dX4_tied_12 : decode cX4_tied 12 = .ok (.ireturn, 1) := by decide +kernel
set_option maxRecDepth 20000 in
theorem ggX4_swap_X4_checkShaft : GoodIn wsX4_swap wsX4_checkShaft := goodIn_ca (goodIn_r _ [4, 5, 6] (by decide +kernel) (by decide +kernel)) (goodIn_sub (fun _ h => List.mem_cons_of_mem _ (List.mem_append_right _ h)) (by decide +kernel))
set_option maxRecDepth 20000 in
theorem gX4_swap_X4_checkShaft : GoodIn wsX4_swap (va_wsS RX4 143 yX4_checkShaft wsX4_checkShaft) := goodIn_app (goodIn_of _ (by decide +kernel)) ggX4_swap_X4_checkShaft
set_option maxRecDepth 20000 in
theorem ggX4_swap_X4_swapInTrialTies : GoodIn wsX4_swap wsX4_swapInTrialTies := goodIn_r _ [10, 11, 12, 13, 14, 15, 16, 17, 18, 19, 20, 21, 22, 23, 24, 25, 26, 27, 65, 66, 67, 68, 69, 70, 71, 72, 73] (by decide +kernel) (by decide +kernel)
set_option maxRecDepth 20000 in
theorem gX4_swap_X4_swapInTrialTies : GoodIn wsX4_swap (wsV RX4 146 RX4 yX4_swapInTrialTies wsX4_swapInTrialTies) := goodIn_app (goodIn_of _ (by decide +kernel)) ggX4_swap_X4_swapInTrialTies
set_option maxRecDepth 20000 in
theorem ggX4_swap_X4_takeTrialTies : GoodIn wsX4_swap wsX4_takeTrialTies := goodIn_r _ [31, 12, 11, 19, 20, 21, 16, 22, 18, 23, 32, 33, 34, 35, 36, 14, 15, 17, 37, 38, 39, 40, 41, 42, 25, 26, 27, 43, 44, 45, 3, 46, 47, 48, 49, 50, 51, 52, 53, 54, 55, 56, 57, 58, 59, 60, 61, 62, 63, 64, 65, 66, 67, 68, 69, 70, 71, 72, 73, 74, 75, 76, 77, 78, 79] (by decide +kernel) (by decide +kernel)
set_option maxRecDepth 20000 in
theorem gX4_swap_X4_takeTrialTies : GoodIn wsX4_swap (wsV RX4 140 RX4 yX4_takeTrialTies wsX4_takeTrialTies) := goodIn_app (goodIn_of _ (by decide +kernel)) ggX4_swap_X4_takeTrialTies
theorem dX4_swap_0 : decode cX4_swap 0 = .ok (.iload_n 1, 1) := by decide +kernel
theorem dX4_swap_1 : decode cX4_swap 1 = .ok (.invokestatic 143, 3) := by decide +kernel
theorem dX4_swap_4 : decode cX4_swap 4 = .ok (.iload_n 2, 1) := by decide +kernel
theorem dX4_swap_5 : decode cX4_swap 5 = .ok (.invokestatic 143, 3) := by decide +kernel
theorem dX4_swap_8 : decode cX4_swap 8 = .ok (.aload_n 0, 1) := by decide +kernel
theorem dX4_swap_9 : decode cX4_swap 9 = .ok (.iload_n 1, 1) := by decide +kernel
theorem dX4_swap_10 : decode cX4_swap 10 = .ok (.iload_n 2, 1) := by decide +kernel
theorem dX4_swap_11 : decode cX4_swap 11 = .ok (.invokevirtual 146, 3) := by decide +kernel
theorem dX4_swap_14 : decode cX4_swap 14 = .ok (.aload_n 0, 1) := by decide +kernel
theorem dX4_swap_15 : decode cX4_swap 15 = .ok (.invokevirtual 140, 3) := by decide +kernel
theorem dX4_swap_18 : decode cX4_swap 18 = .ok (.ireturn, 1) := by decide +kernel
theorem dX4_checkTreadle_0 : decode cX4_checkTreadle 0 = .ok (.iload_n 0, 1) := by decide +kernel
theorem dX4_checkTreadle_1 : decode cX4_checkTreadle 1 = .ok (.ifCond .lt 9, 3) := by decide +kernel
theorem dX4_checkTreadle_4 : decode cX4_checkTreadle 4 = .ok (.iload_n 0, 1) := by decide +kernel
theorem dX4_checkTreadle_5 : decode cX4_checkTreadle 5 = .ok (.bipush 8, 2) := by decide +kernel
theorem dX4_checkTreadle_7 : decode cX4_checkTreadle 7 = .ok (.if_icmp .lt 13, 3) := by decide +kernel
theorem dX4_checkTreadle_10 : decode cX4_checkTreadle 10 = .ok (.new 91, 3) := by decide +kernel
theorem dX4_checkTreadle_13 : decode cX4_checkTreadle 13 = .ok (.dup, 1) := by decide +kernel
theorem dX4_checkTreadle_14 : decode cX4_checkTreadle 14 = .ok (.ldc 149, 2) := by decide +kernel
theorem dX4_checkTreadle_16 : decode cX4_checkTreadle 16 = .ok (.invokespecial 95, 3) := by decide +kernel
theorem dX4_checkTreadle_19 : decode cX4_checkTreadle 19 = .ok (.athrow, 1) := by decide +kernel
theorem dX4_checkTreadle_20 : decode cX4_checkTreadle 20 = .ok (.return_, 1) := by decide +kernel
theorem dX4_checkShaft_0 : decode cX4_checkShaft 0 = .ok (.iload_n 0, 1) := by decide +kernel
theorem dX4_checkShaft_1 : decode cX4_checkShaft 1 = .ok (.ifCond .lt 9, 3) := by decide +kernel
theorem dX4_checkShaft_4 : decode cX4_checkShaft 4 = .ok (.iload_n 0, 1) := by decide +kernel
theorem dX4_checkShaft_5 : decode cX4_checkShaft 5 = .ok (.bipush 8, 2) := by decide +kernel
theorem dX4_checkShaft_7 : decode cX4_checkShaft 7 = .ok (.if_icmp .lt 13, 3) := by decide +kernel
theorem dX4_checkShaft_10 : decode cX4_checkShaft 10 = .ok (.new 91, 3) := by decide +kernel
theorem dX4_checkShaft_13 : decode cX4_checkShaft 13 = .ok (.dup, 1) := by decide +kernel
theorem dX4_checkShaft_14 : decode cX4_checkShaft 14 = .ok (.ldc 151, 2) := by decide +kernel
theorem dX4_checkShaft_16 : decode cX4_checkShaft 16 = .ok (.invokespecial 95, 3) := by decide +kernel
theorem dX4_checkShaft_19 : decode cX4_checkShaft 19 = .ok (.athrow, 1) := by decide +kernel
theorem dX4_checkShaft_20 : decode cX4_checkShaft 20 = .ok (.return_, 1) := by decide +kernel
set_option maxRecDepth 20000 in
theorem ggX4_takeTrialTies_X3_at : GoodIn wsX4_takeTrialTies wsX3_at := goodIn_r _ [7, 8, 9, 57, 58] (by decide +kernel) (by decide +kernel)
set_option maxRecDepth 20000 in
theorem gX4_takeTrialTies_X3_at : GoodIn wsX4_takeTrialTies (wsV RX4 96 RX3 yX3_at wsX3_at) := goodIn_app (goodIn_of _ (by decide +kernel)) ggX4_takeTrialTies_X3_at
set_option maxRecDepth 20000 in
theorem ggX4_takeTrialTies_X3_copyFrom : GoodIn wsX4_takeTrialTies wsX3_copyFrom := goodIn_r _ [13, 14, 15, 16, 6, 17, 8, 18, 19, 20, 21, 22, 4, 5, 7, 9, 23, 24, 25, 26, 57, 58] (by decide +kernel) (by decide +kernel)
set_option maxRecDepth 20000 in
theorem gX4_takeTrialTies_X3_copyFrom : GoodIn wsX4_takeTrialTies (wsV RX4 153 RX3 yX3_copyFrom wsX3_copyFrom) := goodIn_app (goodIn_of _ (by decide +kernel)) ggX4_takeTrialTies_X3_copyFrom
set_option maxRecDepth 20000 in
theorem ggX4_takeTrialTies_X4_weave : GoodIn wsX4_takeTrialTies wsX4_weave := goodIn_r _ [31, 32, 33, 1, 34, 35, 36, 37, 38, 39, 40, 41, 15, 16, 6, 17, 8, 42, 24, 25, 26, 9, 43, 4, 5, 7, 44, 30, 45, 46, 47, 48, 49, 50, 51, 52, 53, 54, 55, 56, 59, 60, 61, 62, 63, 64, 57, 58] (by decide +kernel) (by decide +kernel)
set_option maxRecDepth 20000 in
theorem gX4_takeTrialTies_X4_weave : GoodIn wsX4_takeTrialTies (wsV RX4 121 RX4 yX4_weave wsX4_weave) := goodIn_app (goodIn_of _ (by decide +kernel)) ggX4_takeTrialTies_X4_weave
theorem dX4_takeTrialTies_0 : decode cX4_takeTrialTies 0 = .ok (.iconst 0, 1) := by decide +kernel
theorem dX4_takeTrialTies_1 : decode cX4_takeTrialTies 1 = .ok (.istore_n 1, 1) := by decide +kernel
theorem dX4_takeTrialTies_2 : decode cX4_takeTrialTies 2 = .ok (.iconst 0, 1) := by decide +kernel
theorem dX4_takeTrialTies_3 : decode cX4_takeTrialTies 3 = .ok (.istore_n 2, 1) := by decide +kernel
theorem dX4_takeTrialTies_4 : decode cX4_takeTrialTies 4 = .ok (.iload_n 2, 1) := by decide +kernel
theorem dX4_takeTrialTies_5 : decode cX4_takeTrialTies 5 = .ok (.bipush 8, 2) := by decide +kernel
theorem dX4_takeTrialTies_7 : decode cX4_takeTrialTies 7 = .ok (.if_icmp .ge 31, 3) := by decide +kernel
theorem dX4_takeTrialTies_10 : decode cX4_takeTrialTies 10 = .ok (.aload_n 0, 1) := by decide +kernel
theorem dX4_takeTrialTies_11 : decode cX4_takeTrialTies 11 = .ok (.getfield 28, 3) := by decide +kernel
theorem dX4_takeTrialTies_14 : decode cX4_takeTrialTies 14 = .ok (.iload_n 2, 1) := by decide +kernel
theorem dX4_takeTrialTies_15 : decode cX4_takeTrialTies 15 = .ok (.invokevirtual 96, 3) := by decide +kernel
theorem dX4_takeTrialTies_18 : decode cX4_takeTrialTies 18 = .ok (.aload_n 0, 1) := by decide +kernel
theorem dX4_takeTrialTies_19 : decode cX4_takeTrialTies 19 = .ok (.getfield 46, 3) := by decide +kernel
theorem dX4_takeTrialTies_22 : decode cX4_takeTrialTies 22 = .ok (.iload_n 2, 1) := by decide +kernel
theorem dX4_takeTrialTies_23 : decode cX4_takeTrialTies 23 = .ok (.invokevirtual 96, 3) := by decide +kernel
theorem dX4_takeTrialTies_26 : decode cX4_takeTrialTies 26 = .ok (.if_icmp .eq 6, 3) := by decide +kernel
theorem dX4_takeTrialTies_29 : decode cX4_takeTrialTies 29 = .ok (.iinc 1 1, 3) := by decide +kernel
theorem dX4_takeTrialTies_32 : decode cX4_takeTrialTies 32 = .ok (.iinc 2 1, 3) := by decide +kernel
theorem dX4_takeTrialTies_35 : decode cX4_takeTrialTies 35 = .ok (.goto (-31), 3) := by decide +kernel
theorem dX4_takeTrialTies_38 : decode cX4_takeTrialTies 38 = .ok (.aload_n 0, 1) := by decide +kernel
theorem dX4_takeTrialTies_39 : decode cX4_takeTrialTies 39 = .ok (.getfield 28, 3) := by decide +kernel
theorem dX4_takeTrialTies_42 : decode cX4_takeTrialTies 42 = .ok (.aload_n 0, 1) := by decide +kernel
theorem dX4_takeTrialTies_43 : decode cX4_takeTrialTies 43 = .ok (.getfield 46, 3) := by decide +kernel
theorem dX4_takeTrialTies_46 : decode cX4_takeTrialTies 46 = .ok (.invokevirtual 153, 3) := by decide +kernel
theorem dX4_takeTrialTies_49 : decode cX4_takeTrialTies 49 = .ok (.aload_n 0, 1) := by decide +kernel
theorem dX4_takeTrialTies_50 : decode cX4_takeTrialTies 50 = .ok (.invokevirtual 121, 3) := by decide +kernel
theorem dX4_takeTrialTies_53 : decode cX4_takeTrialTies 53 = .ok (.iload_n 1, 1) := by decide +kernel
theorem dX4_takeTrialTies_54 : decode cX4_takeTrialTies 54 = .ok (.ireturn, 1) := by decide +kernel
set_option maxRecDepth 20000 in
theorem ggX4_swapInTrialTies_X3_clear : GoodIn wsX4_swapInTrialTies wsX3_clear := goodIn_r _ [7, 8, 25, 26] (by decide +kernel) (by decide +kernel)
set_option maxRecDepth 20000 in
theorem gX4_swapInTrialTies_X3_clear : GoodIn wsX4_swapInTrialTies (wsV RX4 137 RX3 yX3_clear wsX3_clear) := goodIn_app (goodIn_of _ (by decide +kernel)) ggX4_swapInTrialTies_X3_clear
set_option maxRecDepth 20000 in
theorem ggX4_swapInTrialTies_X3_at : GoodIn wsX4_swapInTrialTies wsX3_at := goodIn_r _ [12, 8, 13, 25, 26] (by decide +kernel) (by decide +kernel)
set_option maxRecDepth 20000 in
theorem gX4_swapInTrialTies_X3_at : GoodIn wsX4_swapInTrialTies (wsV RX4 96 RX3 yX3_at wsX3_at) := goodIn_app (goodIn_of _ (by decide +kernel)) ggX4_swapInTrialTies_X3_at
set_option maxRecDepth 20000 in
theorem ggX4_swapInTrialTies_X3_add : GoodIn wsX4_swapInTrialTies wsX3_add := goodIn_r _ [17, 8, 13, 25, 26] (by decide +kernel) (by decide +kernel)
set_option maxRecDepth 20000 in
theorem gX4_swapInTrialTies_X3_add : GoodIn wsX4_swapInTrialTies (wsV RX4 32 RX3 yX3_add wsX3_add) := goodIn_app (goodIn_of _ (by decide +kernel)) ggX4_swapInTrialTies_X3_add
theorem dX4_swapInTrialTies_0 : decode cX4_swapInTrialTies 0 = .ok (.aload_n 0, 1) := by decide +kernel
theorem dX4_swapInTrialTies_1 : decode cX4_swapInTrialTies 1 = .ok (.getfield 46, 3) := by decide +kernel
theorem dX4_swapInTrialTies_4 : decode cX4_swapInTrialTies 4 = .ok (.invokevirtual 137, 3) := by decide +kernel
theorem dX4_swapInTrialTies_7 : decode cX4_swapInTrialTies 7 = .ok (.iconst 0, 1) := by decide +kernel
theorem dX4_swapInTrialTies_8 : decode cX4_swapInTrialTies 8 = .ok (.istore_n 3, 1) := by decide +kernel
theorem dX4_swapInTrialTies_9 : decode cX4_swapInTrialTies 9 = .ok (.iload_n 3, 1) := by decide +kernel
theorem dX4_swapInTrialTies_10 : decode cX4_swapInTrialTies 10 = .ok (.bipush 8, 2) := by decide +kernel
theorem dX4_swapInTrialTies_12 : decode cX4_swapInTrialTies 12 = .ok (.if_icmp .ge 51, 3) := by decide +kernel
theorem dX4_swapInTrialTies_15 : decode cX4_swapInTrialTies 15 = .ok (.aload_n 0, 1) := by decide +kernel
theorem dX4_swapInTrialTies_16 : decode cX4_swapInTrialTies 16 = .ok (.getfield 28, 3) := by decide +kernel
theorem dX4_swapInTrialTies_19 : decode cX4_swapInTrialTies 19 = .ok (.iload_n 3, 1) := by decide +kernel
theorem dX4_swapInTrialTies_20 : decode cX4_swapInTrialTies 20 = .ok (.invokevirtual 96, 3) := by decide +kernel
theorem dX4_swapInTrialTies_23 : decode cX4_swapInTrialTies 23 = .ok (.istore 4, 2) := by decide +kernel
theorem dX4_swapInTrialTies_25 : decode cX4_swapInTrialTies 25 = .ok (.iload 4, 2) := by decide +kernel
theorem dX4_swapInTrialTies_27 : decode cX4_swapInTrialTies 27 = .ok (.iload_n 1, 1) := by decide +kernel
theorem dX4_swapInTrialTies_28 : decode cX4_swapInTrialTies 28 = .ok (.ishr, 1) := by decide +kernel
theorem dX4_swapInTrialTies_29 : decode cX4_swapInTrialTies 29 = .ok (.iload 4, 2) := by decide +kernel
theorem dX4_swapInTrialTies_31 : decode cX4_swapInTrialTies 31 = .ok (.iload_n 2, 1) := by decide +kernel
theorem dX4_swapInTrialTies_32 : decode cX4_swapInTrialTies 32 = .ok (.ishr, 1) := by decide +kernel
theorem dX4_swapInTrialTies_33 : decode cX4_swapInTrialTies 33 = .ok (.ixor, 1) := by decide +kernel
theorem dX4_swapInTrialTies_34 : decode cX4_swapInTrialTies 34 = .ok (.iconst 1, 1) := by decide +kernel
theorem dX4_swapInTrialTies_35 : decode cX4_swapInTrialTies 35 = .ok (.iand, 1) := by decide +kernel
theorem dX4_swapInTrialTies_36 : decode cX4_swapInTrialTies 36 = .ok (.istore 5, 2) := by decide +kernel
theorem dX4_swapInTrialTies_38 : decode cX4_swapInTrialTies 38 = .ok (.aload_n 0, 1) := by decide +kernel
theorem dX4_swapInTrialTies_39 : decode cX4_swapInTrialTies 39 = .ok (.getfield 46, 3) := by decide +kernel
theorem dX4_swapInTrialTies_42 : decode cX4_swapInTrialTies 42 = .ok (.iload 4, 2) := by decide +kernel
theorem dX4_swapInTrialTies_44 : decode cX4_swapInTrialTies 44 = .ok (.iload 5, 2) := by decide +kernel
theorem dX4_swapInTrialTies_46 : decode cX4_swapInTrialTies 46 = .ok (.iload_n 1, 1) := by decide +kernel
theorem dX4_swapInTrialTies_47 : decode cX4_swapInTrialTies 47 = .ok (.ishl, 1) := by decide +kernel
theorem dX4_swapInTrialTies_48 : decode cX4_swapInTrialTies 48 = .ok (.iload 5, 2) := by decide +kernel
theorem dX4_swapInTrialTies_50 : decode cX4_swapInTrialTies 50 = .ok (.iload_n 2, 1) := by decide +kernel
theorem dX4_swapInTrialTies_51 : decode cX4_swapInTrialTies 51 = .ok (.ishl, 1) := by decide +kernel
theorem dX4_swapInTrialTies_52 : decode cX4_swapInTrialTies 52 = .ok (.ior, 1) := by decide +kernel
theorem dX4_swapInTrialTies_53 : decode cX4_swapInTrialTies 53 = .ok (.ixor, 1) := by decide +kernel
theorem dX4_swapInTrialTies_54 : decode cX4_swapInTrialTies 54 = .ok (.invokevirtual 32, 3) := by decide +kernel
theorem dX4_swapInTrialTies_57 : decode cX4_swapInTrialTies 57 = .ok (.iinc 3 1, 3) := by decide +kernel
theorem dX4_swapInTrialTies_60 : decode cX4_swapInTrialTies 60 = .ok (.goto (-51), 3) := by decide +kernel
theorem dX4_swapInTrialTies_63 : decode cX4_swapInTrialTies 63 = .ok (.return_, 1) := by decide +kernel
set_option maxRecDepth 20000 in
theorem ggX4_weave_X0_weave : GoodIn wsX4_weave wsX0_weave := goodIn_r _ [8, 9, 10, 11, 12, 13, 14, 15, 16, 17, 18, 19, 20, 21, 22, 23, 24, 25, 26, 27, 28, 29, 30, 31, 32, 44, 45, 46, 47] (by decide +kernel) (by decide +kernel)
set_option maxRecDepth 20000 in
theorem gX4_weave_X0_weave : GoodIn wsX4_weave (wsV RX4 157 RX0 yX0_weave wsX0_weave) := goodIn_app (goodIn_of _ (by decide +kernel)) ggX4_weave_X0_weave
theorem dX4_weave_0 : decode cX4_weave 0 = .ok (.aload_n 0, 1) := by decide +kernel
theorem dX4_weave_1 : decode cX4_weave 1 = .ok (.getfield 38, 3) := by decide +kernel
theorem dX4_weave_4 : decode cX4_weave 4 = .ok (.aload_n 0, 1) := by decide +kernel
theorem dX4_weave_5 : decode cX4_weave 5 = .ok (.getfield 11, 3) := by decide +kernel
theorem dX4_weave_8 : decode cX4_weave 8 = .ok (.iconst 0, 1) := by decide +kernel
theorem dX4_weave_9 : decode cX4_weave 9 = .ok (.aaload, 1) := by decide +kernel
theorem dX4_weave_10 : decode cX4_weave 10 = .ok (.getfield 80, 3) := by decide +kernel
theorem dX4_weave_13 : decode cX4_weave 13 = .ok (.aload_n 0, 1) := by decide +kernel
theorem dX4_weave_14 : decode cX4_weave 14 = .ok (.getfield 11, 3) := by decide +kernel
theorem dX4_weave_17 : decode cX4_weave 17 = .ok (.iconst 1, 1) := by decide +kernel
theorem dX4_weave_18 : decode cX4_weave 18 = .ok (.aaload, 1) := by decide +kernel
theorem dX4_weave_19 : decode cX4_weave 19 = .ok (.getfield 80, 3) := by decide +kernel
theorem dX4_weave_22 : decode cX4_weave 22 = .ok (.aload_n 0, 1) := by decide +kernel
theorem dX4_weave_23 : decode cX4_weave 23 = .ok (.getfield 28, 3) := by decide +kernel
theorem dX4_weave_26 : decode cX4_weave 26 = .ok (.invokevirtual 157, 3) := by decide +kernel
theorem dX4_weave_29 : decode cX4_weave 29 = .ok (.return_, 1) := by decide +kernel
set_option maxRecDepth 20000 in
theorem ggX4_cloth_X3_countBits : GoodIn wsX4_cloth wsX3_countBits := goodIn_r _ [9, 10, 11, 12, 13, 8, 14, 15, 16, 17, 18, 19, 20, 21, 22, 65, 66] (by decide +kernel) (by decide +kernel)
set_option maxRecDepth 20000 in
theorem gX4_cloth_X3_countBits : GoodIn wsX4_cloth (wsV RX4 166 RX3 yX3_countBits wsX3_countBits) := goodIn_app (goodIn_of _ (by decide +kernel)) ggX4_cloth_X3_countBits
set_option maxRecDepth 20000 in
theorem ggX4_cloth_X0_longestFloat : GoodIn wsX4_cloth wsX0_longestFloat := goodIn_r _ [27, 28, 29, 30, 31, 32, 33, 34, 35, 36, 8, 37, 10, 38, 11, 12, 13, 14, 15, 39, 40, 41, 63, 64, 65, 66] (by decide +kernel) (by decide +kernel)
set_option maxRecDepth 20000 in
theorem gX4_cloth_X0_longestFloat : GoodIn wsX4_cloth (wsV RX4 169 RX0 yX0_longestFloat wsX0_longestFloat) := goodIn_app (goodIn_of _ (by decide +kernel)) ggX4_cloth_X0_longestFloat
set_option maxRecDepth 20000 in
theorem ggX4_cloth_X3_countRuns : GoodIn wsX4_cloth wsX3_countRuns := goodIn_r _ [45, 10, 11, 12, 13, 8, 14, 15, 46, 40, 47, 16, 17, 18, 19, 20, 21, 22, 65, 66] (by decide +kernel) (by decide +kernel)
set_option maxRecDepth 20000 in
theorem gX4_cloth_X3_countRuns : GoodIn wsX4_cloth (wsV RX4 172 RX3 yX3_countRuns wsX3_countRuns) := goodIn_app (goodIn_of _ (by decide +kernel)) ggX4_cloth_X3_countRuns
set_option maxRecDepth 20000 in
theorem ggX4_cloth_X3_countDistinct : GoodIn wsX4_cloth wsX3_countDistinct := goodIn_r _ [51, 10, 11, 12, 13, 8, 14, 15, 52, 53, 54, 55, 65, 66] (by decide +kernel) (by decide +kernel)
set_option maxRecDepth 20000 in
theorem gX4_cloth_X3_countDistinct : GoodIn wsX4_cloth (wsV RX4 175 RX3 yX3_countDistinct wsX3_countDistinct) := goodIn_app (goodIn_of _ (by decide +kernel)) ggX4_cloth_X3_countDistinct
theorem dX4_cloth_0 : decode cX4_cloth 0 = .ok (.iload_n 1, 1) := by decide +kernel
theorem dX4_cloth_1 : decode cX4_cloth 1 = .ok (.tableswitch 168 0 9 #[55, 66, 77, 88, 96, 108, 120, 133, 146, 157], 55) := by decide +kernel
theorem dX4_cloth_56 : decode cX4_cloth 56 = .ok (.aload_n 0, 1) := by decide +kernel
theorem dX4_cloth_57 : decode cX4_cloth 57 = .ok (.getfield 38, 3) := by decide +kernel
theorem dX4_cloth_60 : decode cX4_cloth 60 = .ok (.getfield 160, 3) := by decide +kernel
theorem dX4_cloth_63 : decode cX4_cloth 63 = .ok (.getfield 62, 3) := by decide +kernel
theorem dX4_cloth_66 : decode cX4_cloth 66 = .ok (.ireturn, 1) := by decide +kernel
theorem dX4_cloth_67 : decode cX4_cloth 67 = .ok (.aload_n 0, 1) := by decide +kernel
theorem dX4_cloth_68 : decode cX4_cloth 68 = .ok (.getfield 38, 3) := by decide +kernel
theorem dX4_cloth_71 : decode cX4_cloth 71 = .ok (.getfield 163, 3) := by decide +kernel
theorem dX4_cloth_74 : decode cX4_cloth 74 = .ok (.getfield 62, 3) := by decide +kernel
theorem dX4_cloth_77 : decode cX4_cloth 77 = .ok (.ireturn, 1) := by decide +kernel
theorem dX4_cloth_78 : decode cX4_cloth 78 = .ok (.aload_n 0, 1) := by decide +kernel
theorem dX4_cloth_79 : decode cX4_cloth 79 = .ok (.getfield 38, 3) := by decide +kernel
theorem dX4_cloth_82 : decode cX4_cloth 82 = .ok (.getfield 160, 3) := by decide +kernel
theorem dX4_cloth_85 : decode cX4_cloth 85 = .ok (.invokevirtual 166, 3) := by decide +kernel
theorem dX4_cloth_88 : decode cX4_cloth 88 = .ok (.ireturn, 1) := by decide +kernel
theorem dX4_cloth_89 : decode cX4_cloth 89 = .ok (.aload_n 0, 1) := by decide +kernel
theorem dX4_cloth_90 : decode cX4_cloth 90 = .ok (.getfield 38, 3) := by decide +kernel
theorem dX4_cloth_93 : decode cX4_cloth 93 = .ok (.invokevirtual 169, 3) := by decide +kernel
theorem dX4_cloth_96 : decode cX4_cloth 96 = .ok (.ireturn, 1) := by decide +kernel
theorem dX4_cloth_97 : decode cX4_cloth 97 = .ok (.aload_n 0, 1) := by decide +kernel
theorem dX4_cloth_98 : decode cX4_cloth 98 = .ok (.getfield 38, 3) := by decide +kernel
theorem dX4_cloth_101 : decode cX4_cloth 101 = .ok (.getfield 160, 3) := by decide +kernel
theorem dX4_cloth_104 : decode cX4_cloth 104 = .ok (.iconst 1, 1) := by decide +kernel
theorem dX4_cloth_105 : decode cX4_cloth 105 = .ok (.invokevirtual 172, 3) := by decide +kernel
theorem dX4_cloth_108 : decode cX4_cloth 108 = .ok (.ireturn, 1) := by decide +kernel
theorem dX4_cloth_109 : decode cX4_cloth 109 = .ok (.aload_n 0, 1) := by decide +kernel
theorem dX4_cloth_110 : decode cX4_cloth 110 = .ok (.getfield 38, 3) := by decide +kernel
theorem dX4_cloth_113 : decode cX4_cloth 113 = .ok (.getfield 163, 3) := by decide +kernel
theorem dX4_cloth_116 : decode cX4_cloth 116 = .ok (.iconst 1, 1) := by decide +kernel
theorem dX4_cloth_117 : decode cX4_cloth 117 = .ok (.invokevirtual 172, 3) := by decide +kernel
theorem dX4_cloth_120 : decode cX4_cloth 120 = .ok (.ireturn, 1) := by decide +kernel
theorem dX4_cloth_121 : decode cX4_cloth 121 = .ok (.aload_n 0, 1) := by decide +kernel
theorem dX4_cloth_122 : decode cX4_cloth 122 = .ok (.getfield 11, 3) := by decide +kernel
theorem dX4_cloth_125 : decode cX4_cloth 125 = .ok (.iconst 0, 1) := by decide +kernel
theorem dX4_cloth_126 : decode cX4_cloth 126 = .ok (.aaload, 1) := by decide +kernel
theorem dX4_cloth_127 : decode cX4_cloth 127 = .ok (.getfield 80, 3) := by decide +kernel
theorem dX4_cloth_130 : decode cX4_cloth 130 = .ok (.invokevirtual 175, 3) := by decide +kernel
theorem dX4_cloth_133 : decode cX4_cloth 133 = .ok (.ireturn, 1) := by decide +kernel
theorem dX4_cloth_134 : decode cX4_cloth 134 = .ok (.aload_n 0, 1) := by decide +kernel
theorem dX4_cloth_135 : decode cX4_cloth 135 = .ok (.getfield 11, 3) := by decide +kernel
theorem dX4_cloth_138 : decode cX4_cloth 138 = .ok (.iconst 1, 1) := by decide +kernel
theorem dX4_cloth_139 : decode cX4_cloth 139 = .ok (.aaload, 1) := by decide +kernel
theorem dX4_cloth_140 : decode cX4_cloth 140 = .ok (.getfield 80, 3) := by decide +kernel
theorem dX4_cloth_143 : decode cX4_cloth 143 = .ok (.invokevirtual 175, 3) := by decide +kernel
theorem dX4_cloth_146 : decode cX4_cloth 146 = .ok (.ireturn, 1) := by decide +kernel
theorem dX4_cloth_147 : decode cX4_cloth 147 = .ok (.aload_n 0, 1) := by decide +kernel
theorem dX4_cloth_148 : decode cX4_cloth 148 = .ok (.getfield 38, 3) := by decide +kernel
theorem dX4_cloth_151 : decode cX4_cloth 151 = .ok (.getfield 160, 3) := by decide +kernel
theorem dX4_cloth_154 : decode cX4_cloth 154 = .ok (.invokevirtual 175, 3) := by decide +kernel
theorem dX4_cloth_157 : decode cX4_cloth 157 = .ok (.ireturn, 1) := by decide +kernel
theorem dX4_cloth_158 : decode cX4_cloth 158 = .ok (.aload_n 0, 1) := by decide +kernel
theorem dX4_cloth_159 : decode cX4_cloth 159 = .ok (.getfield 38, 3) := by decide +kernel
theorem dX4_cloth_162 : decode cX4_cloth 162 = .ok (.getfield 163, 3) := by decide +kernel
theorem dX4_cloth_165 : decode cX4_cloth 165 = .ok (.invokevirtual 175, 3) := by decide +kernel
theorem dX4_cloth_168 : decode cX4_cloth 168 = .ok (.ireturn, 1) := by decide +kernel
theorem dX4_cloth_169 : decode cX4_cloth 169 = .ok (.new 70, 3) := by decide +kernel
theorem dX4_cloth_172 : decode cX4_cloth 172 = .ok (.dup, 1) := by decide +kernel
theorem dX4_cloth_173 : decode cX4_cloth 173 = .ok (.ldc 178, 2) := by decide +kernel
theorem dX4_cloth_175 : decode cX4_cloth 175 = .ok (.invokespecial 74, 3) := by decide +kernel
theorem dX4_cloth_178 : decode cX4_cloth 178 = .ok (.athrow, 1) := by decide +kernel
set_option maxRecDepth 20000 in
theorem ggX4_field_X4_checkEnd : GoodIn wsX4_field wsX4_checkEnd := goodIn_ca (goodIn_r _ [8, 9, 10, 3, 49, 50, 51, 52, 53, 54, 55, 56, 57, 58, 59] (by decide +kernel) (by decide +kernel)) (goodIn_sub (fun _ h => List.mem_cons_of_mem _ (List.mem_append_right _ h)) (by decide +kernel))
set_option maxRecDepth 20000 in
theorem gX4_field_X4_checkEnd : GoodIn wsX4_field (wsV RX4 180 RX4 yX4_checkEnd wsX4_checkEnd) := goodIn_app (goodIn_of _ (by decide +kernel)) ggX4_field_X4_checkEnd
set_option maxRecDepth 20000 in
theorem ggX4_field_X4_checkPick : GoodIn wsX4_field wsX4_checkPick := goodIn_ca (goodIn_r _ [14, 9, 10, 3, 49, 50, 51, 52, 53, 54, 55, 56, 57, 58, 59] (by decide +kernel) (by decide +kernel)) (goodIn_sub (fun _ h => List.mem_cons_of_mem _ (List.mem_append_right _ h)) (by decide +kernel))
set_option maxRecDepth 20000 in
theorem gX4_field_X4_checkPick : GoodIn wsX4_field (wsV RX4 183 RX4 yX4_checkPick wsX4_checkPick) := goodIn_app (goodIn_of _ (by decide +kernel)) ggX4_field_X4_checkPick
set_option maxRecDepth 20000 in
theorem ggX4_field_X0_isUp : GoodIn wsX4_field wsX0_isUp := goodIn_r _ [19, 20, 21, 22, 23, 24, 25, 26, 27, 28, 7, 29, 56, 57, 58, 59] (by decide +kernel) (by decide +kernel)
set_option maxRecDepth 20000 in
theorem gX4_field_X0_isUp : GoodIn wsX4_field (wsV RX4 186 RX0 yX0_isUp wsX0_isUp) := goodIn_app (goodIn_of _ (by decide +kernel)) ggX4_field_X0_isUp
set_option maxRecDepth 20000 in
theorem ggX4_field_X4_colourAt : GoodIn wsX4_field wsX4_colourAt := goodIn_r _ [33, 3, 34, 15, 16, 17, 18, 19, 20, 21, 22, 23, 24, 25, 26, 27, 28, 7, 29, 35, 36, 37, 38, 39, 49, 50, 51, 52, 53, 54, 55, 60, 61, 62, 63, 56, 57, 58, 59] (by decide +kernel) (by decide +kernel)
set_option maxRecDepth 20000 in
theorem gX4_field_X4_colourAt : GoodIn wsX4_field (wsV RX4 190 RX4 yX4_colourAt wsX4_colourAt) := goodIn_app (goodIn_of _ (by decide +kernel)) ggX4_field_X4_colourAt
set_option maxRecDepth 20000 in
theorem ggX4_field_X0_floatAt : GoodIn wsX4_field wsX0_floatAt := goodIn_r _ [43, 20, 44, 45, 16, 17, 18, 19, 21, 22, 23, 24, 25, 26, 27, 28, 7, 29, 46, 47, 48, 56, 57, 58, 59] (by decide +kernel) (by decide +kernel)
set_option maxRecDepth 20000 in
theorem gX4_field_X0_floatAt : GoodIn wsX4_field (wsV RX4 194 RX0 yX0_floatAt wsX0_floatAt) := goodIn_app (goodIn_of _ (by decide +kernel)) ggX4_field_X0_floatAt
theorem dX4_field_0 : decode cX4_field 0 = .ok (.aload_n 0, 1) := by decide +kernel
theorem dX4_field_1 : decode cX4_field 1 = .ok (.iload_n 1, 1) := by decide +kernel
theorem dX4_field_2 : decode cX4_field 2 = .ok (.invokevirtual 180, 3) := by decide +kernel
theorem dX4_field_5 : decode cX4_field 5 = .ok (.aload_n 0, 1) := by decide +kernel
theorem dX4_field_6 : decode cX4_field 6 = .ok (.iload_n 2, 1) := by decide +kernel
theorem dX4_field_7 : decode cX4_field 7 = .ok (.invokevirtual 183, 3) := by decide +kernel
theorem dX4_field_10 : decode cX4_field 10 = .ok (.iload_n 3, 1) := by decide +kernel
theorem dX4_field_11 : decode cX4_field 11 = .ok (.tableswitch 60 0 2 #[25, 43, 50], 25) := by decide +kernel
theorem dX4_field_36 : decode cX4_field 36 = .ok (.aload_n 0, 1) := by decide +kernel
theorem dX4_field_37 : decode cX4_field 37 = .ok (.getfield 38, 3) := by decide +kernel
theorem dX4_field_40 : decode cX4_field 40 = .ok (.iload_n 1, 1) := by decide +kernel
theorem dX4_field_41 : decode cX4_field 41 = .ok (.iload_n 2, 1) := by decide +kernel
theorem dX4_field_42 : decode cX4_field 42 = .ok (.invokevirtual 186, 3) := by decide +kernel
theorem dX4_field_45 : decode cX4_field 45 = .ok (.ifCond .eq 7, 3) := by decide +kernel
theorem dX4_field_48 : decode cX4_field 48 = .ok (.iconst 1, 1) := by decide +kernel
theorem dX4_field_49 : decode cX4_field 49 = .ok (.goto 4, 3) := by decide +kernel
theorem dX4_field_52 : decode cX4_field 52 = .ok (.iconst 0, 1) := by decide +kernel
theorem dX4_field_53 : decode cX4_field 53 = .ok (.ireturn, 1) := by decide +kernel
theorem dX4_field_54 : decode cX4_field 54 = .ok (.aload_n 0, 1) := by decide +kernel
theorem dX4_field_55 : decode cX4_field 55 = .ok (.iload_n 1, 1) := by decide +kernel
theorem dX4_field_56 : decode cX4_field 56 = .ok (.iload_n 2, 1) := by decide +kernel
theorem dX4_field_57 : decode cX4_field 57 = .ok (.invokevirtual 190, 3) := by decide +kernel
theorem dX4_field_60 : decode cX4_field 60 = .ok (.ireturn, 1) := by decide +kernel
theorem dX4_field_61 : decode cX4_field 61 = .ok (.aload_n 0, 1) := by decide +kernel
theorem dX4_field_62 : decode cX4_field 62 = .ok (.getfield 38, 3) := by decide +kernel
theorem dX4_field_65 : decode cX4_field 65 = .ok (.iload_n 1, 1) := by decide +kernel
theorem dX4_field_66 : decode cX4_field 66 = .ok (.iload_n 2, 1) := by decide +kernel
theorem dX4_field_67 : decode cX4_field 67 = .ok (.invokevirtual 194, 3) := by decide +kernel
theorem dX4_field_70 : decode cX4_field 70 = .ok (.ireturn, 1) := by decide +kernel
theorem dX4_field_71 : decode cX4_field 71 = .ok (.new 70, 3) := by decide +kernel
theorem dX4_field_74 : decode cX4_field 74 = .ok (.dup, 1) := by decide +kernel
theorem dX4_field_75 : decode cX4_field 75 = .ok (.ldc 197, 2) := by decide +kernel
theorem dX4_field_77 : decode cX4_field 77 = .ok (.invokespecial 74, 3) := by decide +kernel
theorem dX4_field_80 : decode cX4_field 80 = .ok (.athrow, 1) := by decide +kernel
set_option maxRecDepth 20000 in
theorem ggX4_floats_X4_checkLength : GoodIn wsX4_floats wsX4_checkLength := goodIn_ca (goodIn_r _ [5, 6, 7] (by decide +kernel) (by decide +kernel)) (goodIn_sub (fun _ h => List.mem_cons_of_mem _ (List.mem_append_right _ h)) (by decide +kernel))
set_option maxRecDepth 20000 in
theorem gX4_floats_X4_checkLength : GoodIn wsX4_floats (va_wsS RX4 199 yX4_checkLength wsX4_checkLength) := goodIn_app (goodIn_of _ (by decide +kernel)) ggX4_floats_X4_checkLength
set_option maxRecDepth 20000 in
theorem ggX4_floats_X0_countFloats : GoodIn wsX4_floats wsX0_countFloats := goodIn_r _ [12, 13, 14, 15, 16, 17, 18, 19, 20, 21, 22, 23, 24, 25, 26, 4, 27, 28, 29, 30, 31, 32, 33, 34, 42, 43, 44, 45] (by decide +kernel) (by decide +kernel)
set_option maxRecDepth 20000 in
theorem gX4_floats_X0_countFloats : GoodIn wsX4_floats (wsV RX4 202 RX0 yX0_countFloats wsX0_countFloats) := goodIn_app (goodIn_of _ (by decide +kernel)) ggX4_floats_X0_countFloats
theorem dX4_floats_0 : decode cX4_floats 0 = .ok (.iload_n 1, 1) := by decide +kernel
theorem dX4_floats_1 : decode cX4_floats 1 = .ok (.invokestatic 199, 3) := by decide +kernel
theorem dX4_floats_4 : decode cX4_floats 4 = .ok (.aload_n 0, 1) := by decide +kernel
theorem dX4_floats_5 : decode cX4_floats 5 = .ok (.getfield 38, 3) := by decide +kernel
theorem dX4_floats_8 : decode cX4_floats 8 = .ok (.iload_n 1, 1) := by decide +kernel
theorem dX4_floats_9 : decode cX4_floats 9 = .ok (.invokevirtual 202, 3) := by decide +kernel
theorem dX4_floats_12 : decode cX4_floats 12 = .ok (.ireturn, 1) := by decide +kernel
set_option maxRecDepth 20000 in
theorem ggX4_where_X4_checkLength : GoodIn wsX4_where wsX4_checkLength := goodIn_ca (goodIn_r _ [5, 6, 7] (by decide +kernel) (by decide +kernel)) (goodIn_sub (fun _ h => List.mem_cons_of_mem _ (List.mem_append_right _ h)) (by decide +kernel))
set_option maxRecDepth 20000 in
theorem gX4_where_X4_checkLength : GoodIn wsX4_where (va_wsS RX4 199 yX4_checkLength wsX4_checkLength) := goodIn_app (goodIn_of _ (by decide +kernel)) ggX4_where_X4_checkLength
set_option maxRecDepth 20000 in
theorem ggX4_where_X3_firstWithRun : GoodIn wsX4_where wsX3_firstWithRun := goodIn_r _ [12, 13, 14, 15, 16, 11, 17, 18, 19, 4, 20, 38, 39] (by decide +kernel) (by decide +kernel)
set_option maxRecDepth 20000 in
theorem gX4_where_X3_firstWithRun : GoodIn wsX4_where (wsV RX4 205 RX3 yX3_firstWithRun wsX3_firstWithRun) := goodIn_app (goodIn_of _ (by decide +kernel)) ggX4_where_X3_firstWithRun
set_option maxRecDepth 20000 in
theorem ggX4_where_X3_at : GoodIn wsX4_where wsX3_at := goodIn_r _ [17, 13, 18, 38, 39] (by decide +kernel) (by decide +kernel)
set_option maxRecDepth 20000 in
theorem gX4_where_X3_at : GoodIn wsX4_where (wsV RX4 96 RX3 yX3_at wsX3_at) := goodIn_app (goodIn_of _ (by decide +kernel)) ggX4_where_X3_at
set_option maxRecDepth 20000 in
theorem ggX4_where_X4_runStarts : GoodIn wsX4_where wsX4_runStarts := goodIn_r _ [20] (by decide +kernel) (by decide +kernel)
set_option maxRecDepth 20000 in
theorem gX4_where_X4_runStarts : GoodIn wsX4_where (va_wsS RX4 208 yX4_runStarts wsX4_runStarts) := goodIn_app (goodIn_of _ (by decide +kernel)) ggX4_where_X4_runStarts
set_option maxRecDepth 20000 in
theorem ggX4_where_X4_firstBit : GoodIn wsX4_where wsX4_firstBit := goodIn_r _ [25, 26, 27, 4, 28] (by decide +kernel) (by decide +kernel)
set_option maxRecDepth 20000 in
theorem gX4_where_X4_firstBit : GoodIn wsX4_where (va_wsS RX4 211 yX4_firstBit wsX4_firstBit) := goodIn_app (goodIn_of _ (by decide +kernel)) ggX4_where_X4_firstBit
theorem dX4_where_0 : decode cX4_where 0 = .ok (.iload_n 1, 1) := by decide +kernel
theorem dX4_where_1 : decode cX4_where 1 = .ok (.invokestatic 199, 3) := by decide +kernel
theorem dX4_where_4 : decode cX4_where 4 = .ok (.iload_n 2, 1) := by decide +kernel
theorem dX4_where_5 : decode cX4_where 5 = .ok (.ifCond .eq 13, 3) := by decide +kernel
theorem dX4_where_8 : decode cX4_where 8 = .ok (.aload_n 0, 1) := by decide +kernel
theorem dX4_where_9 : decode cX4_where 9 = .ok (.getfield 38, 3) := by decide +kernel
theorem dX4_where_12 : decode cX4_where 12 = .ok (.getfield 160, 3) := by decide +kernel
theorem dX4_where_15 : decode cX4_where 15 = .ok (.goto 10, 3) := by decide +kernel
theorem dX4_where_18 : decode cX4_where 18 = .ok (.aload_n 0, 1) := by decide +kernel
theorem dX4_where_19 : decode cX4_where 19 = .ok (.getfield 38, 3) := by decide +kernel
theorem dX4_where_22 : decode cX4_where 22 = .ok (.getfield 163, 3) := by decide +kernel
theorem dX4_where_25 : decode cX4_where 25 = .ok (.astore_n 3, 1) := by decide +kernel
theorem dX4_where_26 : decode cX4_where 26 = .ok (.aload_n 3, 1) := by decide +kernel
theorem dX4_where_27 : decode cX4_where 27 = .ok (.iload_n 1, 1) := by decide +kernel
theorem dX4_where_28 : decode cX4_where 28 = .ok (.invokevirtual 205, 3) := by decide +kernel
theorem dX4_where_31 : decode cX4_where 31 = .ok (.istore 4, 2) := by decide +kernel
theorem dX4_where_33 : decode cX4_where 33 = .ok (.iload 4, 2) := by decide +kernel
theorem dX4_where_35 : decode cX4_where 35 = .ok (.ifCond .ge 5, 3) := by decide +kernel
theorem dX4_where_38 : decode cX4_where 38 = .ok (.iconst (-1), 1) := by decide +kernel
theorem dX4_where_39 : decode cX4_where 39 = .ok (.ireturn, 1) := by decide +kernel
theorem dX4_where_40 : decode cX4_where 40 = .ok (.aload_n 3, 1) := by decide +kernel
theorem dX4_where_41 : decode cX4_where 41 = .ok (.iload 4, 2) := by decide +kernel
theorem dX4_where_43 : decode cX4_where 43 = .ok (.invokevirtual 96, 3) := by decide +kernel
theorem dX4_where_46 : decode cX4_where 46 = .ok (.iload_n 1, 1) := by decide +kernel
theorem dX4_where_47 : decode cX4_where 47 = .ok (.invokestatic 208, 3) := by decide +kernel
theorem dX4_where_50 : decode cX4_where 50 = .ok (.invokestatic 211, 3) := by decide +kernel
theorem dX4_where_53 : decode cX4_where 53 = .ok (.istore 5, 2) := by decide +kernel
theorem dX4_where_55 : decode cX4_where 55 = .ok (.iload_n 2, 1) := by decide +kernel
theorem dX4_where_56 : decode cX4_where 56 = .ok (.ifCond .eq 14, 3) := by decide +kernel
theorem dX4_where_59 : decode cX4_where 59 = .ok (.bipush 100, 2) := by decide +kernel
theorem dX4_where_61 : decode cX4_where 61 = .ok (.iload 4, 2) := by decide +kernel
theorem dX4_where_63 : decode cX4_where 63 = .ok (.imul, 1) := by decide +kernel
theorem dX4_where_64 : decode cX4_where 64 = .ok (.iload 5, 2) := by decide +kernel
theorem dX4_where_66 : decode cX4_where 66 = .ok (.iadd, 1) := by decide +kernel
theorem dX4_where_67 : decode cX4_where 67 = .ok (.goto 11, 3) := by decide +kernel
theorem dX4_where_70 : decode cX4_where 70 = .ok (.bipush 100, 2) := by decide +kernel
theorem dX4_where_72 : decode cX4_where 72 = .ok (.iload 5, 2) := by decide +kernel
theorem dX4_where_74 : decode cX4_where 74 = .ok (.imul, 1) := by decide +kernel
theorem dX4_where_75 : decode cX4_where 75 = .ok (.iload 4, 2) := by decide +kernel
theorem dX4_where_77 : decode cX4_where 77 = .ok (.iadd, 1) := by decide +kernel
theorem dX4_where_78 : decode cX4_where 78 = .ok (.ireturn, 1) := by decide +kernel
set_option maxRecDepth 20000 in
theorem ggX4_seen_X4_colourAt : GoodIn wsX4_seen wsX4_colourAt := goodIn_r _ [8, 3, 9, 10, 11, 12, 13, 14, 15, 16, 17, 18, 19, 20, 21, 22, 23, 7, 24, 25, 26, 27, 28, 29, 30, 31, 32, 33, 34, 35, 36, 41, 42, 43, 44, 37, 38, 39, 40] (by decide +kernel) (by decide +kernel)
set_option maxRecDepth 20000 in
theorem gX4_seen_X4_colourAt : GoodIn wsX4_seen (wsV RX4 190 RX4 yX4_colourAt wsX4_colourAt) := goodIn_app (goodIn_of _ (by decide +kernel)) ggX4_seen_X4_colourAt
theorem dX4_seen_0 : decode cX4_seen 0 = .ok (.iload_n 1, 1) := by decide +kernel
theorem dX4_seen_1 : decode cX4_seen 1 = .ok (.ifCond .lt 9, 3) := by decide +kernel
theorem dX4_seen_4 : decode cX4_seen 4 = .ok (.iload_n 1, 1) := by decide +kernel
theorem dX4_seen_5 : decode cX4_seen 5 = .ok (.bipush 8, 2) := by decide +kernel
theorem dX4_seen_7 : decode cX4_seen 7 = .ok (.if_icmp .lt 13, 3) := by decide +kernel
theorem dX4_seen_10 : decode cX4_seen 10 = .ok (.new 70, 3) := by decide +kernel
theorem dX4_seen_13 : decode cX4_seen 13 = .ok (.dup, 1) := by decide +kernel
theorem dX4_seen_14 : decode cX4_seen 14 = .ok (.ldc 219, 2) := by decide +kernel
theorem dX4_seen_16 : decode cX4_seen 16 = .ok (.invokespecial 74, 3) := by decide +kernel
theorem dX4_seen_19 : decode cX4_seen 19 = .ok (.athrow, 1) := by decide +kernel
theorem dX4_seen_20 : decode cX4_seen 20 = .ok (.iconst 0, 1) := by decide +kernel
theorem dX4_seen_21 : decode cX4_seen 21 = .ok (.istore_n 2, 1) := by decide +kernel
theorem dX4_seen_22 : decode cX4_seen 22 = .ok (.iconst 0, 1) := by decide +kernel
theorem dX4_seen_23 : decode cX4_seen 23 = .ok (.istore_n 3, 1) := by decide +kernel
theorem dX4_seen_24 : decode cX4_seen 24 = .ok (.iload_n 3, 1) := by decide +kernel
theorem dX4_seen_25 : decode cX4_seen 25 = .ok (.aload_n 0, 1) := by decide +kernel
theorem dX4_seen_26 : decode cX4_seen 26 = .ok (.getfield 38, 3) := by decide +kernel
theorem dX4_seen_29 : decode cX4_seen 29 = .ok (.getfield 160, 3) := by decide +kernel
theorem dX4_seen_32 : decode cX4_seen 32 = .ok (.getfield 62, 3) := by decide +kernel
theorem dX4_seen_35 : decode cX4_seen 35 = .ok (.if_icmp .ge 47, 3) := by decide +kernel
theorem dX4_seen_38 : decode cX4_seen 38 = .ok (.iconst 0, 1) := by decide +kernel
theorem dX4_seen_39 : decode cX4_seen 39 = .ok (.istore 4, 2) := by decide +kernel
theorem dX4_seen_41 : decode cX4_seen 41 = .ok (.iload 4, 2) := by decide +kernel
theorem dX4_seen_43 : decode cX4_seen 43 = .ok (.aload_n 0, 1) := by decide +kernel
theorem dX4_seen_44 : decode cX4_seen 44 = .ok (.getfield 38, 3) := by decide +kernel
theorem dX4_seen_47 : decode cX4_seen 47 = .ok (.getfield 163, 3) := by decide +kernel
theorem dX4_seen_50 : decode cX4_seen 50 = .ok (.getfield 62, 3) := by decide +kernel
theorem dX4_seen_53 : decode cX4_seen 53 = .ok (.if_icmp .ge 23, 3) := by decide +kernel
theorem dX4_seen_56 : decode cX4_seen 56 = .ok (.aload_n 0, 1) := by decide +kernel
theorem dX4_seen_57 : decode cX4_seen 57 = .ok (.iload_n 3, 1) := by decide +kernel
theorem dX4_seen_58 : decode cX4_seen 58 = .ok (.iload 4, 2) := by decide +kernel
theorem dX4_seen_60 : decode cX4_seen 60 = .ok (.invokevirtual 190, 3) := by decide +kernel
theorem dX4_seen_63 : decode cX4_seen 63 = .ok (.iload_n 1, 1) := by decide +kernel
theorem dX4_seen_64 : decode cX4_seen 64 = .ok (.if_icmp .ne 6, 3) := by decide +kernel
theorem dX4_seen_67 : decode cX4_seen 67 = .ok (.iinc 2 1, 3) := by decide +kernel
theorem dX4_seen_70 : decode cX4_seen 70 = .ok (.iinc 4 1, 3) := by decide +kernel
theorem dX4_seen_73 : decode cX4_seen 73 = .ok (.goto (-32), 3) := by decide +kernel
theorem dX4_seen_76 : decode cX4_seen 76 = .ok (.iinc 3 1, 3) := by decide +kernel
theorem dX4_seen_79 : decode cX4_seen 79 = .ok (.goto (-55), 3) := by decide +kernel
theorem dX4_seen_82 : decode cX4_seen 82 = .ok (.iload_n 2, 1) := by decide +kernel
theorem dX4_seen_83 : decode cX4_seen 83 = .ok (.ireturn, 1) := by decide +kernel
set_option maxRecDepth 20000 in
theorem ggX4_repeat_X0_hasFields : GoodIn wsX4_repeat wsX0_hasFields := goodIn_r _ [6, 7, 8, 31, 32, 33, 34] (by decide +kernel) (by decide +kernel)
set_option maxRecDepth 20000 in
theorem gX4_repeat_X0_hasFields : GoodIn wsX4_repeat (wsV RX4 221 RX0 yX0_hasFields wsX0_hasFields) := goodIn_app (goodIn_of _ (by decide +kernel)) ggX4_repeat_X0_hasFields
set_option maxRecDepth 20000 in
theorem ggX4_repeat_X3_leastPeriod : GoodIn wsX4_repeat wsX3_leastPeriod := goodIn_r _ [13, 14, 15, 16, 17, 12, 18, 19, 20, 21, 22, 23, 33, 34] (by decide +kernel) (by decide +kernel)
set_option maxRecDepth 20000 in
theorem gX4_repeat_X3_leastPeriod : GoodIn wsX4_repeat (wsV RX4 100 RX3 yX3_leastPeriod wsX3_leastPeriod) := goodIn_app (goodIn_of _ (by decide +kernel)) ggX4_repeat_X3_leastPeriod
theorem dX4_repeat_0 : decode cX4_repeat 0 = .ok (.aload_n 0, 1) := by decide +kernel
theorem dX4_repeat_1 : decode cX4_repeat 1 = .ok (.getfield 38, 3) := by decide +kernel
theorem dX4_repeat_4 : decode cX4_repeat 4 = .ok (.invokevirtual 221, 3) := by decide +kernel
theorem dX4_repeat_7 : decode cX4_repeat 7 = .ok (.ifCond .ne 5, 3) := by decide +kernel
theorem dX4_repeat_10 : decode cX4_repeat 10 = .ok (.iconst 0, 1) := by decide +kernel
theorem dX4_repeat_11 : decode cX4_repeat 11 = .ok (.ireturn, 1) := by decide +kernel
theorem dX4_repeat_12 : decode cX4_repeat 12 = .ok (.iload_n 1, 1) := by decide +kernel
theorem dX4_repeat_13 : decode cX4_repeat 13 = .ok (.ifCond .eq 16, 3) := by decide +kernel
theorem dX4_repeat_16 : decode cX4_repeat 16 = .ok (.aload_n 0, 1) := by decide +kernel
theorem dX4_repeat_17 : decode cX4_repeat 17 = .ok (.getfield 38, 3) := by decide +kernel
theorem dX4_repeat_20 : decode cX4_repeat 20 = .ok (.getfield 160, 3) := by decide +kernel
theorem dX4_repeat_23 : decode cX4_repeat 23 = .ok (.invokevirtual 100, 3) := by decide +kernel
theorem dX4_repeat_26 : decode cX4_repeat 26 = .ok (.goto 13, 3) := by decide +kernel
theorem dX4_repeat_29 : decode cX4_repeat 29 = .ok (.aload_n 0, 1) := by decide +kernel
theorem dX4_repeat_30 : decode cX4_repeat 30 = .ok (.getfield 38, 3) := by decide +kernel
theorem dX4_repeat_33 : decode cX4_repeat 33 = .ok (.getfield 163, 3) := by decide +kernel
theorem dX4_repeat_36 : decode cX4_repeat 36 = .ok (.invokevirtual 100, 3) := by decide +kernel
theorem dX4_repeat_39 : decode cX4_repeat 39 = .ok (.ireturn, 1) := by decide +kernel
set_option maxRecDepth 20000 in
theorem ggX4_hangs_X0_isConnected : GoodIn wsX4_hangs wsX0_isConnected := goodIn_r _ [6, 7, 8, 9, 5, 10, 11, 12, 13, 14, 15, 16, 17, 18, 19, 20, 21, 22, 23, 24, 25, 26, 27, 28, 29, 30, 31, 32, 33, 34, 35, 36, 37, 38, 39, 47, 48, 49, 50] (by decide +kernel) (by decide +kernel)
set_option maxRecDepth 20000 in
theorem gX4_hangs_X0_isConnected : GoodIn wsX4_hangs (wsV RX4 225 RX0 yX0_isConnected wsX0_isConnected) := goodIn_app (goodIn_of _ (by decide +kernel)) ggX4_hangs_X0_isConnected
theorem dX4_hangs_0 : decode cX4_hangs 0 = .ok (.aload_n 0, 1) := by decide +kernel
theorem dX4_hangs_1 : decode cX4_hangs 1 = .ok (.getfield 38, 3) := by decide +kernel
theorem dX4_hangs_4 : decode cX4_hangs 4 = .ok (.invokevirtual 225, 3) := by decide +kernel
theorem dX4_hangs_7 : decode cX4_hangs 7 = .ok (.ireturn, 1) := by decide +kernel
set_option maxRecDepth 20000 in
theorem ggX4_reach_X0_hasFields : GoodIn wsX4_reach wsX0_hasFields := goodIn_r _ [6, 7, 8, 47, 48, 49, 50] (by decide +kernel) (by decide +kernel)
set_option maxRecDepth 20000 in
theorem gX4_reach_X0_hasFields : GoodIn wsX4_reach (wsV RX4 221 RX0 yX0_hasFields wsX0_hasFields) := goodIn_app (goodIn_of _ (by decide +kernel)) ggX4_reach_X0_hasFields
set_option maxRecDepth 20000 in
theorem ggX4_reach_X0_endsReached : GoodIn wsX4_reach wsX0_endsReached := goodIn_r _ [12, 7, 8, 13, 14, 5, 15, 16, 17, 18, 19, 20, 21, 22, 23, 24, 25, 26, 27, 47, 48, 49, 50] (by decide +kernel) (by decide +kernel)
set_option maxRecDepth 20000 in
theorem gX4_reach_X0_endsReached : GoodIn wsX4_reach (wsV RX4 228 RX0 yX0_endsReached wsX0_endsReached) := goodIn_app (goodIn_of _ (by decide +kernel)) ggX4_reach_X0_endsReached
set_option maxRecDepth 20000 in
theorem ggX4_reach_X0_picksReached : GoodIn wsX4_reach wsX0_picksReached := goodIn_r _ [31, 7, 8, 32, 10, 11, 5, 12, 13, 14, 15, 16, 17, 18, 19, 20, 21, 22, 23, 24, 25, 26, 27, 47, 48, 49, 50] (by decide +kernel) (by decide +kernel)
set_option maxRecDepth 20000 in
theorem gX4_reach_X0_picksReached : GoodIn wsX4_reach (wsV RX4 232 RX0 yX0_picksReached wsX0_picksReached) := goodIn_app (goodIn_of _ (by decide +kernel)) ggX4_reach_X0_picksReached
set_option maxRecDepth 20000 in
theorem ggX4_reach_J6_bitCount_0f7a4 : GoodIn wsX4_reach wsJ6_bitCount_0f7a4 := goodIn_r _ [36, 37, 38, 39] (by decide +kernel) (by decide +kernel)
set_option maxRecDepth 20000 in
theorem gX4_reach_J6_bitCount_0f7a4 : GoodIn wsX4_reach (va_wsS RX4 214 yJ6_bitCount_0f7a4 wsJ6_bitCount_0f7a4) := goodIn_app (goodIn_of _ (by decide +kernel)) ggX4_reach_J6_bitCount_0f7a4
theorem dX4_reach_0 : decode cX4_reach 0 = .ok (.aload_n 0, 1) := by decide +kernel
theorem dX4_reach_1 : decode cX4_reach 1 = .ok (.getfield 38, 3) := by decide +kernel
theorem dX4_reach_4 : decode cX4_reach 4 = .ok (.invokevirtual 221, 3) := by decide +kernel
theorem dX4_reach_7 : decode cX4_reach 7 = .ok (.ifCond .ne 5, 3) := by decide +kernel
theorem dX4_reach_10 : decode cX4_reach 10 = .ok (.iconst 0, 1) := by decide +kernel
theorem dX4_reach_11 : decode cX4_reach 11 = .ok (.ireturn, 1) := by decide +kernel
theorem dX4_reach_12 : decode cX4_reach 12 = .ok (.iload_n 1, 1) := by decide +kernel
theorem dX4_reach_13 : decode cX4_reach 13 = .ok (.ifCond .eq 14, 3) := by decide +kernel
theorem dX4_reach_16 : decode cX4_reach 16 = .ok (.aload_n 0, 1) := by decide +kernel
theorem dX4_reach_17 : decode cX4_reach 17 = .ok (.getfield 38, 3) := by decide +kernel
theorem dX4_reach_20 : decode cX4_reach 20 = .ok (.iconst 0, 1) := by decide +kernel
theorem dX4_reach_21 : decode cX4_reach 21 = .ok (.invokevirtual 228, 3) := by decide +kernel
theorem dX4_reach_24 : decode cX4_reach 24 = .ok (.goto 11, 3) := by decide +kernel
theorem dX4_reach_27 : decode cX4_reach 27 = .ok (.aload_n 0, 1) := by decide +kernel
theorem dX4_reach_28 : decode cX4_reach 28 = .ok (.getfield 38, 3) := by decide +kernel
theorem dX4_reach_31 : decode cX4_reach 31 = .ok (.iconst 0, 1) := by decide +kernel
theorem dX4_reach_32 : decode cX4_reach 32 = .ok (.invokevirtual 232, 3) := by decide +kernel
theorem dX4_reach_35 : decode cX4_reach 35 = .ok (.invokestatic 214, 3) := by decide +kernel
theorem dX4_reach_38 : decode cX4_reach 38 = .ok (.ireturn, 1) := by decide +kernel
set_option maxRecDepth 20000 in
theorem ggX4_meanFloat_X0_countFloats : GoodIn wsX4_meanFloat wsX0_countFloats := goodIn_r _ [6, 7, 8, 9, 10, 11, 12, 13, 14, 15, 16, 17, 18, 19, 20, 21, 22, 23, 24, 25, 26, 27, 28, 29, 37, 38, 39, 40] (by decide +kernel) (by decide +kernel)
set_option maxRecDepth 20000 in
theorem gX4_meanFloat_X0_countFloats : GoodIn wsX4_meanFloat (wsV RX4 202 RX0 yX0_countFloats wsX0_countFloats) := goodIn_app (goodIn_of _ (by decide +kernel)) ggX4_meanFloat_X0_countFloats
theorem dX4_meanFloat_0 : decode cX4_meanFloat 0 = .ok (.aload_n 0, 1) := by decide +kernel
theorem dX4_meanFloat_1 : decode cX4_meanFloat 1 = .ok (.getfield 38, 3) := by decide +kernel
theorem dX4_meanFloat_4 : decode cX4_meanFloat 4 = .ok (.iconst 1, 1) := by decide +kernel
theorem dX4_meanFloat_5 : decode cX4_meanFloat 5 = .ok (.invokevirtual 202, 3) := by decide +kernel
theorem dX4_meanFloat_8 : decode cX4_meanFloat 8 = .ok (.istore_n 1, 1) := by decide +kernel
theorem dX4_meanFloat_9 : decode cX4_meanFloat 9 = .ok (.iload_n 1, 1) := by decide +kernel
theorem dX4_meanFloat_10 : decode cX4_meanFloat 10 = .ok (.ifCond .ne 5, 3) := by decide +kernel
theorem dX4_meanFloat_13 : decode cX4_meanFloat 13 = .ok (.dconst 0, 1) := by decide +kernel
theorem dX4_meanFloat_14 : decode cX4_meanFloat 14 = .ok (.dreturn, 1) := by decide +kernel
theorem dX4_meanFloat_15 : decode cX4_meanFloat 15 = .ok (.aload_n 0, 1) := by decide +kernel
theorem dX4_meanFloat_16 : decode cX4_meanFloat 16 = .ok (.getfield 38, 3) := by decide +kernel
theorem dX4_meanFloat_19 : decode cX4_meanFloat 19 = .ok (.getfield 160, 3) := by decide +kernel
theorem dX4_meanFloat_22 : decode cX4_meanFloat 22 = .ok (.getfield 62, 3) := by decide +kernel
theorem dX4_meanFloat_25 : decode cX4_meanFloat 25 = .ok (.aload_n 0, 1) := by decide +kernel
theorem dX4_meanFloat_26 : decode cX4_meanFloat 26 = .ok (.getfield 38, 3) := by decide +kernel
theorem dX4_meanFloat_29 : decode cX4_meanFloat 29 = .ok (.getfield 163, 3) := by decide +kernel
theorem dX4_meanFloat_32 : decode cX4_meanFloat 32 = .ok (.getfield 62, 3) := by decide +kernel
theorem dX4_meanFloat_35 : decode cX4_meanFloat 35 = .ok (.imul, 1) := by decide +kernel
theorem dX4_meanFloat_36 : decode cX4_meanFloat 36 = .ok (.i2d, 1) := by decide +kernel
theorem dX4_meanFloat_37 : decode cX4_meanFloat 37 = .ok (.iload_n 1, 1) := by decide +kernel
theorem dX4_meanFloat_38 : decode cX4_meanFloat 38 = .ok (.i2d, 1) := by decide +kernel
theorem dX4_meanFloat_39 : decode cX4_meanFloat 39 = .ok (.ddiv, 1) := by decide +kernel
theorem dX4_meanFloat_40 : decode cX4_meanFloat 40 = .ok (.dreturn, 1) := by decide +kernel
theorem dX4_checkEnd_0 : decode cX4_checkEnd 0 = .ok (.iload_n 1, 1) := by decide +kernel
theorem dX4_checkEnd_1 : decode cX4_checkEnd 1 = .ok (.ifCond .lt 17, 3) := by decide +kernel
theorem dX4_checkEnd_4 : decode cX4_checkEnd 4 = .ok (.iload_n 1, 1) := by decide +kernel
theorem dX4_checkEnd_5 : decode cX4_checkEnd 5 = .ok (.aload_n 0, 1) := by decide +kernel
theorem dX4_checkEnd_6 : decode cX4_checkEnd 6 = .ok (.getfield 38, 3) := by decide +kernel
theorem dX4_checkEnd_9 : decode cX4_checkEnd 9 = .ok (.getfield 160, 3) := by decide +kernel
theorem dX4_checkEnd_12 : decode cX4_checkEnd 12 = .ok (.getfield 62, 3) := by decide +kernel
theorem dX4_checkEnd_15 : decode cX4_checkEnd 15 = .ok (.if_icmp .lt 13, 3) := by decide +kernel
theorem dX4_checkEnd_18 : decode cX4_checkEnd 18 = .ok (.new 91, 3) := by decide +kernel
theorem dX4_checkEnd_21 : decode cX4_checkEnd 21 = .ok (.dup, 1) := by decide +kernel
theorem dX4_checkEnd_22 : decode cX4_checkEnd 22 = .ok (.ldc 235, 2) := by decide +kernel
theorem dX4_checkEnd_24 : decode cX4_checkEnd 24 = .ok (.invokespecial 95, 3) := by decide +kernel
theorem dX4_checkEnd_27 : decode cX4_checkEnd 27 = .ok (.athrow, 1) := by decide +kernel
theorem dX4_checkEnd_28 : decode cX4_checkEnd 28 = .ok (.return_, 1) := by decide +kernel
theorem dX4_checkPick_0 : decode cX4_checkPick 0 = .ok (.iload_n 1, 1) := by decide +kernel
theorem dX4_checkPick_1 : decode cX4_checkPick 1 = .ok (.ifCond .lt 17, 3) := by decide +kernel
theorem dX4_checkPick_4 : decode cX4_checkPick 4 = .ok (.iload_n 1, 1) := by decide +kernel
theorem dX4_checkPick_5 : decode cX4_checkPick 5 = .ok (.aload_n 0, 1) := by decide +kernel
theorem dX4_checkPick_6 : decode cX4_checkPick 6 = .ok (.getfield 38, 3) := by decide +kernel
theorem dX4_checkPick_9 : decode cX4_checkPick 9 = .ok (.getfield 163, 3) := by decide +kernel
theorem dX4_checkPick_12 : decode cX4_checkPick 12 = .ok (.getfield 62, 3) := by decide +kernel
theorem dX4_checkPick_15 : decode cX4_checkPick 15 = .ok (.if_icmp .lt 13, 3) := by decide +kernel
theorem dX4_checkPick_18 : decode cX4_checkPick 18 = .ok (.new 91, 3) := by decide +kernel
theorem dX4_checkPick_21 : decode cX4_checkPick 21 = .ok (.dup, 1) := by decide +kernel
theorem dX4_checkPick_22 : decode cX4_checkPick 22 = .ok (.ldc 237, 2) := by decide +kernel
theorem dX4_checkPick_24 : decode cX4_checkPick 24 = .ok (.invokespecial 95, 3) := by decide +kernel
theorem dX4_checkPick_27 : decode cX4_checkPick 27 = .ok (.athrow, 1) := by decide +kernel
theorem dX4_checkPick_28 : decode cX4_checkPick 28 = .ok (.return_, 1) := by decide +kernel
theorem dX4_checkLength_0 : decode cX4_checkLength 0 = .ok (.iload_n 0, 1) := by decide +kernel
theorem dX4_checkLength_1 : decode cX4_checkLength 1 = .ok (.iconst 1, 1) := by decide +kernel
theorem dX4_checkLength_2 : decode cX4_checkLength 2 = .ok (.if_icmp .lt 9, 3) := by decide +kernel
theorem dX4_checkLength_5 : decode cX4_checkLength 5 = .ok (.iload_n 0, 1) := by decide +kernel
theorem dX4_checkLength_6 : decode cX4_checkLength 6 = .ok (.bipush 32, 2) := by decide +kernel
theorem dX4_checkLength_8 : decode cX4_checkLength 8 = .ok (.if_icmp .le 13, 3) := by decide +kernel
theorem dX4_checkLength_11 : decode cX4_checkLength 11 = .ok (.new 70, 3) := by decide +kernel
theorem dX4_checkLength_14 : decode cX4_checkLength 14 = .ok (.dup, 1) := by decide +kernel
theorem dX4_checkLength_15 : decode cX4_checkLength 15 = .ok (.ldc 239, 2) := by decide +kernel
theorem dX4_checkLength_17 : decode cX4_checkLength 17 = .ok (.invokespecial 74, 3) := by decide +kernel
theorem dX4_checkLength_20 : decode cX4_checkLength 20 = .ok (.athrow, 1) := by decide +kernel
theorem dX4_checkLength_21 : decode cX4_checkLength 21 = .ok (.return_, 1) := by decide +kernel
set_option maxRecDepth 20000 in
theorem ggX4_colourAt_X0_isUp : GoodIn wsX4_colourAt wsX0_isUp := goodIn_r _ [7, 8, 9, 10, 11, 12, 13, 14, 15, 16, 17, 18, 35, 36, 37, 38] (by decide +kernel) (by decide +kernel)
set_option maxRecDepth 20000 in
theorem gX4_colourAt_X0_isUp : GoodIn wsX4_colourAt (wsV RX4 186 RX0 yX0_isUp wsX0_isUp) := goodIn_app (goodIn_of _ (by decide +kernel)) ggX4_colourAt_X0_isUp
set_option maxRecDepth 20000 in
theorem ggX4_colourAt_X3_atRound : GoodIn wsX4_colourAt wsX3_atRound := goodIn_r _ [22, 14, 23, 10, 11, 12, 13, 15, 37, 38] (by decide +kernel) (by decide +kernel)
set_option maxRecDepth 20000 in
theorem gX4_colourAt_X3_atRound : GoodIn wsX4_colourAt (wsV RX4 241 RX3 yX3_atRound wsX3_atRound) := goodIn_app (goodIn_of _ (by decide +kernel)) ggX4_colourAt_X3_atRound
theorem dX4_colourAt_0 : decode cX4_colourAt 0 = .ok (.aload_n 0, 1) := by decide +kernel
theorem dX4_colourAt_1 : decode cX4_colourAt 1 = .ok (.getfield 38, 3) := by decide +kernel
theorem dX4_colourAt_4 : decode cX4_colourAt 4 = .ok (.iload_n 1, 1) := by decide +kernel
theorem dX4_colourAt_5 : decode cX4_colourAt 5 = .ok (.iload_n 2, 1) := by decide +kernel
theorem dX4_colourAt_6 : decode cX4_colourAt 6 = .ok (.invokevirtual 186, 3) := by decide +kernel
theorem dX4_colourAt_9 : decode cX4_colourAt 9 = .ok (.ifCond .eq 19, 3) := by decide +kernel
theorem dX4_colourAt_12 : decode cX4_colourAt 12 = .ok (.aload_n 0, 1) := by decide +kernel
theorem dX4_colourAt_13 : decode cX4_colourAt 13 = .ok (.getfield 11, 3) := by decide +kernel
theorem dX4_colourAt_16 : decode cX4_colourAt 16 = .ok (.iconst 2, 1) := by decide +kernel
theorem dX4_colourAt_17 : decode cX4_colourAt 17 = .ok (.aaload, 1) := by decide +kernel
theorem dX4_colourAt_18 : decode cX4_colourAt 18 = .ok (.getfield 80, 3) := by decide +kernel
theorem dX4_colourAt_21 : decode cX4_colourAt 21 = .ok (.iload_n 1, 1) := by decide +kernel
theorem dX4_colourAt_22 : decode cX4_colourAt 22 = .ok (.invokevirtual 241, 3) := by decide +kernel
theorem dX4_colourAt_25 : decode cX4_colourAt 25 = .ok (.goto 16, 3) := by decide +kernel
theorem dX4_colourAt_28 : decode cX4_colourAt 28 = .ok (.aload_n 0, 1) := by decide +kernel
theorem dX4_colourAt_29 : decode cX4_colourAt 29 = .ok (.getfield 11, 3) := by decide +kernel
theorem dX4_colourAt_32 : decode cX4_colourAt 32 = .ok (.iconst 3, 1) := by decide +kernel
theorem dX4_colourAt_33 : decode cX4_colourAt 33 = .ok (.aaload, 1) := by decide +kernel
theorem dX4_colourAt_34 : decode cX4_colourAt 34 = .ok (.getfield 80, 3) := by decide +kernel
theorem dX4_colourAt_37 : decode cX4_colourAt 37 = .ok (.iload_n 2, 1) := by decide +kernel
theorem dX4_colourAt_38 : decode cX4_colourAt 38 = .ok (.invokevirtual 241, 3) := by decide +kernel
theorem dX4_colourAt_41 : decode cX4_colourAt 41 = .ok (.ireturn, 1) := by decide +kernel
set_option maxRecDepth 20000 in
theorem ggX4_floatWith_X4_weaveTrialWith : GoodIn wsX4_floatWith wsX4_weaveTrialWith := goodIn_ca (goodIn_r _ [6, 7, 8, 9, 10, 5, 11, 12, 13, 14, 15, 16, 17, 18, 19, 20, 21, 22, 23, 24, 25, 26, 27, 28, 29, 30, 31, 32, 33, 34, 35, 36, 37, 38, 39, 40, 41, 42, 43, 44, 45, 46, 47, 48, 1, 49, 50, 51, 52, 53, 54, 55, 56, 57, 58, 59, 60, 61, 62, 78, 79, 80, 81, 82, 83, 84, 85, 86, 87, 88, 89, 90, 91, 92] (by decide +kernel) (by decide +kernel)) (goodIn_sub (fun _ h => List.mem_cons_of_mem _ (List.mem_append_right _ h)) (by decide +kernel))
set_option maxRecDepth 20000 in
theorem gX4_floatWith_X4_weaveTrialWith : GoodIn wsX4_floatWith (wsV RX4 244 RX4 yX4_weaveTrialWith wsX4_weaveTrialWith) := goodIn_app (goodIn_of _ (by decide +kernel)) ggX4_floatWith_X4_weaveTrialWith
set_option maxRecDepth 20000 in
theorem ggX4_floatWith_X0_longestFloat : GoodIn wsX4_floatWith wsX0_longestFloat := goodIn_r _ [66, 55, 56, 67, 68, 69, 70, 71, 72, 73, 20, 74, 26, 75, 31, 32, 33, 34, 35, 76, 5, 77, 91, 92, 85, 86] (by decide +kernel) (by decide +kernel)
set_option maxRecDepth 20000 in
theorem gX4_floatWith_X0_longestFloat : GoodIn wsX4_floatWith (wsV RX4 169 RX0 yX0_longestFloat wsX0_longestFloat) := goodIn_app (goodIn_of _ (by decide +kernel)) ggX4_floatWith_X0_longestFloat
theorem dX4_floatWith_0 : decode cX4_floatWith 0 = .ok (.aload_n 0, 1) := by decide +kernel
theorem dX4_floatWith_1 : decode cX4_floatWith 1 = .ok (.iload_n 1, 1) := by decide +kernel
theorem dX4_floatWith_2 : decode cX4_floatWith 2 = .ok (.iload_n 2, 1) := by decide +kernel
theorem dX4_floatWith_3 : decode cX4_floatWith 3 = .ok (.invokevirtual 244, 3) := by decide +kernel
theorem dX4_floatWith_6 : decode cX4_floatWith 6 = .ok (.aload_n 0, 1) := by decide +kernel
theorem dX4_floatWith_7 : decode cX4_floatWith 7 = .ok (.getfield 49, 3) := by decide +kernel
theorem dX4_floatWith_10 : decode cX4_floatWith 10 = .ok (.invokevirtual 169, 3) := by decide +kernel
theorem dX4_floatWith_13 : decode cX4_floatWith 13 = .ok (.ireturn, 1) := by decide +kernel
set_option maxRecDepth 20000 in
theorem ggX4_hangsWith_X4_weaveTrialWith : GoodIn wsX4_hangsWith wsX4_weaveTrialWith := goodIn_ca (goodIn_r _ [6, 7, 8, 9, 10, 5, 11, 12, 13, 14, 15, 16, 17, 18, 19, 20, 21, 22, 23, 24, 25, 26, 27, 28, 29, 30, 31, 32, 33, 34, 35, 36, 37, 38, 39, 40, 41, 42, 43, 44, 45, 46, 47, 48, 1, 49, 50, 51, 52, 53, 54, 55, 56, 57, 58, 59, 60, 61, 62, 88, 89, 90, 91, 92, 93, 94, 95, 96, 97, 98, 99, 100, 101, 102] (by decide +kernel) (by decide +kernel)) (goodIn_sub (fun _ h => List.mem_cons_of_mem _ (List.mem_append_right _ h)) (by decide +kernel))
set_option maxRecDepth 20000 in
theorem gX4_hangsWith_X4_weaveTrialWith : GoodIn wsX4_hangsWith (wsV RX4 244 RX4 yX4_weaveTrialWith wsX4_weaveTrialWith) := goodIn_app (goodIn_of _ (by decide +kernel)) ggX4_hangsWith_X4_weaveTrialWith
set_option maxRecDepth 20000 in
theorem ggX4_hangsWith_X0_isConnected : GoodIn wsX4_hangsWith wsX0_isConnected := goodIn_r _ [66, 67, 68, 69, 53, 70, 55, 56, 71, 72, 73, 74, 75, 76, 77, 78, 79, 80, 81, 60, 5, 61, 59, 32, 33, 20, 34, 26, 35, 82, 83, 84, 85, 86, 87, 101, 102, 95, 96] (by decide +kernel) (by decide +kernel)
set_option maxRecDepth 20000 in
theorem gX4_hangsWith_X0_isConnected : GoodIn wsX4_hangsWith (wsV RX4 225 RX0 yX0_isConnected wsX0_isConnected) := goodIn_app (goodIn_of _ (by decide +kernel)) ggX4_hangsWith_X0_isConnected
theorem dX4_hangsWith_0 : decode cX4_hangsWith 0 = .ok (.aload_n 0, 1) := by decide +kernel
theorem dX4_hangsWith_1 : decode cX4_hangsWith 1 = .ok (.iload_n 1, 1) := by decide +kernel
theorem dX4_hangsWith_2 : decode cX4_hangsWith 2 = .ok (.iload_n 2, 1) := by decide +kernel
theorem dX4_hangsWith_3 : decode cX4_hangsWith 3 = .ok (.invokevirtual 244, 3) := by decide +kernel
theorem dX4_hangsWith_6 : decode cX4_hangsWith 6 = .ok (.aload_n 0, 1) := by decide +kernel
theorem dX4_hangsWith_7 : decode cX4_hangsWith 7 = .ok (.getfield 49, 3) := by decide +kernel
theorem dX4_hangsWith_10 : decode cX4_hangsWith 10 = .ok (.invokevirtual 225, 3) := by decide +kernel
theorem dX4_hangsWith_13 : decode cX4_hangsWith 13 = .ok (.ireturn, 1) := by decide +kernel
set_option maxRecDepth 20000 in
theorem ggX4_lengthWith_X4_programForToken : GoodIn wsX4_lengthWith wsX4_programForToken := goodIn_ca (goodIn_ca (goodIn_ca (goodIn_r _ [8, 9, 10, 11, 12, 13, 14, 15, 7, 16, 17, 18, 3, 19, 20, 21, 149, 150, 151, 152, 153, 154, 142, 143, 144, 145, 146, 147, 148] (by decide +kernel) (by decide +kernel)) (goodIn_sub (fun _ h => List.mem_cons_of_mem _ (List.mem_append_left _ (List.mem_append_left _ (List.mem_append_right _ h)))) (by decide +kernel))) (goodIn_sub (fun _ h => List.mem_cons_of_mem _ (List.mem_append_left _ (List.mem_append_right _ h))) (by decide +kernel))) (goodIn_sub (fun _ h => List.mem_cons_of_mem _ (List.mem_append_right _ h)) (by decide +kernel))
set_option maxRecDepth 20000 in
theorem gX4_lengthWith_X4_programForToken : GoodIn wsX4_lengthWith (wsV RX4 52 RX4 yX4_programForToken wsX4_programForToken) := goodIn_app (goodIn_of _ (by decide +kernel)) ggX4_lengthWith_X4_programForToken
set_option maxRecDepth 20000 in
theorem ggX4_lengthWith_X3_copyFrom : GoodIn wsX4_lengthWith wsX3_copyFrom := goodIn_r _ [26, 27, 28, 29, 25, 30, 31, 32, 33, 34, 35, 36, 37, 38, 39, 40, 41, 42, 43, 44, 153, 154] (by decide +kernel) (by decide +kernel)
set_option maxRecDepth 20000 in
theorem gX4_lengthWith_X3_copyFrom : GoodIn wsX4_lengthWith (wsV RX4 153 RX3 yX3_copyFrom wsX3_copyFrom) := goodIn_app (goodIn_of _ (by decide +kernel)) ggX4_lengthWith_X3_copyFrom
set_option maxRecDepth 20000 in
theorem ggX4_lengthWith_X3_add : GoodIn wsX4_lengthWith wsX3_add := goodIn_r _ [44, 31, 40, 153, 154] (by decide +kernel) (by decide +kernel)
set_option maxRecDepth 20000 in
theorem gX4_lengthWith_X3_add : GoodIn wsX4_lengthWith (wsV RX4 32 RX3 yX3_add wsX3_add) := goodIn_app (goodIn_of _ (by decide +kernel)) ggX4_lengthWith_X3_add
set_option maxRecDepth 20000 in
theorem ggX4_lengthWith_X1_compile : GoodIn wsX4_lengthWith wsX1_compile := goodIn_r _ [50, 51, 52, 53, 54, 55, 28, 29, 25, 30, 31, 56, 37, 38, 39, 40, 57, 58, 59, 49, 60, 61, 62, 63, 64, 65, 66, 67, 68, 69, 70, 71, 72, 73, 42, 43, 44, 74, 75, 76, 77, 78, 79, 80, 81, 82, 83, 84, 85, 36, 86, 87, 88, 89, 90, 91, 92, 93, 94, 95, 96, 97, 98, 99, 100, 101, 33, 34, 35, 41, 102, 103, 104, 105, 106, 107, 108, 109, 110, 111, 112, 113, 114, 115, 116, 117, 118, 119, 120, 121, 122, 123, 124, 125, 126, 127, 128, 129, 130, 131, 132, 133, 134, 135, 136, 137, 138, 139, 140, 141, 23, 24, 26, 27, 32, 155, 156, 157, 158, 149, 150, 151, 152, 153, 154] (by decide +kernel) (by decide +kernel)
set_option maxRecDepth 20000 in
theorem gX4_lengthWith_X1_compile : GoodIn wsX4_lengthWith (wsV RX4 117 RX1 yX1_compile wsX1_compile) := goodIn_app (goodIn_of _ (by decide +kernel)) ggX4_lengthWith_X1_compile
theorem dX4_lengthWith_0 : decode cX4_lengthWith 0 = .ok (.aload_n 0, 1) := by decide +kernel
theorem dX4_lengthWith_1 : decode cX4_lengthWith 1 = .ok (.iload_n 1, 1) := by decide +kernel
theorem dX4_lengthWith_2 : decode cX4_lengthWith 2 = .ok (.iload_n 2, 1) := by decide +kernel
theorem dX4_lengthWith_3 : decode cX4_lengthWith 3 = .ok (.invokevirtual 52, 3) := by decide +kernel
theorem dX4_lengthWith_6 : decode cX4_lengthWith 6 = .ok (.astore_n 3, 1) := by decide +kernel
theorem dX4_lengthWith_7 : decode cX4_lengthWith 7 = .ok (.aload_n 0, 1) := by decide +kernel
theorem dX4_lengthWith_8 : decode cX4_lengthWith 8 = .ok (.getfield 42, 3) := by decide +kernel
theorem dX4_lengthWith_11 : decode cX4_lengthWith 11 = .ok (.getfield 56, 3) := by decide +kernel
theorem dX4_lengthWith_14 : decode cX4_lengthWith 14 = .ok (.aload_n 3, 1) := by decide +kernel
theorem dX4_lengthWith_15 : decode cX4_lengthWith 15 = .ok (.getfield 56, 3) := by decide +kernel
theorem dX4_lengthWith_18 : decode cX4_lengthWith 18 = .ok (.invokevirtual 153, 3) := by decide +kernel
theorem dX4_lengthWith_21 : decode cX4_lengthWith 21 = .ok (.aload_n 0, 1) := by decide +kernel
theorem dX4_lengthWith_22 : decode cX4_lengthWith 22 = .ok (.getfield 42, 3) := by decide +kernel
theorem dX4_lengthWith_25 : decode cX4_lengthWith 25 = .ok (.getfield 56, 3) := by decide +kernel
theorem dX4_lengthWith_28 : decode cX4_lengthWith 28 = .ok (.iload_n 2, 1) := by decide +kernel
theorem dX4_lengthWith_29 : decode cX4_lengthWith 29 = .ok (.invokevirtual 32, 3) := by decide +kernel
theorem dX4_lengthWith_32 : decode cX4_lengthWith 32 = .ok (.aload_n 0, 1) := by decide +kernel
theorem dX4_lengthWith_33 : decode cX4_lengthWith 33 = .ok (.getfield 19, 3) := by decide +kernel
theorem dX4_lengthWith_36 : decode cX4_lengthWith 36 = .ok (.aload_n 0, 1) := by decide +kernel
theorem dX4_lengthWith_37 : decode cX4_lengthWith 37 = .ok (.getfield 11, 3) := by decide +kernel
theorem dX4_lengthWith_40 : decode cX4_lengthWith 40 = .ok (.iload_n 1, 1) := by decide +kernel
theorem dX4_lengthWith_41 : decode cX4_lengthWith 41 = .ok (.aload_n 0, 1) := by decide +kernel
theorem dX4_lengthWith_42 : decode cX4_lengthWith 42 = .ok (.getfield 42, 3) := by decide +kernel
theorem dX4_lengthWith_45 : decode cX4_lengthWith 45 = .ok (.invokevirtual 117, 3) := by decide +kernel
theorem dX4_lengthWith_48 : decode cX4_lengthWith 48 = .ok (.aload_n 0, 1) := by decide +kernel
theorem dX4_lengthWith_49 : decode cX4_lengthWith 49 = .ok (.getfield 42, 3) := by decide +kernel
theorem dX4_lengthWith_52 : decode cX4_lengthWith 52 = .ok (.getfield 83, 3) := by decide +kernel
theorem dX4_lengthWith_55 : decode cX4_lengthWith 55 = .ok (.ifCond .ne 16, 3) := by decide +kernel
theorem dX4_lengthWith_58 : decode cX4_lengthWith 58 = .ok (.aload_n 0, 1) := by decide +kernel
theorem dX4_lengthWith_59 : decode cX4_lengthWith 59 = .ok (.getfield 42, 3) := by decide +kernel
theorem dX4_lengthWith_62 : decode cX4_lengthWith 62 = .ok (.getfield 80, 3) := by decide +kernel
theorem dX4_lengthWith_65 : decode cX4_lengthWith 65 = .ok (.getfield 62, 3) := by decide +kernel
theorem dX4_lengthWith_68 : decode cX4_lengthWith 68 = .ok (.goto 4, 3) := by decide +kernel
theorem dX4_lengthWith_71 : decode cX4_lengthWith 71 = .ok (.iconst (-1), 1) := by decide +kernel
theorem dX4_lengthWith_72 : decode cX4_lengthWith 72 = .ok (.ireturn, 1) := by decide +kernel
set_option maxRecDepth 20000 in
theorem ggX4_changedBy_X4_checkShaft : GoodIn wsX4_changedBy wsX4_checkShaft := goodIn_ca (goodIn_r _ [6, 7, 8] (by decide +kernel) (by decide +kernel)) (goodIn_sub (fun _ h => List.mem_cons_of_mem _ (List.mem_append_right _ h)) (by decide +kernel))
set_option maxRecDepth 20000 in
theorem gX4_changedBy_X4_checkShaft : GoodIn wsX4_changedBy (va_wsS RX4 143 yX4_checkShaft wsX4_checkShaft) := goodIn_app (goodIn_of _ (by decide +kernel)) ggX4_changedBy_X4_checkShaft
set_option maxRecDepth 20000 in
theorem ggX4_changedBy_X4_swapInTrialTies : GoodIn wsX4_changedBy wsX4_swapInTrialTies := goodIn_r _ [12, 13, 14, 15, 16, 17, 18, 19, 20, 21, 22, 23, 24, 25, 26, 27, 28, 29, 58, 59, 60, 61, 62, 63, 64, 67, 68] (by decide +kernel) (by decide +kernel)
set_option maxRecDepth 20000 in
theorem gX4_changedBy_X4_swapInTrialTies : GoodIn wsX4_changedBy (wsV RX4 146 RX4 yX4_swapInTrialTies wsX4_swapInTrialTies) := goodIn_app (goodIn_of _ (by decide +kernel)) ggX4_changedBy_X4_swapInTrialTies
set_option maxRecDepth 20000 in
theorem ggX4_changedBy_X4_weaveTrial : GoodIn wsX4_changedBy wsX4_weaveTrial := goodIn_r _ [33, 2, 34, 13, 35, 36, 37, 38, 39, 40, 41, 42, 16, 17, 18, 19, 20, 43, 27, 28, 29, 25, 44, 22, 23, 24, 45, 5, 46, 47, 48, 49, 50, 58, 59, 60, 61, 62, 63, 64, 69, 70, 71, 72, 65, 66, 67, 68] (by decide +kernel) (by decide +kernel)
set_option maxRecDepth 20000 in
theorem gX4_changedBy_X4_weaveTrial : GoodIn wsX4_changedBy (wsV RX4 247 RX4 yX4_weaveTrial wsX4_weaveTrial) := goodIn_app (goodIn_of _ (by decide +kernel)) ggX4_changedBy_X4_weaveTrial
set_option maxRecDepth 20000 in
theorem ggX4_changedBy_X3_at : GoodIn wsX4_changedBy wsX3_at := goodIn_r _ [24, 20, 25, 67, 68] (by decide +kernel) (by decide +kernel)
set_option maxRecDepth 20000 in
theorem gX4_changedBy_X3_at : GoodIn wsX4_changedBy (wsV RX4 96 RX3 yX3_at wsX3_at) := goodIn_app (goodIn_of _ (by decide +kernel)) ggX4_changedBy_X3_at
set_option maxRecDepth 20000 in
theorem ggX4_changedBy_J6_bitCount_0f7a4 : GoodIn wsX4_changedBy wsJ6_bitCount_0f7a4 := goodIn_r _ [54, 55, 56, 57] (by decide +kernel) (by decide +kernel)
set_option maxRecDepth 20000 in
theorem gX4_changedBy_J6_bitCount_0f7a4 : GoodIn wsX4_changedBy (va_wsS RX4 214 yJ6_bitCount_0f7a4 wsJ6_bitCount_0f7a4) := goodIn_app (goodIn_of _ (by decide +kernel)) ggX4_changedBy_J6_bitCount_0f7a4
theorem dX4_changedBy_0 : decode cX4_changedBy 0 = .ok (.iload_n 1, 1) := by decide +kernel
theorem dX4_changedBy_1 : decode cX4_changedBy 1 = .ok (.invokestatic 143, 3) := by decide +kernel
theorem dX4_changedBy_4 : decode cX4_changedBy 4 = .ok (.iload_n 2, 1) := by decide +kernel
theorem dX4_changedBy_5 : decode cX4_changedBy 5 = .ok (.invokestatic 143, 3) := by decide +kernel
theorem dX4_changedBy_8 : decode cX4_changedBy 8 = .ok (.aload_n 0, 1) := by decide +kernel
theorem dX4_changedBy_9 : decode cX4_changedBy 9 = .ok (.iload_n 1, 1) := by decide +kernel
theorem dX4_changedBy_10 : decode cX4_changedBy 10 = .ok (.iload_n 2, 1) := by decide +kernel
theorem dX4_changedBy_11 : decode cX4_changedBy 11 = .ok (.invokevirtual 146, 3) := by decide +kernel
theorem dX4_changedBy_14 : decode cX4_changedBy 14 = .ok (.aload_n 0, 1) := by decide +kernel
theorem dX4_changedBy_15 : decode cX4_changedBy 15 = .ok (.invokevirtual 247, 3) := by decide +kernel
theorem dX4_changedBy_18 : decode cX4_changedBy 18 = .ok (.iconst 0, 1) := by decide +kernel
theorem dX4_changedBy_19 : decode cX4_changedBy 19 = .ok (.istore_n 3, 1) := by decide +kernel
theorem dX4_changedBy_20 : decode cX4_changedBy 20 = .ok (.iconst 0, 1) := by decide +kernel
theorem dX4_changedBy_21 : decode cX4_changedBy 21 = .ok (.istore 4, 2) := by decide +kernel
theorem dX4_changedBy_23 : decode cX4_changedBy 23 = .ok (.iload 4, 2) := by decide +kernel
theorem dX4_changedBy_25 : decode cX4_changedBy 25 = .ok (.aload_n 0, 1) := by decide +kernel
theorem dX4_changedBy_26 : decode cX4_changedBy 26 = .ok (.getfield 38, 3) := by decide +kernel
theorem dX4_changedBy_29 : decode cX4_changedBy 29 = .ok (.getfield 160, 3) := by decide +kernel
theorem dX4_changedBy_32 : decode cX4_changedBy 32 = .ok (.getfield 62, 3) := by decide +kernel
theorem dX4_changedBy_35 : decode cX4_changedBy 35 = .ok (.if_icmp .ge 40, 3) := by decide +kernel
theorem dX4_changedBy_38 : decode cX4_changedBy 38 = .ok (.iload_n 3, 1) := by decide +kernel
theorem dX4_changedBy_39 : decode cX4_changedBy 39 = .ok (.aload_n 0, 1) := by decide +kernel
theorem dX4_changedBy_40 : decode cX4_changedBy 40 = .ok (.getfield 38, 3) := by decide +kernel
theorem dX4_changedBy_43 : decode cX4_changedBy 43 = .ok (.getfield 160, 3) := by decide +kernel
theorem dX4_changedBy_46 : decode cX4_changedBy 46 = .ok (.iload 4, 2) := by decide +kernel
theorem dX4_changedBy_48 : decode cX4_changedBy 48 = .ok (.invokevirtual 96, 3) := by decide +kernel
theorem dX4_changedBy_51 : decode cX4_changedBy 51 = .ok (.aload_n 0, 1) := by decide +kernel
theorem dX4_changedBy_52 : decode cX4_changedBy 52 = .ok (.getfield 49, 3) := by decide +kernel
theorem dX4_changedBy_55 : decode cX4_changedBy 55 = .ok (.getfield 160, 3) := by decide +kernel
theorem dX4_changedBy_58 : decode cX4_changedBy 58 = .ok (.iload 4, 2) := by decide +kernel
theorem dX4_changedBy_60 : decode cX4_changedBy 60 = .ok (.invokevirtual 96, 3) := by decide +kernel
theorem dX4_changedBy_63 : decode cX4_changedBy 63 = .ok (.ixor, 1) := by decide +kernel
theorem dX4_changedBy_64 : decode cX4_changedBy 64 = .ok (.invokestatic 214, 3) := by decide +kernel
theorem dX4_changedBy_67 : decode cX4_changedBy 67 = .ok (.iadd, 1) := by decide +kernel
theorem dX4_changedBy_68 : decode cX4_changedBy 68 = .ok (.istore_n 3, 1) := by decide +kernel
theorem dX4_changedBy_69 : decode cX4_changedBy 69 = .ok (.iinc 4 1, 3) := by decide +kernel
theorem dX4_changedBy_72 : decode cX4_changedBy 72 = .ok (.goto (-49), 3) := by decide +kernel
theorem dX4_changedBy_75 : decode cX4_changedBy 75 = .ok (.iload_n 3, 1) := by decide +kernel
theorem dX4_changedBy_76 : decode cX4_changedBy 76 = .ok (.ireturn, 1) := by decide +kernel
set_option maxRecDepth 20000 in
theorem ggX4_digest_X4_digestOfProgram : GoodIn wsX4_digest wsX4_digestOfProgram := goodIn_ca (goodIn_ca (goodIn_r _ [6, 7, 8, 9, 5, 10, 11, 12, 13, 14, 15, 16, 17, 18, 19, 20, 21, 22, 23, 24, 25, 26, 27, 28, 29, 30, 31, 32, 33, 34, 35, 36, 37, 38, 39, 40, 41, 42, 43, 44, 45, 46, 47, 176, 177, 178, 179, 180, 181, 182, 183, 184, 185, 186, 187, 188] (by decide +kernel) (by decide +kernel)) (goodIn_sub (fun _ h => List.mem_cons_of_mem _ (List.mem_append_left _ (List.mem_append_right _ h))) (by decide +kernel))) (goodIn_sub (fun _ h => List.mem_cons_of_mem _ (List.mem_append_right _ h)) (by decide +kernel))
set_option maxRecDepth 20000 in
theorem gX4_digest_X4_digestOfProgram : GoodIn wsX4_digest (wsV RX4 252 RX4 yX4_digestOfProgram wsX4_digestOfProgram) := goodIn_app (goodIn_of _ (by decide +kernel)) ggX4_digest_X4_digestOfProgram
set_option maxRecDepth 20000 in
theorem ggX4_digest_X4_tied : GoodIn wsX4_digest wsX4_tied := goodIn_ca (goodIn_r _ [51, 52, 53, 54, 5, 55, 17, 18, 47, 39, 40, 31, 41, 33, 42, 182, 183, 184, 185, 186, 187, 188, 180, 181] (by decide +kernel) (by decide +kernel)) (goodIn_sub (fun _ h => List.mem_cons_of_mem _ (List.mem_append_right _ h)) (by decide +kernel))
set_option maxRecDepth 20000 in
theorem gX4_digest_X4_tied : GoodIn wsX4_digest (wsV RX4 256 RX4 yX4_tied wsX4_tied) := goodIn_app (goodIn_of _ (by decide +kernel)) ggX4_digest_X4_tied
set_option maxRecDepth 20000 in
theorem ggX4_digest_X4_mixed : GoodIn wsX4_digest wsX4_mixed := goodIn_r _ [22, 23] (by decide +kernel) (by decide +kernel)
set_option maxRecDepth 20000 in
theorem gX4_digest_X4_mixed : GoodIn wsX4_digest (va_wsS RX4 259 yX4_mixed wsX4_mixed) := goodIn_app (goodIn_of _ (by decide +kernel)) ggX4_digest_X4_mixed
set_option maxRecDepth 20000 in
theorem ggX4_digest_X4_cloth : GoodIn wsX4_digest wsX4_cloth := goodIn_ca (goodIn_r _ [59, 11, 12, 60, 19, 61, 62, 63, 31, 64, 33, 38, 39, 40, 41, 42, 65, 66, 67, 68, 69, 70, 71, 72, 73, 74, 75, 76, 77, 78, 79, 80, 81, 82, 83, 84, 85, 86, 87, 88, 5, 89, 90, 91, 92, 93, 94, 95, 96, 97, 98, 99, 100, 101, 102, 103, 182, 183, 184, 185, 186, 187, 188, 189, 190, 180, 181, 176, 177, 178, 179] (by decide +kernel) (by decide +kernel)) (goodIn_sub (fun _ h => List.mem_cons_of_mem _ (List.mem_append_left _ (List.mem_append_right _ h))) (by decide +kernel))
set_option maxRecDepth 20000 in
theorem gX4_digest_X4_cloth : GoodIn wsX4_digest (wsV RX4 262 RX4 yX4_cloth wsX4_cloth) := goodIn_app (goodIn_of _ (by decide +kernel)) ggX4_digest_X4_cloth
set_option maxRecDepth 20000 in
theorem ggX4_digest_X4_repeat : GoodIn wsX4_digest wsX4_repeat := goodIn_r _ [107, 60, 108, 109, 110, 75, 111, 77, 78, 28, 29, 30, 31, 32, 33, 34, 35, 36, 37, 38, 39, 40, 41, 42, 182, 183, 184, 185, 186, 187, 188, 189, 190, 180, 181] (by decide +kernel) (by decide +kernel)
set_option maxRecDepth 20000 in
theorem gX4_digest_X4_repeat : GoodIn wsX4_digest (wsV RX4 265 RX4 yX4_repeat wsX4_repeat) := goodIn_app (goodIn_of _ (by decide +kernel)) ggX4_digest_X4_repeat
set_option maxRecDepth 20000 in
theorem ggX4_digest_X4_hangs : GoodIn wsX4_digest wsX4_hangs := goodIn_r _ [115, 60, 116, 117, 118, 75, 119, 120, 109, 110, 111, 77, 78, 121, 122, 123, 124, 125, 126, 127, 128, 129, 130, 131, 132, 5, 133, 134, 39, 40, 31, 41, 33, 42, 135, 136, 137, 138, 139, 140, 182, 183, 184, 185, 186, 187, 188, 189, 190, 180, 181] (by decide +kernel) (by decide +kernel)
set_option maxRecDepth 20000 in
theorem gX4_digest_X4_hangs : GoodIn wsX4_digest (wsV RX4 268 RX4 yX4_hangs wsX4_hangs) := goodIn_app (goodIn_of _ (by decide +kernel)) ggX4_digest_X4_hangs
set_option maxRecDepth 20000 in
theorem ggX4_digest_X4_reach : GoodIn wsX4_digest wsX4_reach := goodIn_r _ [144, 60, 108, 109, 110, 75, 111, 77, 78, 145, 126, 127, 128, 129, 130, 131, 132, 5, 133, 134, 39, 40, 31, 41, 33, 42, 135, 136, 146, 138, 139, 140, 125, 147, 66, 67, 68, 69, 70, 71, 182, 183, 184, 185, 186, 187, 188, 189, 190, 180, 181] (by decide +kernel) (by decide +kernel)
set_option maxRecDepth 20000 in
theorem gX4_digest_X4_reach : GoodIn wsX4_digest (wsV RX4 271 RX4 yX4_reach wsX4_reach) := goodIn_app (goodIn_of _ (by decide +kernel)) ggX4_digest_X4_reach
set_option maxRecDepth 20000 in
theorem ggX4_digest_X4_floats : GoodIn wsX4_digest wsX4_floats := goodIn_ca (goodIn_r _ [151, 60, 152, 153, 5, 154, 11, 12, 155, 156, 157, 75, 158, 77, 78, 159, 91, 92, 31, 93, 33, 38, 39, 40, 41, 42, 94, 95, 65, 66, 67, 68, 69, 70, 71, 182, 183, 184, 185, 186, 187, 188, 189, 190, 180, 181] (by decide +kernel) (by decide +kernel)) (goodIn_sub (fun _ h => List.mem_cons_of_mem _ (List.mem_append_left _ (List.mem_append_right _ h))) (by decide +kernel))
set_option maxRecDepth 20000 in
theorem gX4_digest_X4_floats : GoodIn wsX4_digest (wsV RX4 274 RX4 yX4_floats wsX4_floats) := goodIn_app (goodIn_of _ (by decide +kernel)) ggX4_digest_X4_floats
set_option maxRecDepth 20000 in
theorem ggX4_digest_X4_seen : GoodIn wsX4_digest wsX4_seen := goodIn_ca (goodIn_r _ [163, 11, 12, 60, 164, 165, 166, 5, 167, 19, 168, 169, 170, 75, 171, 77, 134, 39, 40, 31, 41, 33, 42, 132, 133, 172, 173, 174, 175, 38, 182, 183, 184, 185, 186, 187, 188, 189, 190, 180, 181, 176, 177, 178, 179] (by decide +kernel) (by decide +kernel)) (goodIn_sub (fun _ h => List.mem_cons_of_mem _ (List.mem_append_left _ (List.mem_append_right _ h))) (by decide +kernel))
set_option maxRecDepth 20000 in
theorem gX4_digest_X4_seen : GoodIn wsX4_digest (wsV RX4 277 RX4 yX4_seen wsX4_seen) := goodIn_app (goodIn_of _ (by decide +kernel)) ggX4_digest_X4_seen
theorem dX4_digest_0 : decode cX4_digest 0 = .ok (.ldc2_w 250, 3) := by decide +kernel
theorem dX4_digest_3 : decode cX4_digest 3 = .ok (.lstore_n 1, 1) := by decide +kernel
theorem dX4_digest_4 : decode cX4_digest 4 = .ok (.iconst 0, 1) := by decide +kernel
theorem dX4_digest_5 : decode cX4_digest 5 = .ok (.istore_n 3, 1) := by decide +kernel
theorem dX4_digest_6 : decode cX4_digest 6 = .ok (.iload_n 3, 1) := by decide +kernel
theorem dX4_digest_7 : decode cX4_digest 7 = .ok (.bipush 10, 2) := by decide +kernel
theorem dX4_digest_9 : decode cX4_digest 9 = .ok (.if_icmp .ge 16, 3) := by decide +kernel
theorem dX4_digest_12 : decode cX4_digest 12 = .ok (.aload_n 0, 1) := by decide +kernel
theorem dX4_digest_13 : decode cX4_digest 13 = .ok (.lload_n 1, 1) := by decide +kernel
theorem dX4_digest_14 : decode cX4_digest 14 = .ok (.iload_n 3, 1) := by decide +kernel
theorem dX4_digest_15 : decode cX4_digest 15 = .ok (.invokevirtual 252, 3) := by decide +kernel
theorem dX4_digest_18 : decode cX4_digest 18 = .ok (.lstore_n 1, 1) := by decide +kernel
theorem dX4_digest_19 : decode cX4_digest 19 = .ok (.iinc 3 1, 3) := by decide +kernel
theorem dX4_digest_22 : decode cX4_digest 22 = .ok (.goto (-16), 3) := by decide +kernel
theorem dX4_digest_25 : decode cX4_digest 25 = .ok (.iconst 0, 1) := by decide +kernel
theorem dX4_digest_26 : decode cX4_digest 26 = .ok (.istore_n 3, 1) := by decide +kernel
theorem dX4_digest_27 : decode cX4_digest 27 = .ok (.iload_n 3, 1) := by decide +kernel
theorem dX4_digest_28 : decode cX4_digest 28 = .ok (.bipush 8, 2) := by decide +kernel
theorem dX4_digest_30 : decode cX4_digest 30 = .ok (.if_icmp .ge 19, 3) := by decide +kernel
theorem dX4_digest_33 : decode cX4_digest 33 = .ok (.lload_n 1, 1) := by decide +kernel
theorem dX4_digest_34 : decode cX4_digest 34 = .ok (.aload_n 0, 1) := by decide +kernel
theorem dX4_digest_35 : decode cX4_digest 35 = .ok (.iload_n 3, 1) := by decide +kernel
theorem dX4_digest_36 : decode cX4_digest 36 = .ok (.invokevirtual 256, 3) := by decide +kernel
theorem dX4_digest_39 : decode cX4_digest 39 = .ok (.invokestatic 259, 3) := by decide +kernel
theorem dX4_digest_42 : decode cX4_digest 42 = .ok (.lstore_n 1, 1) := by decide +kernel
theorem dX4_digest_43 : decode cX4_digest 43 = .ok (.iinc 3 1, 3) := by decide +kernel
theorem dX4_digest_46 : decode cX4_digest 46 = .ok (.goto (-19), 3) := by decide +kernel
theorem dX4_digest_49 : decode cX4_digest 49 = .ok (.iconst 0, 1) := by decide +kernel
theorem dX4_digest_50 : decode cX4_digest 50 = .ok (.istore_n 3, 1) := by decide +kernel
theorem dX4_digest_51 : decode cX4_digest 51 = .ok (.iload_n 3, 1) := by decide +kernel
theorem dX4_digest_52 : decode cX4_digest 52 = .ok (.bipush 9, 2) := by decide +kernel
theorem dX4_digest_54 : decode cX4_digest 54 = .ok (.if_icmp .gt 19, 3) := by decide +kernel
theorem dX4_digest_57 : decode cX4_digest 57 = .ok (.lload_n 1, 1) := by decide +kernel
theorem dX4_digest_58 : decode cX4_digest 58 = .ok (.aload_n 0, 1) := by decide +kernel
theorem dX4_digest_59 : decode cX4_digest 59 = .ok (.iload_n 3, 1) := by decide +kernel
theorem dX4_digest_60 : decode cX4_digest 60 = .ok (.invokevirtual 262, 3) := by decide +kernel
theorem dX4_digest_63 : decode cX4_digest 63 = .ok (.invokestatic 259, 3) := by decide +kernel
theorem dX4_digest_66 : decode cX4_digest 66 = .ok (.lstore_n 1, 1) := by decide +kernel
theorem dX4_digest_67 : decode cX4_digest 67 = .ok (.iinc 3 1, 3) := by decide +kernel
theorem dX4_digest_70 : decode cX4_digest 70 = .ok (.goto (-19), 3) := by decide +kernel
theorem dX4_digest_73 : decode cX4_digest 73 = .ok (.lload_n 1, 1) := by decide +kernel
theorem dX4_digest_74 : decode cX4_digest 74 = .ok (.aload_n 0, 1) := by decide +kernel
theorem dX4_digest_75 : decode cX4_digest 75 = .ok (.iconst 1, 1) := by decide +kernel
theorem dX4_digest_76 : decode cX4_digest 76 = .ok (.invokevirtual 265, 3) := by decide +kernel
theorem dX4_digest_79 : decode cX4_digest 79 = .ok (.invokestatic 259, 3) := by decide +kernel
theorem dX4_digest_82 : decode cX4_digest 82 = .ok (.lstore_n 1, 1) := by decide +kernel
theorem dX4_digest_83 : decode cX4_digest 83 = .ok (.lload_n 1, 1) := by decide +kernel
theorem dX4_digest_84 : decode cX4_digest 84 = .ok (.aload_n 0, 1) := by decide +kernel
theorem dX4_digest_85 : decode cX4_digest 85 = .ok (.iconst 0, 1) := by decide +kernel
theorem dX4_digest_86 : decode cX4_digest 86 = .ok (.invokevirtual 265, 3) := by decide +kernel
theorem dX4_digest_89 : decode cX4_digest 89 = .ok (.invokestatic 259, 3) := by decide +kernel
theorem dX4_digest_92 : decode cX4_digest 92 = .ok (.lstore_n 1, 1) := by decide +kernel
theorem dX4_digest_93 : decode cX4_digest 93 = .ok (.lload_n 1, 1) := by decide +kernel
theorem dX4_digest_94 : decode cX4_digest 94 = .ok (.aload_n 0, 1) := by decide +kernel
theorem dX4_digest_95 : decode cX4_digest 95 = .ok (.invokevirtual 268, 3) := by decide +kernel
theorem dX4_digest_98 : decode cX4_digest 98 = .ok (.ifCond .eq 7, 3) := by decide +kernel
theorem dX4_digest_101 : decode cX4_digest 101 = .ok (.iconst 1, 1) := by decide +kernel
theorem dX4_digest_102 : decode cX4_digest 102 = .ok (.goto 4, 3) := by decide +kernel
theorem dX4_digest_105 : decode cX4_digest 105 = .ok (.iconst 0, 1) := by decide +kernel
theorem dX4_digest_106 : decode cX4_digest 106 = .ok (.invokestatic 259, 3) := by decide +kernel
theorem dX4_digest_109 : decode cX4_digest 109 = .ok (.lstore_n 1, 1) := by decide +kernel
theorem dX4_digest_110 : decode cX4_digest 110 = .ok (.lload_n 1, 1) := by decide +kernel
theorem dX4_digest_111 : decode cX4_digest 111 = .ok (.aload_n 0, 1) := by decide +kernel
theorem dX4_digest_112 : decode cX4_digest 112 = .ok (.iconst 1, 1) := by decide +kernel
theorem dX4_digest_113 : decode cX4_digest 113 = .ok (.invokevirtual 271, 3) := by decide +kernel
theorem dX4_digest_116 : decode cX4_digest 116 = .ok (.invokestatic 259, 3) := by decide +kernel
theorem dX4_digest_119 : decode cX4_digest 119 = .ok (.lstore_n 1, 1) := by decide +kernel
theorem dX4_digest_120 : decode cX4_digest 120 = .ok (.lload_n 1, 1) := by decide +kernel
theorem dX4_digest_121 : decode cX4_digest 121 = .ok (.aload_n 0, 1) := by decide +kernel
theorem dX4_digest_122 : decode cX4_digest 122 = .ok (.iconst 0, 1) := by decide +kernel
theorem dX4_digest_123 : decode cX4_digest 123 = .ok (.invokevirtual 271, 3) := by decide +kernel
theorem dX4_digest_126 : decode cX4_digest 126 = .ok (.invokestatic 259, 3) := by decide +kernel
theorem dX4_digest_129 : decode cX4_digest 129 = .ok (.lstore_n 1, 1) := by decide +kernel
theorem dX4_digest_130 : decode cX4_digest 130 = .ok (.lload_n 1, 1) := by decide +kernel
theorem dX4_digest_131 : decode cX4_digest 131 = .ok (.aload_n 0, 1) := by decide +kernel
theorem dX4_digest_132 : decode cX4_digest 132 = .ok (.iconst 2, 1) := by decide +kernel
theorem dX4_digest_133 : decode cX4_digest 133 = .ok (.invokevirtual 274, 3) := by decide +kernel
theorem dX4_digest_136 : decode cX4_digest 136 = .ok (.invokestatic 259, 3) := by decide +kernel
theorem dX4_digest_139 : decode cX4_digest 139 = .ok (.lstore_n 1, 1) := by decide +kernel
theorem dX4_digest_140 : decode cX4_digest 140 = .ok (.lload_n 1, 1) := by decide +kernel
theorem dX4_digest_141 : decode cX4_digest 141 = .ok (.aload_n 0, 1) := by decide +kernel
theorem dX4_digest_142 : decode cX4_digest 142 = .ok (.iconst 3, 1) := by decide +kernel
theorem dX4_digest_143 : decode cX4_digest 143 = .ok (.invokevirtual 274, 3) := by decide +kernel
theorem dX4_digest_146 : decode cX4_digest 146 = .ok (.invokestatic 259, 3) := by decide +kernel
theorem dX4_digest_149 : decode cX4_digest 149 = .ok (.lstore_n 1, 1) := by decide +kernel
theorem dX4_digest_150 : decode cX4_digest 150 = .ok (.lload_n 1, 1) := by decide +kernel
theorem dX4_digest_151 : decode cX4_digest 151 = .ok (.aload_n 0, 1) := by decide +kernel
theorem dX4_digest_152 : decode cX4_digest 152 = .ok (.iconst 5, 1) := by decide +kernel
theorem dX4_digest_153 : decode cX4_digest 153 = .ok (.invokevirtual 274, 3) := by decide +kernel
theorem dX4_digest_156 : decode cX4_digest 156 = .ok (.invokestatic 259, 3) := by decide +kernel
theorem dX4_digest_159 : decode cX4_digest 159 = .ok (.lstore_n 1, 1) := by decide +kernel
theorem dX4_digest_160 : decode cX4_digest 160 = .ok (.iconst 0, 1) := by decide +kernel
theorem dX4_digest_161 : decode cX4_digest 161 = .ok (.istore_n 3, 1) := by decide +kernel
theorem dX4_digest_162 : decode cX4_digest 162 = .ok (.iload_n 3, 1) := by decide +kernel
theorem dX4_digest_163 : decode cX4_digest 163 = .ok (.iconst 3, 1) := by decide +kernel
theorem dX4_digest_164 : decode cX4_digest 164 = .ok (.if_icmp .gt 19, 3) := by decide +kernel
theorem dX4_digest_167 : decode cX4_digest 167 = .ok (.lload_n 1, 1) := by decide +kernel
theorem dX4_digest_168 : decode cX4_digest 168 = .ok (.aload_n 0, 1) := by decide +kernel
theorem dX4_digest_169 : decode cX4_digest 169 = .ok (.iload_n 3, 1) := by decide +kernel
theorem dX4_digest_170 : decode cX4_digest 170 = .ok (.invokevirtual 277, 3) := by decide +kernel
theorem dX4_digest_173 : decode cX4_digest 173 = .ok (.invokestatic 259, 3) := by decide +kernel
theorem dX4_digest_176 : decode cX4_digest 176 = .ok (.lstore_n 1, 1) := by decide +kernel
theorem dX4_digest_177 : decode cX4_digest 177 = .ok (.iinc 3 1, 3) := by decide +kernel
theorem dX4_digest_180 : decode cX4_digest 180 = .ok (.goto (-18), 3) := by decide +kernel
theorem dX4_digest_183 : decode cX4_digest 183 = .ok (.lload_n 1, 1) := by decide +kernel
theorem dX4_digest_184 : decode cX4_digest 184 = .ok (.lreturn, 1) := by decide +kernel
set_option maxRecDepth 20000 in
theorem ggX4_digestOfProgram_X4_ofProgram : GoodIn wsX4_digestOfProgram wsX4_ofProgram := goodIn_ca (goodIn_ca (goodIn_r _ [5, 6, 7, 8, 9, 10, 4, 11, 12, 13, 14, 43, 44, 45, 46, 47, 48, 49, 50, 51, 52, 53, 54, 55] (by decide +kernel) (by decide +kernel)) (goodIn_sub (fun _ h => List.mem_cons_of_mem _ (List.mem_append_left _ (List.mem_append_right _ h))) (by decide +kernel))) (goodIn_sub (fun _ h => List.mem_cons_of_mem _ (List.mem_append_right _ h)) (by decide +kernel))
set_option maxRecDepth 20000 in
theorem gX4_digestOfProgram_X4_ofProgram : GoodIn wsX4_digestOfProgram (wsV RX4 280 RX4 yX4_ofProgram wsX4_ofProgram) := goodIn_app (goodIn_of _ (by decide +kernel)) ggX4_digestOfProgram_X4_ofProgram
set_option maxRecDepth 20000 in
theorem ggX4_digestOfProgram_X4_mixed : GoodIn wsX4_digestOfProgram wsX4_mixed := goodIn_r _ [17, 18] (by decide +kernel) (by decide +kernel)
set_option maxRecDepth 20000 in
theorem gX4_digestOfProgram_X4_mixed : GoodIn wsX4_digestOfProgram (va_wsS RX4 259 yX4_mixed wsX4_mixed) := goodIn_app (goodIn_of _ (by decide +kernel)) ggX4_digestOfProgram_X4_mixed
set_option maxRecDepth 20000 in
theorem ggX4_digestOfProgram_X4_period : GoodIn wsX4_digestOfProgram wsX4_period := goodIn_ca (goodIn_r _ [22, 8, 9, 10, 4, 11, 12, 13, 14, 23, 24, 25, 26, 27, 28, 29, 30, 31, 32, 33, 34, 35, 36, 37, 43, 44, 45, 46, 49, 50, 51, 52, 53, 54, 55, 47, 48] (by decide +kernel) (by decide +kernel)) (goodIn_sub (fun _ h => List.mem_cons_of_mem _ (List.mem_append_right _ h)) (by decide +kernel))
set_option maxRecDepth 20000 in
theorem gX4_digestOfProgram_X4_period : GoodIn wsX4_digestOfProgram (wsV RX4 283 RX4 yX4_period wsX4_period) := goodIn_app (goodIn_of _ (by decide +kernel)) ggX4_digestOfProgram_X4_period
set_option maxRecDepth 20000 in
theorem ggX4_digestOfProgram_X4_number : GoodIn wsX4_digestOfProgram wsX4_number := goodIn_ca (goodIn_r _ [41, 12, 13, 8, 9, 10, 4, 11, 14, 42, 34, 35, 26, 36, 28, 37, 43, 44, 45, 46, 47, 48, 49, 50, 51, 52, 53, 54, 55] (by decide +kernel) (by decide +kernel)) (goodIn_sub (fun _ h => List.mem_cons_of_mem _ (List.mem_append_right _ h)) (by decide +kernel))
set_option maxRecDepth 20000 in
theorem gX4_digestOfProgram_X4_number : GoodIn wsX4_digestOfProgram (wsV RX4 286 RX4 yX4_number wsX4_number) := goodIn_app (goodIn_of _ (by decide +kernel)) ggX4_digestOfProgram_X4_number
theorem dX4_digestOfProgram_0 : decode cX4_digestOfProgram 0 = .ok (.lload_n 1, 1) := by decide +kernel
theorem dX4_digestOfProgram_1 : decode cX4_digestOfProgram 1 = .ok (.lstore 4, 2) := by decide +kernel
theorem dX4_digestOfProgram_3 : decode cX4_digestOfProgram 3 = .ok (.iconst 0, 1) := by decide +kernel
theorem dX4_digestOfProgram_4 : decode cX4_digestOfProgram 4 = .ok (.istore 6, 2) := by decide +kernel
theorem dX4_digestOfProgram_6 : decode cX4_digestOfProgram 6 = .ok (.iload 6, 2) := by decide +kernel
theorem dX4_digestOfProgram_8 : decode cX4_digestOfProgram 8 = .ok (.iconst 3, 1) := by decide +kernel
theorem dX4_digestOfProgram_9 : decode cX4_digestOfProgram 9 = .ok (.if_icmp .gt 23, 3) := by decide +kernel
theorem dX4_digestOfProgram_12 : decode cX4_digestOfProgram 12 = .ok (.lload 4, 2) := by decide +kernel
theorem dX4_digestOfProgram_14 : decode cX4_digestOfProgram 14 = .ok (.aload_n 0, 1) := by decide +kernel
theorem dX4_digestOfProgram_15 : decode cX4_digestOfProgram 15 = .ok (.iload_n 3, 1) := by decide +kernel
theorem dX4_digestOfProgram_16 : decode cX4_digestOfProgram 16 = .ok (.iload 6, 2) := by decide +kernel
theorem dX4_digestOfProgram_18 : decode cX4_digestOfProgram 18 = .ok (.invokevirtual 280, 3) := by decide +kernel
theorem dX4_digestOfProgram_21 : decode cX4_digestOfProgram 21 = .ok (.invokestatic 259, 3) := by decide +kernel
theorem dX4_digestOfProgram_24 : decode cX4_digestOfProgram 24 = .ok (.lstore 4, 2) := by decide +kernel
theorem dX4_digestOfProgram_26 : decode cX4_digestOfProgram 26 = .ok (.iinc 6 1, 3) := by decide +kernel
theorem dX4_digestOfProgram_29 : decode cX4_digestOfProgram 29 = .ok (.goto (-23), 3) := by decide +kernel
theorem dX4_digestOfProgram_32 : decode cX4_digestOfProgram 32 = .ok (.lload 4, 2) := by decide +kernel
theorem dX4_digestOfProgram_34 : decode cX4_digestOfProgram 34 = .ok (.aload_n 0, 1) := by decide +kernel
theorem dX4_digestOfProgram_35 : decode cX4_digestOfProgram 35 = .ok (.iload_n 3, 1) := by decide +kernel
theorem dX4_digestOfProgram_36 : decode cX4_digestOfProgram 36 = .ok (.invokevirtual 283, 3) := by decide +kernel
theorem dX4_digestOfProgram_39 : decode cX4_digestOfProgram 39 = .ok (.invokestatic 259, 3) := by decide +kernel
theorem dX4_digestOfProgram_42 : decode cX4_digestOfProgram 42 = .ok (.lstore 4, 2) := by decide +kernel
theorem dX4_digestOfProgram_44 : decode cX4_digestOfProgram 44 = .ok (.aload_n 0, 1) := by decide +kernel
theorem dX4_digestOfProgram_45 : decode cX4_digestOfProgram 45 = .ok (.iload_n 3, 1) := by decide +kernel
theorem dX4_digestOfProgram_46 : decode cX4_digestOfProgram 46 = .ok (.iconst 1, 1) := by decide +kernel
theorem dX4_digestOfProgram_47 : decode cX4_digestOfProgram 47 = .ok (.invokevirtual 280, 3) := by decide +kernel
theorem dX4_digestOfProgram_50 : decode cX4_digestOfProgram 50 = .ok (.istore 6, 2) := by decide +kernel
theorem dX4_digestOfProgram_52 : decode cX4_digestOfProgram 52 = .ok (.iconst 0, 1) := by decide +kernel
theorem dX4_digestOfProgram_53 : decode cX4_digestOfProgram 53 = .ok (.istore 7, 2) := by decide +kernel
theorem dX4_digestOfProgram_55 : decode cX4_digestOfProgram 55 = .ok (.iload 7, 2) := by decide +kernel
theorem dX4_digestOfProgram_57 : decode cX4_digestOfProgram 57 = .ok (.iload 6, 2) := by decide +kernel
theorem dX4_digestOfProgram_59 : decode cX4_digestOfProgram 59 = .ok (.if_icmp .ge 23, 3) := by decide +kernel
theorem dX4_digestOfProgram_62 : decode cX4_digestOfProgram 62 = .ok (.lload 4, 2) := by decide +kernel
theorem dX4_digestOfProgram_64 : decode cX4_digestOfProgram 64 = .ok (.aload_n 0, 1) := by decide +kernel
theorem dX4_digestOfProgram_65 : decode cX4_digestOfProgram 65 = .ok (.iload_n 3, 1) := by decide +kernel
theorem dX4_digestOfProgram_66 : decode cX4_digestOfProgram 66 = .ok (.iload 7, 2) := by decide +kernel
theorem dX4_digestOfProgram_68 : decode cX4_digestOfProgram 68 = .ok (.invokevirtual 286, 3) := by decide +kernel
theorem dX4_digestOfProgram_71 : decode cX4_digestOfProgram 71 = .ok (.invokestatic 259, 3) := by decide +kernel
theorem dX4_digestOfProgram_74 : decode cX4_digestOfProgram 74 = .ok (.lstore 4, 2) := by decide +kernel
theorem dX4_digestOfProgram_76 : decode cX4_digestOfProgram 76 = .ok (.iinc 7 1, 3) := by decide +kernel
theorem dX4_digestOfProgram_79 : decode cX4_digestOfProgram 79 = .ok (.goto (-24), 3) := by decide +kernel
theorem dX4_digestOfProgram_82 : decode cX4_digestOfProgram 82 = .ok (.lload 4, 2) := by decide +kernel
theorem dX4_digestOfProgram_84 : decode cX4_digestOfProgram 84 = .ok (.lreturn, 1) := by decide +kernel
theorem dX4_mixed_0 : decode cX4_mixed 0 = .ok (.lload_n 0, 1) := by decide +kernel
theorem dX4_mixed_1 : decode cX4_mixed 1 = .ok (.ldc2_w 289, 3) := by decide +kernel
theorem dX4_mixed_4 : decode cX4_mixed 4 = .ok (.lmul, 1) := by decide +kernel
theorem dX4_mixed_5 : decode cX4_mixed 5 = .ok (.iload_n 2, 1) := by decide +kernel
theorem dX4_mixed_6 : decode cX4_mixed 6 = .ok (.i2l, 1) := by decide +kernel
theorem dX4_mixed_7 : decode cX4_mixed 7 = .ok (.ladd, 1) := by decide +kernel
theorem dX4_mixed_8 : decode cX4_mixed 8 = .ok (.lreturn, 1) := by decide +kernel
set_option maxRecDepth 20000 in
theorem ggX4_weaveTrialWith_X4_checkTreadle : GoodIn wsX4_weaveTrialWith wsX4_checkTreadle := goodIn_ca (goodIn_r _ [6, 7, 8] (by decide +kernel) (by decide +kernel)) (goodIn_sub (fun _ h => List.mem_cons_of_mem _ (List.mem_append_right _ h)) (by decide +kernel))
set_option maxRecDepth 20000 in
theorem gX4_weaveTrialWith_X4_checkTreadle : GoodIn wsX4_weaveTrialWith (va_wsS RX4 124 yX4_checkTreadle wsX4_checkTreadle) := goodIn_app (goodIn_of _ (by decide +kernel)) ggX4_weaveTrialWith_X4_checkTreadle
set_option maxRecDepth 20000 in
theorem ggX4_weaveTrialWith_X4_checkShaft : GoodIn wsX4_weaveTrialWith wsX4_checkShaft := goodIn_ca (goodIn_r _ [11, 7, 8] (by decide +kernel) (by decide +kernel)) (goodIn_sub (fun _ h => List.mem_cons_of_mem _ (List.mem_append_right _ h)) (by decide +kernel))
set_option maxRecDepth 20000 in
theorem gX4_weaveTrialWith_X4_checkShaft : GoodIn wsX4_weaveTrialWith (va_wsS RX4 143 yX4_checkShaft wsX4_checkShaft) := goodIn_app (goodIn_of _ (by decide +kernel)) ggX4_weaveTrialWith_X4_checkShaft
set_option maxRecDepth 20000 in
theorem ggX4_weaveTrialWith_X3_copyFrom : GoodIn wsX4_weaveTrialWith wsX3_copyFrom := goodIn_r _ [16, 17, 18, 19, 15, 20, 21, 22, 23, 24, 25, 26, 27, 28, 29, 30, 31, 32, 33, 34, 66, 67] (by decide +kernel) (by decide +kernel)
set_option maxRecDepth 20000 in
theorem gX4_weaveTrialWith_X3_copyFrom : GoodIn wsX4_weaveTrialWith (wsV RX4 153 RX3 yX3_copyFrom wsX3_copyFrom) := goodIn_app (goodIn_of _ (by decide +kernel)) ggX4_weaveTrialWith_X3_copyFrom
set_option maxRecDepth 20000 in
theorem ggX4_weaveTrialWith_X3_at : GoodIn wsX4_weaveTrialWith wsX3_at := goodIn_r _ [29, 21, 30, 66, 67] (by decide +kernel) (by decide +kernel)
set_option maxRecDepth 20000 in
theorem gX4_weaveTrialWith_X3_at : GoodIn wsX4_weaveTrialWith (wsV RX4 96 RX3 yX3_at wsX3_at) := goodIn_app (goodIn_of _ (by decide +kernel)) ggX4_weaveTrialWith_X3_at
set_option maxRecDepth 20000 in
theorem ggX4_weaveTrialWith_X3_put : GoodIn wsX4_weaveTrialWith wsX3_put := goodIn_r _ [39, 21, 30, 66, 67] (by decide +kernel) (by decide +kernel)
set_option maxRecDepth 20000 in
theorem gX4_weaveTrialWith_X3_put : GoodIn wsX4_weaveTrialWith (wsV RX4 129 RX3 yX3_put wsX3_put) := goodIn_app (goodIn_of _ (by decide +kernel)) ggX4_weaveTrialWith_X3_put
set_option maxRecDepth 20000 in
theorem ggX4_weaveTrialWith_X4_weaveTrial : GoodIn wsX4_weaveTrialWith wsX4_weaveTrial := goodIn_r _ [43, 44, 45, 1, 46, 47, 48, 49, 50, 51, 52, 53, 18, 19, 15, 20, 21, 54, 32, 33, 34, 30, 55, 27, 28, 29, 56, 5, 57, 58, 37, 38, 39, 59, 60, 61, 62, 63, 64, 65, 68, 69, 70, 71, 72, 73, 66, 67] (by decide +kernel) (by decide +kernel)
set_option maxRecDepth 20000 in
theorem gX4_weaveTrialWith_X4_weaveTrial : GoodIn wsX4_weaveTrialWith (wsV RX4 247 RX4 yX4_weaveTrial wsX4_weaveTrial) := goodIn_app (goodIn_of _ (by decide +kernel)) ggX4_weaveTrialWith_X4_weaveTrial
theorem dX4_weaveTrialWith_0 : decode cX4_weaveTrialWith 0 = .ok (.iload_n 1, 1) := by decide +kernel
theorem dX4_weaveTrialWith_1 : decode cX4_weaveTrialWith 1 = .ok (.invokestatic 124, 3) := by decide +kernel
theorem dX4_weaveTrialWith_4 : decode cX4_weaveTrialWith 4 = .ok (.iload_n 2, 1) := by decide +kernel
theorem dX4_weaveTrialWith_5 : decode cX4_weaveTrialWith 5 = .ok (.invokestatic 143, 3) := by decide +kernel
theorem dX4_weaveTrialWith_8 : decode cX4_weaveTrialWith 8 = .ok (.aload_n 0, 1) := by decide +kernel
theorem dX4_weaveTrialWith_9 : decode cX4_weaveTrialWith 9 = .ok (.getfield 46, 3) := by decide +kernel
theorem dX4_weaveTrialWith_12 : decode cX4_weaveTrialWith 12 = .ok (.aload_n 0, 1) := by decide +kernel
theorem dX4_weaveTrialWith_13 : decode cX4_weaveTrialWith 13 = .ok (.getfield 28, 3) := by decide +kernel
theorem dX4_weaveTrialWith_16 : decode cX4_weaveTrialWith 16 = .ok (.invokevirtual 153, 3) := by decide +kernel
theorem dX4_weaveTrialWith_19 : decode cX4_weaveTrialWith 19 = .ok (.aload_n 0, 1) := by decide +kernel
theorem dX4_weaveTrialWith_20 : decode cX4_weaveTrialWith 20 = .ok (.getfield 46, 3) := by decide +kernel
theorem dX4_weaveTrialWith_23 : decode cX4_weaveTrialWith 23 = .ok (.iload_n 1, 1) := by decide +kernel
theorem dX4_weaveTrialWith_24 : decode cX4_weaveTrialWith 24 = .ok (.aload_n 0, 1) := by decide +kernel
theorem dX4_weaveTrialWith_25 : decode cX4_weaveTrialWith 25 = .ok (.getfield 28, 3) := by decide +kernel
theorem dX4_weaveTrialWith_28 : decode cX4_weaveTrialWith 28 = .ok (.iload_n 1, 1) := by decide +kernel
theorem dX4_weaveTrialWith_29 : decode cX4_weaveTrialWith 29 = .ok (.invokevirtual 96, 3) := by decide +kernel
theorem dX4_weaveTrialWith_32 : decode cX4_weaveTrialWith 32 = .ok (.iconst 1, 1) := by decide +kernel
theorem dX4_weaveTrialWith_33 : decode cX4_weaveTrialWith 33 = .ok (.iload_n 2, 1) := by decide +kernel
theorem dX4_weaveTrialWith_34 : decode cX4_weaveTrialWith 34 = .ok (.ishl, 1) := by decide +kernel
theorem dX4_weaveTrialWith_35 : decode cX4_weaveTrialWith 35 = .ok (.ixor, 1) := by decide +kernel
theorem dX4_weaveTrialWith_36 : decode cX4_weaveTrialWith 36 = .ok (.invokevirtual 129, 3) := by decide +kernel
theorem dX4_weaveTrialWith_39 : decode cX4_weaveTrialWith 39 = .ok (.aload_n 0, 1) := by decide +kernel
theorem dX4_weaveTrialWith_40 : decode cX4_weaveTrialWith 40 = .ok (.invokevirtual 247, 3) := by decide +kernel
theorem dX4_weaveTrialWith_43 : decode cX4_weaveTrialWith 43 = .ok (.return_, 1) := by decide +kernel
set_option maxRecDepth 20000 in
theorem ggX4_weaveTrial_X0_weave : GoodIn wsX4_weaveTrial wsX0_weave := goodIn_r _ [8, 9, 10, 11, 12, 13, 14, 15, 16, 17, 18, 19, 20, 21, 22, 23, 24, 25, 26, 27, 28, 29, 30, 31, 32, 44, 45, 46, 47] (by decide +kernel) (by decide +kernel)
set_option maxRecDepth 20000 in
theorem gX4_weaveTrial_X0_weave : GoodIn wsX4_weaveTrial (wsV RX4 157 RX0 yX0_weave wsX0_weave) := goodIn_app (goodIn_of _ (by decide +kernel)) ggX4_weaveTrial_X0_weave
theorem dX4_weaveTrial_0 : decode cX4_weaveTrial 0 = .ok (.aload_n 0, 1) := by decide +kernel
theorem dX4_weaveTrial_1 : decode cX4_weaveTrial 1 = .ok (.getfield 49, 3) := by decide +kernel
theorem dX4_weaveTrial_4 : decode cX4_weaveTrial 4 = .ok (.aload_n 0, 1) := by decide +kernel
theorem dX4_weaveTrial_5 : decode cX4_weaveTrial 5 = .ok (.getfield 11, 3) := by decide +kernel
theorem dX4_weaveTrial_8 : decode cX4_weaveTrial 8 = .ok (.iconst 0, 1) := by decide +kernel
theorem dX4_weaveTrial_9 : decode cX4_weaveTrial 9 = .ok (.aaload, 1) := by decide +kernel
theorem dX4_weaveTrial_10 : decode cX4_weaveTrial 10 = .ok (.getfield 80, 3) := by decide +kernel
theorem dX4_weaveTrial_13 : decode cX4_weaveTrial 13 = .ok (.aload_n 0, 1) := by decide +kernel
theorem dX4_weaveTrial_14 : decode cX4_weaveTrial 14 = .ok (.getfield 11, 3) := by decide +kernel
theorem dX4_weaveTrial_17 : decode cX4_weaveTrial 17 = .ok (.iconst 1, 1) := by decide +kernel
theorem dX4_weaveTrial_18 : decode cX4_weaveTrial 18 = .ok (.aaload, 1) := by decide +kernel
theorem dX4_weaveTrial_19 : decode cX4_weaveTrial 19 = .ok (.getfield 80, 3) := by decide +kernel
theorem dX4_weaveTrial_22 : decode cX4_weaveTrial 22 = .ok (.aload_n 0, 1) := by decide +kernel
theorem dX4_weaveTrial_23 : decode cX4_weaveTrial 23 = .ok (.getfield 46, 3) := by decide +kernel
theorem dX4_weaveTrial_26 : decode cX4_weaveTrial 26 = .ok (.invokevirtual 157, 3) := by decide +kernel
theorem dX4_weaveTrial_29 : decode cX4_weaveTrial 29 = .ok (.return_, 1) := by decide +kernel
theorem dX4_hasBit_0 : decode cX4_hasBit 0 = .ok (.iload_n 0, 1) := by decide +kernel
theorem dX4_hasBit_1 : decode cX4_hasBit 1 = .ok (.iload_n 1, 1) := by decide +kernel
theorem dX4_hasBit_2 : decode cX4_hasBit 2 = .ok (.iushr, 1) := by decide +kernel
theorem dX4_hasBit_3 : decode cX4_hasBit 3 = .ok (.iconst 1, 1) := by decide +kernel
theorem dX4_hasBit_4 : decode cX4_hasBit 4 = .ok (.iand, 1) := by decide +kernel
theorem dX4_hasBit_5 : decode cX4_hasBit 5 = .ok (.ifCond .eq 7, 3) := by decide +kernel
theorem dX4_hasBit_8 : decode cX4_hasBit 8 = .ok (.iconst 1, 1) := by decide +kernel
theorem dX4_hasBit_9 : decode cX4_hasBit 9 = .ok (.goto 4, 3) := by decide +kernel
theorem dX4_hasBit_12 : decode cX4_hasBit 12 = .ok (.iconst 0, 1) := by decide +kernel
theorem dX4_hasBit_13 : decode cX4_hasBit 13 = .ok (.ireturn, 1) := by decide +kernel
theorem dX4_fullSet_0 : decode cX4_fullSet 0 = .ok (.iload_n 0, 1) := by decide +kernel
theorem dX4_fullSet_1 : decode cX4_fullSet 1 = .ok (.ifCond .gt 7, 3) := by decide +kernel
theorem dX4_fullSet_4 : decode cX4_fullSet 4 = .ok (.iconst 0, 1) := by decide +kernel
theorem dX4_fullSet_5 : decode cX4_fullSet 5 = .ok (.goto 9, 3) := by decide +kernel
theorem dX4_fullSet_8 : decode cX4_fullSet 8 = .ok (.iconst (-1), 1) := by decide +kernel
theorem dX4_fullSet_9 : decode cX4_fullSet 9 = .ok (.bipush 32, 2) := by decide +kernel
theorem dX4_fullSet_11 : decode cX4_fullSet 11 = .ok (.iload_n 0, 1) := by decide +kernel
theorem dX4_fullSet_12 : decode cX4_fullSet 12 = .ok (.isub, 1) := by decide +kernel
theorem dX4_fullSet_13 : decode cX4_fullSet 13 = .ok (.iushr, 1) := by decide +kernel
theorem dX4_fullSet_14 : decode cX4_fullSet 14 = .ok (.ireturn, 1) := by decide +kernel
set_option maxRecDepth 20000 in
theorem ggX4_firstBit_X4_hasBit : GoodIn wsX4_firstBit wsX4_hasBit := goodIn_r _ [4] (by decide +kernel) (by decide +kernel)
set_option maxRecDepth 20000 in
theorem gX4_firstBit_X4_hasBit : GoodIn wsX4_firstBit (va_wsS RX4 291 yX4_hasBit wsX4_hasBit) := goodIn_app (goodIn_of _ (by decide +kernel)) ggX4_firstBit_X4_hasBit
theorem dX4_firstBit_0 : decode cX4_firstBit 0 = .ok (.iconst 0, 1) := by decide +kernel
theorem dX4_firstBit_1 : decode cX4_firstBit 1 = .ok (.istore_n 1, 1) := by decide +kernel
theorem dX4_firstBit_2 : decode cX4_firstBit 2 = .ok (.iload_n 1, 1) := by decide +kernel
theorem dX4_firstBit_3 : decode cX4_firstBit 3 = .ok (.bipush 32, 2) := by decide +kernel
theorem dX4_firstBit_5 : decode cX4_firstBit 5 = .ok (.if_icmp .ge 19, 3) := by decide +kernel
theorem dX4_firstBit_8 : decode cX4_firstBit 8 = .ok (.iload_n 0, 1) := by decide +kernel
theorem dX4_firstBit_9 : decode cX4_firstBit 9 = .ok (.iload_n 1, 1) := by decide +kernel
theorem dX4_firstBit_10 : decode cX4_firstBit 10 = .ok (.invokestatic 291, 3) := by decide +kernel
theorem dX4_firstBit_13 : decode cX4_firstBit 13 = .ok (.ifCond .eq 5, 3) := by decide +kernel
theorem dX4_firstBit_16 : decode cX4_firstBit 16 = .ok (.iload_n 1, 1) := by decide +kernel
theorem dX4_firstBit_17 : decode cX4_firstBit 17 = .ok (.ireturn, 1) := by decide +kernel
theorem dX4_firstBit_18 : decode cX4_firstBit 18 = .ok (.iinc 1 1, 3) := by decide +kernel
theorem dX4_firstBit_21 : decode cX4_firstBit 21 = .ok (.goto (-19), 3) := by decide +kernel
theorem dX4_firstBit_24 : decode cX4_firstBit 24 = .ok (.iconst (-1), 1) := by decide +kernel
theorem dX4_firstBit_25 : decode cX4_firstBit 25 = .ok (.ireturn, 1) := by decide +kernel
theorem dX4_runStarts_0 : decode cX4_runStarts 0 = .ok (.iload_n 0, 1) := by decide +kernel
theorem dX4_runStarts_1 : decode cX4_runStarts 1 = .ok (.istore_n 2, 1) := by decide +kernel
theorem dX4_runStarts_2 : decode cX4_runStarts 2 = .ok (.iconst 1, 1) := by decide +kernel
theorem dX4_runStarts_3 : decode cX4_runStarts 3 = .ok (.istore_n 3, 1) := by decide +kernel
theorem dX4_runStarts_4 : decode cX4_runStarts 4 = .ok (.iload_n 3, 1) := by decide +kernel
theorem dX4_runStarts_5 : decode cX4_runStarts 5 = .ok (.iload_n 1, 1) := by decide +kernel
theorem dX4_runStarts_6 : decode cX4_runStarts 6 = .ok (.if_icmp .ge 21, 3) := by decide +kernel
theorem dX4_runStarts_9 : decode cX4_runStarts 9 = .ok (.iload_n 3, 1) := by decide +kernel
theorem dX4_runStarts_10 : decode cX4_runStarts 10 = .ok (.bipush 32, 2) := by decide +kernel
theorem dX4_runStarts_12 : decode cX4_runStarts 12 = .ok (.if_icmp .ge 15, 3) := by decide +kernel
theorem dX4_runStarts_15 : decode cX4_runStarts 15 = .ok (.iload_n 2, 1) := by decide +kernel
theorem dX4_runStarts_16 : decode cX4_runStarts 16 = .ok (.iload_n 0, 1) := by decide +kernel
theorem dX4_runStarts_17 : decode cX4_runStarts 17 = .ok (.iload_n 3, 1) := by decide +kernel
theorem dX4_runStarts_18 : decode cX4_runStarts 18 = .ok (.iushr, 1) := by decide +kernel
theorem dX4_runStarts_19 : decode cX4_runStarts 19 = .ok (.iand, 1) := by decide +kernel
theorem dX4_runStarts_20 : decode cX4_runStarts 20 = .ok (.istore_n 2, 1) := by decide +kernel
theorem dX4_runStarts_21 : decode cX4_runStarts 21 = .ok (.iinc 3 1, 3) := by decide +kernel
theorem dX4_runStarts_24 : decode cX4_runStarts 24 = .ok (.goto (-20), 3) := by decide +kernel
theorem dX4_runStarts_27 : decode cX4_runStarts 27 = .ok (.iload_n 2, 1) := by decide +kernel
theorem dX4_runStarts_28 : decode cX4_runStarts 28 = .ok (.iload_n 0, 1) := by decide +kernel
theorem dX4_runStarts_29 : decode cX4_runStarts 29 = .ok (.iconst 1, 1) := by decide +kernel
theorem dX4_runStarts_30 : decode cX4_runStarts 30 = .ok (.ishl, 1) := by decide +kernel
theorem dX4_runStarts_31 : decode cX4_runStarts 31 = .ok (.iconst (-1), 1) := by decide +kernel
theorem dX4_runStarts_32 : decode cX4_runStarts 32 = .ok (.ixor, 1) := by decide +kernel
theorem dX4_runStarts_33 : decode cX4_runStarts 33 = .ok (.iand, 1) := by decide +kernel
theorem dX4_runStarts_34 : decode cX4_runStarts 34 = .ok (.ireturn, 1) := by decide +kernel
theorem dX4_longestRun_0 : decode cX4_longestRun 0 = .ok (.iload_n 0, 1) := by decide +kernel
theorem dX4_longestRun_1 : decode cX4_longestRun 1 = .ok (.istore_n 1, 1) := by decide +kernel
theorem dX4_longestRun_2 : decode cX4_longestRun 2 = .ok (.iconst 0, 1) := by decide +kernel
theorem dX4_longestRun_3 : decode cX4_longestRun 3 = .ok (.istore_n 2, 1) := by decide +kernel
theorem dX4_longestRun_4 : decode cX4_longestRun 4 = .ok (.iload_n 1, 1) := by decide +kernel
theorem dX4_longestRun_5 : decode cX4_longestRun 5 = .ok (.ifCond .eq 21, 3) := by decide +kernel
theorem dX4_longestRun_8 : decode cX4_longestRun 8 = .ok (.iload_n 2, 1) := by decide +kernel
theorem dX4_longestRun_9 : decode cX4_longestRun 9 = .ok (.bipush 32, 2) := by decide +kernel
theorem dX4_longestRun_11 : decode cX4_longestRun 11 = .ok (.if_icmp .ge 15, 3) := by decide +kernel
theorem dX4_longestRun_14 : decode cX4_longestRun 14 = .ok (.iload_n 1, 1) := by decide +kernel
theorem dX4_longestRun_15 : decode cX4_longestRun 15 = .ok (.iload_n 1, 1) := by decide +kernel
theorem dX4_longestRun_16 : decode cX4_longestRun 16 = .ok (.iconst 1, 1) := by decide +kernel
theorem dX4_longestRun_17 : decode cX4_longestRun 17 = .ok (.iushr, 1) := by decide +kernel
theorem dX4_longestRun_18 : decode cX4_longestRun 18 = .ok (.iand, 1) := by decide +kernel
theorem dX4_longestRun_19 : decode cX4_longestRun 19 = .ok (.istore_n 1, 1) := by decide +kernel
theorem dX4_longestRun_20 : decode cX4_longestRun 20 = .ok (.iinc 2 1, 3) := by decide +kernel
theorem dX4_longestRun_23 : decode cX4_longestRun 23 = .ok (.goto (-19), 3) := by decide +kernel
theorem dX4_longestRun_26 : decode cX4_longestRun 26 = .ok (.iload_n 2, 1) := by decide +kernel
theorem dX4_longestRun_27 : decode cX4_longestRun 27 = .ok (.ireturn, 1) := by decide +kernel
set_option maxRecDepth 20000 in
theorem ggX4_runAround_X4_hasBit : GoodIn wsX4_runAround wsX4_hasBit := goodIn_r _ [4] (by decide +kernel) (by decide +kernel)
set_option maxRecDepth 20000 in
theorem gX4_runAround_X4_hasBit : GoodIn wsX4_runAround (va_wsS RX4 291 yX4_hasBit wsX4_hasBit) := goodIn_app (goodIn_of _ (by decide +kernel)) ggX4_runAround_X4_hasBit
theorem dX4_runAround_0 : decode cX4_runAround 0 = .ok (.iconst 0, 1) := by decide +kernel
theorem dX4_runAround_1 : decode cX4_runAround 1 = .ok (.istore_n 2, 1) := by decide +kernel
theorem dX4_runAround_2 : decode cX4_runAround 2 = .ok (.iload_n 1, 1) := by decide +kernel
theorem dX4_runAround_3 : decode cX4_runAround 3 = .ok (.istore_n 3, 1) := by decide +kernel
theorem dX4_runAround_4 : decode cX4_runAround 4 = .ok (.iload_n 3, 1) := by decide +kernel
theorem dX4_runAround_5 : decode cX4_runAround 5 = .ok (.bipush 32, 2) := by decide +kernel
theorem dX4_runAround_7 : decode cX4_runAround 7 = .ok (.if_icmp .ge 20, 3) := by decide +kernel
theorem dX4_runAround_10 : decode cX4_runAround 10 = .ok (.iload_n 0, 1) := by decide +kernel
theorem dX4_runAround_11 : decode cX4_runAround 11 = .ok (.iload_n 3, 1) := by decide +kernel
theorem dX4_runAround_12 : decode cX4_runAround 12 = .ok (.invokestatic 291, 3) := by decide +kernel
theorem dX4_runAround_15 : decode cX4_runAround 15 = .ok (.ifCond .eq 12, 3) := by decide +kernel
theorem dX4_runAround_18 : decode cX4_runAround 18 = .ok (.iinc 2 1, 3) := by decide +kernel
theorem dX4_runAround_21 : decode cX4_runAround 21 = .ok (.iinc 3 1, 3) := by decide +kernel
theorem dX4_runAround_24 : decode cX4_runAround 24 = .ok (.goto (-20), 3) := by decide +kernel
theorem dX4_runAround_27 : decode cX4_runAround 27 = .ok (.iload_n 1, 1) := by decide +kernel
theorem dX4_runAround_28 : decode cX4_runAround 28 = .ok (.iconst 1, 1) := by decide +kernel
theorem dX4_runAround_29 : decode cX4_runAround 29 = .ok (.isub, 1) := by decide +kernel
theorem dX4_runAround_30 : decode cX4_runAround 30 = .ok (.istore_n 3, 1) := by decide +kernel
theorem dX4_runAround_31 : decode cX4_runAround 31 = .ok (.iload_n 3, 1) := by decide +kernel
theorem dX4_runAround_32 : decode cX4_runAround 32 = .ok (.ifCond .lt 20, 3) := by decide +kernel
theorem dX4_runAround_35 : decode cX4_runAround 35 = .ok (.iload_n 0, 1) := by decide +kernel
theorem dX4_runAround_36 : decode cX4_runAround 36 = .ok (.iload_n 3, 1) := by decide +kernel
theorem dX4_runAround_37 : decode cX4_runAround 37 = .ok (.invokestatic 291, 3) := by decide +kernel
theorem dX4_runAround_40 : decode cX4_runAround 40 = .ok (.ifCond .eq 12, 3) := by decide +kernel
theorem dX4_runAround_43 : decode cX4_runAround 43 = .ok (.iinc 2 1, 3) := by decide +kernel
theorem dX4_runAround_46 : decode cX4_runAround 46 = .ok (.iinc 3 (-1), 3) := by decide +kernel
theorem dX4_runAround_49 : decode cX4_runAround 49 = .ok (.goto (-18), 3) := by decide +kernel
theorem dX4_runAround_52 : decode cX4_runAround 52 = .ok (.iload_n 2, 1) := by decide +kernel
theorem dX4_runAround_53 : decode cX4_runAround 53 = .ok (.ireturn, 1) := by decide +kernel
theorem dJ6_bitCount_0f7a4_0 : decode cJ6_bitCount_0f7a4 0 = .ok (.iload_n 0, 1) := by decide +kernel
theorem dJ6_bitCount_0f7a4_1 : decode cJ6_bitCount_0f7a4 1 = .ok (.iload_n 0, 1) := by decide +kernel
theorem dJ6_bitCount_0f7a4_2 : decode cJ6_bitCount_0f7a4 2 = .ok (.iconst 1, 1) := by decide +kernel
theorem dJ6_bitCount_0f7a4_3 : decode cJ6_bitCount_0f7a4 3 = .ok (.iushr, 1) := by decide +kernel
theorem dJ6_bitCount_0f7a4_4 : decode cJ6_bitCount_0f7a4 4 = .ok (.ldc_w 265, 3) := by decide +kernel
theorem dJ6_bitCount_0f7a4_7 : decode cJ6_bitCount_0f7a4 7 = .ok (.iand, 1) := by decide +kernel
theorem dJ6_bitCount_0f7a4_8 : decode cJ6_bitCount_0f7a4 8 = .ok (.isub, 1) := by decide +kernel
theorem dJ6_bitCount_0f7a4_9 : decode cJ6_bitCount_0f7a4 9 = .ok (.istore_n 0, 1) := by decide +kernel
theorem dJ6_bitCount_0f7a4_10 : decode cJ6_bitCount_0f7a4 10 = .ok (.iload_n 0, 1) := by decide +kernel
theorem dJ6_bitCount_0f7a4_11 : decode cJ6_bitCount_0f7a4 11 = .ok (.ldc_w 266, 3) := by decide +kernel
theorem dJ6_bitCount_0f7a4_14 : decode cJ6_bitCount_0f7a4 14 = .ok (.iand, 1) := by decide +kernel
theorem dJ6_bitCount_0f7a4_15 : decode cJ6_bitCount_0f7a4 15 = .ok (.iload_n 0, 1) := by decide +kernel
theorem dJ6_bitCount_0f7a4_16 : decode cJ6_bitCount_0f7a4 16 = .ok (.iconst 2, 1) := by decide +kernel
theorem dJ6_bitCount_0f7a4_17 : decode cJ6_bitCount_0f7a4 17 = .ok (.iushr, 1) := by decide +kernel
theorem dJ6_bitCount_0f7a4_18 : decode cJ6_bitCount_0f7a4 18 = .ok (.ldc_w 266, 3) := by decide +kernel
theorem dJ6_bitCount_0f7a4_21 : decode cJ6_bitCount_0f7a4 21 = .ok (.iand, 1) := by decide +kernel
theorem dJ6_bitCount_0f7a4_22 : decode cJ6_bitCount_0f7a4 22 = .ok (.iadd, 1) := by decide +kernel
theorem dJ6_bitCount_0f7a4_23 : decode cJ6_bitCount_0f7a4 23 = .ok (.istore_n 0, 1) := by decide +kernel
theorem dJ6_bitCount_0f7a4_24 : decode cJ6_bitCount_0f7a4 24 = .ok (.iload_n 0, 1) := by decide +kernel
theorem dJ6_bitCount_0f7a4_25 : decode cJ6_bitCount_0f7a4 25 = .ok (.iload_n 0, 1) := by decide +kernel
theorem dJ6_bitCount_0f7a4_26 : decode cJ6_bitCount_0f7a4 26 = .ok (.iconst 4, 1) := by decide +kernel
theorem dJ6_bitCount_0f7a4_27 : decode cJ6_bitCount_0f7a4 27 = .ok (.iushr, 1) := by decide +kernel
theorem dJ6_bitCount_0f7a4_28 : decode cJ6_bitCount_0f7a4 28 = .ok (.iadd, 1) := by decide +kernel
theorem dJ6_bitCount_0f7a4_29 : decode cJ6_bitCount_0f7a4 29 = .ok (.ldc_w 267, 3) := by decide +kernel
theorem dJ6_bitCount_0f7a4_32 : decode cJ6_bitCount_0f7a4 32 = .ok (.iand, 1) := by decide +kernel
theorem dJ6_bitCount_0f7a4_33 : decode cJ6_bitCount_0f7a4 33 = .ok (.istore_n 0, 1) := by decide +kernel
theorem dJ6_bitCount_0f7a4_34 : decode cJ6_bitCount_0f7a4 34 = .ok (.iload_n 0, 1) := by decide +kernel
theorem dJ6_bitCount_0f7a4_35 : decode cJ6_bitCount_0f7a4 35 = .ok (.iload_n 0, 1) := by decide +kernel
theorem dJ6_bitCount_0f7a4_36 : decode cJ6_bitCount_0f7a4 36 = .ok (.bipush 8, 2) := by decide +kernel
theorem dJ6_bitCount_0f7a4_38 : decode cJ6_bitCount_0f7a4 38 = .ok (.iushr, 1) := by decide +kernel
theorem dJ6_bitCount_0f7a4_39 : decode cJ6_bitCount_0f7a4 39 = .ok (.iadd, 1) := by decide +kernel
theorem dJ6_bitCount_0f7a4_40 : decode cJ6_bitCount_0f7a4 40 = .ok (.istore_n 0, 1) := by decide +kernel
theorem dJ6_bitCount_0f7a4_41 : decode cJ6_bitCount_0f7a4 41 = .ok (.iload_n 0, 1) := by decide +kernel
theorem dJ6_bitCount_0f7a4_42 : decode cJ6_bitCount_0f7a4 42 = .ok (.iload_n 0, 1) := by decide +kernel
theorem dJ6_bitCount_0f7a4_43 : decode cJ6_bitCount_0f7a4 43 = .ok (.bipush 16, 2) := by decide +kernel
theorem dJ6_bitCount_0f7a4_45 : decode cJ6_bitCount_0f7a4 45 = .ok (.iushr, 1) := by decide +kernel
theorem dJ6_bitCount_0f7a4_46 : decode cJ6_bitCount_0f7a4 46 = .ok (.iadd, 1) := by decide +kernel
theorem dJ6_bitCount_0f7a4_47 : decode cJ6_bitCount_0f7a4 47 = .ok (.istore_n 0, 1) := by decide +kernel
theorem dJ6_bitCount_0f7a4_48 : decode cJ6_bitCount_0f7a4 48 = .ok (.iload_n 0, 1) := by decide +kernel
theorem dJ6_bitCount_0f7a4_49 : decode cJ6_bitCount_0f7a4 49 = .ok (.bipush 63, 2) := by decide +kernel
theorem dJ6_bitCount_0f7a4_51 : decode cJ6_bitCount_0f7a4 51 = .ok (.iand, 1) := by decide +kernel
theorem dJ6_bitCount_0f7a4_52 : decode cJ6_bitCount_0f7a4 52 = .ok (.ireturn, 1) := by decide +kernel
theorem dJ9_abs_294c1_0 : decode cJ9_abs_294c1 0 = .ok (.dload_n 0, 1) := by decide +kernel
theorem dJ9_abs_294c1_1 : decode cJ9_abs_294c1 1 = .ok (.invokestatic 79, 3) := by decide +kernel
theorem dJ9_abs_294c1_4 : decode cJ9_abs_294c1 4 = .ok (.ldc2_w 135, 3) := by decide +kernel
theorem dJ9_abs_294c1_7 : decode cJ9_abs_294c1 7 = .ok (.land, 1) := by decide +kernel
theorem dJ9_abs_294c1_8 : decode cJ9_abs_294c1 8 = .ok (.invokestatic 166, 3) := by decide +kernel
theorem dJ9_abs_294c1_11 : decode cJ9_abs_294c1 11 = .ok (.dreturn, 1) := by decide +kernel
theorem dJ9_max_7cf53_0 : decode cJ9_max_7cf53 0 = .ok (.iload_n 0, 1) := by decide +kernel
theorem dJ9_max_7cf53_1 : decode cJ9_max_7cf53 1 = .ok (.iload_n 1, 1) := by decide +kernel
theorem dJ9_max_7cf53_2 : decode cJ9_max_7cf53 2 = .ok (.if_icmp .lt 7, 3) := by decide +kernel
theorem dJ9_max_7cf53_5 : decode cJ9_max_7cf53 5 = .ok (.iload_n 0, 1) := by decide +kernel
theorem dJ9_max_7cf53_6 : decode cJ9_max_7cf53 6 = .ok (.goto 4, 3) := by decide +kernel
theorem dJ9_max_7cf53_9 : decode cJ9_max_7cf53 9 = .ok (.iload_n 1, 1) := by decide +kernel
theorem dJ9_max_7cf53_10 : decode cJ9_max_7cf53 10 = .ok (.ireturn, 1) := by decide +kernel
theorem dJ9_min_7cf53_0 : decode cJ9_min_7cf53 0 = .ok (.iload_n 0, 1) := by decide +kernel
theorem dJ9_min_7cf53_1 : decode cJ9_min_7cf53 1 = .ok (.iload_n 1, 1) := by decide +kernel
theorem dJ9_min_7cf53_2 : decode cJ9_min_7cf53 2 = .ok (.if_icmp .gt 7, 3) := by decide +kernel
theorem dJ9_min_7cf53_5 : decode cJ9_min_7cf53 5 = .ok (.iload_n 0, 1) := by decide +kernel
theorem dJ9_min_7cf53_6 : decode cJ9_min_7cf53 6 = .ok (.goto 4, 3) := by decide +kernel
theorem dJ9_min_7cf53_9 : decode cJ9_min_7cf53 9 = .ok (.iload_n 1, 1) := by decide +kernel
theorem dJ9_min_7cf53_10 : decode cJ9_min_7cf53 10 = .ok (.ireturn, 1) := by decide +kernel
theorem dL_below_0 : decode cL_below 0 = .ok (.iload_n 0, 1) := by decide +kernel
theorem dL_below_1 : decode cL_below 1 = .ok (.ldc 7, 2) := by decide +kernel
theorem dL_below_3 : decode cL_below 3 = .ok (.iand, 1) := by decide +kernel
theorem dL_below_4 : decode cL_below 4 = .ok (.iload_n 1, 1) := by decide +kernel
theorem dL_below_5 : decode cL_below 5 = .ok (.irem, 1) := by decide +kernel
theorem dL_below_6 : decode cL_below 6 = .ok (.ireturn, 1) := by decide +kernel
theorem dL_cell_0 : decode cL_cell 0 = .ok (.iload_n 1, 1) := by decide +kernel
theorem dL_cell_1 : decode cL_cell 1 = .ok (.aload_n 0, 1) := by decide +kernel
theorem dL_cell_2 : decode cL_cell 2 = .ok (.arraylength, 1) := by decide +kernel
theorem dL_cell_3 : decode cL_cell 3 = .ok (.if_icmp .ge 9, 3) := by decide +kernel
theorem dL_cell_6 : decode cL_cell 6 = .ok (.aload_n 0, 1) := by decide +kernel
theorem dL_cell_7 : decode cL_cell 7 = .ok (.iload_n 1, 1) := by decide +kernel
theorem dL_cell_8 : decode cL_cell 8 = .ok (.iaload, 1) := by decide +kernel
theorem dL_cell_9 : decode cL_cell 9 = .ok (.goto 9, 3) := by decide +kernel
theorem dL_cell_12 : decode cL_cell 12 = .ok (.ldc 8, 2) := by decide +kernel
theorem dL_cell_14 : decode cL_cell 14 = .ok (.iload_n 1, 1) := by decide +kernel
theorem dL_cell_15 : decode cL_cell 15 = .ok (.iconst 3, 1) := by decide +kernel
theorem dL_cell_16 : decode cL_cell 16 = .ok (.iadd, 1) := by decide +kernel
theorem dL_cell_17 : decode cL_cell 17 = .ok (.imul, 1) := by decide +kernel
theorem dL_cell_18 : decode cL_cell 18 = .ok (.ireturn, 1) := by decide +kernel
abbrev vwCl : List vw_C := [(RX0, TX0, 2), (RX1, TX1, 4), (RX2, TX2, 4), (RX3, TX3, 2), (RX4, TX4, 7)]
end
section
/-! what the tables say of the nest mates' fields and methods -/
abbrev nF : List (String × Nat × String × String × String × String) := [("TreadleLoom", 160, "TreadleLoom$Cloth", "ends", "LTreadleLoom$Row;", "TreadleLoom"), ("TreadleLoom", 163, "TreadleLoom$Cloth", "picks", "LTreadleLoom$Row;", "TreadleLoom"), ("TreadleLoom", 56, "TreadleLoom$Program", "tokens", "LTreadleLoom$Row;", "TreadleLoom"), ("TreadleLoom", 62, "TreadleLoom$Row", "size", "I", "TreadleLoom"), ("TreadleLoom", 80, "TreadleLoom$Program", "numbers", "LTreadleLoom$Row;", "TreadleLoom"), ("TreadleLoom", 83, "TreadleLoom$Program", "fault", "I", "TreadleLoom"), ("TreadleLoom", 86, "TreadleLoom$Program", "faultPlace", "I", "TreadleLoom"), ("TreadleLoom$Cloth", 26, "TreadleLoom$Row", "size", "I", "TreadleLoom"), ("TreadleLoom$Compiler", 33, "TreadleLoom$Program", "tokens", "LTreadleLoom$Row;", "TreadleLoom"), ("TreadleLoom$Compiler", 38, "TreadleLoom$Row", "size", "I", "TreadleLoom"), ("TreadleLoom$Compiler", 89, "TreadleLoom$Program", "fault", "I", "TreadleLoom"), ("TreadleLoom$Compiler", 92, "TreadleLoom$Program", "numbers", "LTreadleLoom$Row;", "TreadleLoom")]
abbrev nM : List (String × Nat × MethodName × String) := [("TreadleLoom", 15, yX2_init, "TreadleLoom"), ("TreadleLoom", 18, yX1_init, "TreadleLoom"), ("TreadleLoom", 37, yX0_init, "TreadleLoom"), ("TreadleLoom$Cloth", 37, yX4_hasBit, "TreadleLoom"), ("TreadleLoom$Cloth", 48, yX4_runAround, "TreadleLoom"), ("TreadleLoom$Cloth", 76, yX4_fullSet, "TreadleLoom"), ("TreadleLoom$Row", 57, yX4_runStarts, "TreadleLoom"), ("TreadleLoom$Row", 62, yX4_longestRun, "TreadleLoom")]
def NW (U : State) : Prop := (∀ q ∈ nF, va_Nw (.fieldLinkNest q.1 q.2.1 q.2.2.1 q.2.2.2.1 q.2.2.2.2.1 q.2.2.2.2.2) U) ∧ ∀ q ∈ nM, va_Nw (.methodLinkNest q.1 q.2.1 q.2.2.1 q.2.2.2) U
theorem NW.warm {s U : State} (hW : s.WarmedH U.vm) (h : NW s) : NW U := ⟨fun q hq => va_Nw.warmF hW (h.1 q hq), fun q hq => va_Nw.warmM hW (h.2 q hq)⟩
theorem NW.same {u U : State} (hv : u.vm = U.vm) (h : NW u) : NW U := ⟨fun q hq => va_Nw.same rfl hv (h.1 q hq), fun q hq => va_Nw.same rfl hv (h.2 q hq)⟩
/-! THE WALK OVER A PICTURE: J at a place of a method's code, over any heap that holds the picture; its rows; contracts by pictures. -/
/-- the locals by their places -/
def lvP : Nat → List (Option Value) → List (Nat × Value)
  | _, [] => []
  | i, none :: t => lvP (i + 1) t
  | i, some v :: t => (i, v) :: lvP (i + 1) t
def lget : List (Option Value) → Nat → Option Value
  | [], _ => none
  | x :: _, 0 => x
  | _ :: t, n + 1 => lget t n
def lset : List (Option Value) → Nat → Option Value → List (Option Value)
  | [], _, _ => []
  | _ :: t, 0, v => v :: t
  | x :: t, n + 1, v => x :: lset t n v
/-- the place ahead holds no long or double -/
def lok (lv : List (Option Value)) : Nat → Bool
  | 0 => true
  | k + 1 => match lget lv k with
    | some v => v.category == 1
    | none => true
theorem lvP_mem {j : Nat} {v : Value} : ∀ {i : Nat} {lv : List (Option Value)}, (j, v) ∈ lvP i lv ↔ i ≤ j ∧ lget lv (j - i) = some v
  | i, [] => by simp [lvP, lget]
  | i, none :: t => by
    rw [lvP, lvP_mem (i := i + 1) (lv := t)]
    constructor
    · rintro ⟨h1, h2⟩
      refine ⟨by omega, ?_⟩
      obtain ⟨k, rfl⟩ : ∃ k, j = i + 1 + k := ⟨j - (i + 1), by omega⟩
      rw [show i + 1 + k - i = k + 1 by omega]
      rw [show i + 1 + k - (i + 1) = k by omega] at h2
      exact h2
    · rintro ⟨h1, h2⟩
      rcases Nat.eq_or_lt_of_le h1 with h | h
      · subst h
        rw [Nat.sub_self] at h2
        cases h2
      · obtain ⟨k, rfl⟩ : ∃ k, j = i + 1 + k := ⟨j - (i + 1), by omega⟩
        rw [show i + 1 + k - i = k + 1 by omega] at h2
        exact ⟨by omega, by rw [show i + 1 + k - (i + 1) = k by omega]; exact h2⟩
  | i, some u :: t => by
    rw [lvP, List.mem_cons, lvP_mem (i := i + 1) (lv := t)]
    constructor
    · rintro (h | ⟨h1, h2⟩)
      · cases h
        exact ⟨Nat.le_refl _, by rw [Nat.sub_self]; rfl⟩
      · refine ⟨by omega, ?_⟩
        obtain ⟨k, rfl⟩ : ∃ k, j = i + 1 + k := ⟨j - (i + 1), by omega⟩
        rw [show i + 1 + k - i = k + 1 by omega]
        rw [show i + 1 + k - (i + 1) = k by omega] at h2
        exact h2
    · rintro ⟨h1, h2⟩
      rcases Nat.eq_or_lt_of_le h1 with h | h
      · subst h
        rw [Nat.sub_self] at h2
        cases h2
        exact Or.inl rfl
      · obtain ⟨k, rfl⟩ : ∃ k, j = i + 1 + k := ⟨j - (i + 1), by omega⟩
        rw [show i + 1 + k - i = k + 1 by omega] at h2
        exact Or.inr ⟨by omega, by rw [show i + 1 + k - (i + 1) = k by omega]; exact h2⟩
theorem lget_lset {v : Option Value} : ∀ {lv : List (Option Value)} {i j : Nat}, j ≠ i → lget (lset lv i v) j = lget lv j
  | [], _, _, _ => rfl
  | _ :: _, 0, 0, h => absurd rfl h
  | _ :: _, 0, _ + 1, _ => rfl
  | _ :: _, _ + 1, 0, _ => rfl
  | _ :: t, i + 1, j + 1, h => lget_lset (lv := t) (fun q => h (congrArg (· + 1) q))
theorem lget_lset_self {v w : Value} : ∀ {lv : List (Option Value)} {i : Nat}, lget (lset lv i (some v)) i = some w → w = v
  | [], _, h => by cases h
  | _ :: _, 0, h => (Option.some.inj h).symm
  | _ :: t, i + 1, h => lget_lset_self (lv := t) h
theorem lget_lset_none {w : Value} : ∀ {lv : List (Option Value)} {i : Nat}, ¬ lget (lset lv i none) i = some w
  | [], _, h => by cases h
  | _ :: _, 0, h => by cases h
  | _ :: t, i + 1, h => lget_lset_none (lv := t) h
def lvF (ls : Array Slot) (nL : Nat) (lv : List (Option Value)) : Prop := lv_has ls nL (lvP 0 lv)
theorem lvF.at {ls : Array Slot} {nL : Nat} {lv : List (Option Value)} (h : lvF ls nL lv) {i : Nat} {v : Value} (hi : lget lv i = some v) : ls[i]? = some (.val v) :=
  h.2.2 (i, v) (lvP_mem.mpr ⟨Nat.zero_le _, hi⟩)
theorem lvF.mono {ls : Array Slot} {nL : Nat} {lv lv' : List (Option Value)} (h : lvF ls nL lv) (hh : ∀ i v, lget lv' i = some v → lget lv i = some v) : lvF ls nL lv' :=
  ⟨h.1, h.2.1, fun q hq => h.2.2 q (lvP_mem.mpr ⟨Nat.zero_le _, hh _ _ (lvP_mem.mp hq).2⟩)⟩
theorem lvF.st1 {ls : Array Slot} {nL i : Nat} {v : Value} {lv : List (Option Value)} (hok : lok lv i = true) (h : lv_has ls nL ((i, v) :: (lvP 0 lv).filter (fun q => !(q.1 == i) && !(q.1 + 1 == i && q.2.category == 2)))) : lvF ls nL (lset lv i (some v)) := by
  refine ⟨h.1, h.2.1, fun q hq => h.2.2 q ?_⟩
  obtain ⟨j, w⟩ := q
  have hj := (lvP_mem.mp hq).2
  rw [Nat.sub_zero] at hj
  by_cases e : j = i
  · subst e
    rw [lget_lset_self hj]
    exact List.mem_cons_self
  · rw [lget_lset e] at hj
    refine List.mem_cons_of_mem _ (List.mem_filter.mpr ⟨lvP_mem.mpr ⟨Nat.zero_le _, hj⟩, ?_⟩)
    simp only [Bool.and_eq_true, Bool.not_eq_true', beq_eq_false_iff_ne, Bool.and_eq_false_iff]
    refine ⟨e, ?_⟩
    by_cases e2 : j + 1 = i
    · subst e2
      refine Or.inr ?_
      rw [lok, hj] at hok
      have h1 : w.category = 1 := eq_of_beq hok
      rw [h1]
      decide
    · exact Or.inl e2
theorem lvF.st2 {ls : Array Slot} {nL i : Nat} {v : Value} {lv : List (Option Value)} (hok : lok lv i = true) (h : lv_has ls nL ((i, v) :: (lvP 0 lv).filter (fun q => !(q.1 == i) && (!(q.1 == i + 1) && !(q.1 + 1 == i && q.2.category == 2))))) : lvF ls nL (lset (lset lv i (some v)) (i + 1) none) := by
  refine ⟨h.1, h.2.1, fun q hq => h.2.2 q ?_⟩
  obtain ⟨j, w⟩ := q
  have hj := (lvP_mem.mp hq).2
  rw [Nat.sub_zero] at hj
  by_cases e3 : j = i + 1
  · subst e3
    exact absurd hj lget_lset_none
  · rw [lget_lset e3] at hj
    by_cases e : j = i
    · subst e
      rw [lget_lset_self hj]
      exact List.mem_cons_self
    · rw [lget_lset e] at hj
      refine List.mem_cons_of_mem _ (List.mem_filter.mpr ⟨lvP_mem.mpr ⟨Nat.zero_le _, hj⟩, ?_⟩)
      simp only [Bool.and_eq_true, Bool.not_eq_true', beq_eq_false_iff_ne, Bool.and_eq_false_iff]
      refine ⟨e, e3, ?_⟩
      by_cases e2 : j + 1 = i
      · subst e2
        refine Or.inr ?_
        rw [lok, hj] at hok
        have h1 : w.category = 1 := eq_of_beq hok
        rw [h1]
        decide
      · exact Or.inl e2
/-- what a walk stands in: program, launch, world's env, room, start, method, its arguments, the frames below, method and code, what may change, the cells and slots made, what is sought -/
abbrev Cx : Type := Program × Launch × Env × Room × State × MethodId × Array Value × List Frame × Method × Code × (Nat → Prop) × Nat × Nat × (State → Prop)
def Cx.p (X : Cx) : Program := X.1
def Cx.l (X : Cx) : Launch := X.2.1
def Cx.e (X : Cx) : Env := X.2.2.1
def Cx.R (X : Cx) : Room := X.2.2.2.1
def Cx.s (X : Cx) : State := X.2.2.2.2.1
def Cx.m (X : Cx) : MethodId := X.2.2.2.2.2.1
def Cx.args (X : Cx) : Array Value := X.2.2.2.2.2.2.1
def Cx.below (X : Cx) : List Frame := X.2.2.2.2.2.2.2.1
def Cx.meth (X : Cx) : Method := X.2.2.2.2.2.2.2.2.1
def Cx.c (X : Cx) : Code := X.2.2.2.2.2.2.2.2.2.1
def Cx.A (X : Cx) : Nat → Prop := X.2.2.2.2.2.2.2.2.2.2.1
def Cx.k (X : Cx) : Nat := X.2.2.2.2.2.2.2.2.2.2.2.1
def Cx.n (X : Cx) : Nat := X.2.2.2.2.2.2.2.2.2.2.2.2.1
def Cx.Q (X : Cx) : State → Prop := X.2.2.2.2.2.2.2.2.2.2.2.2.2
def J (X : Cx) (nL : Nat) (w : Heap → Prop) (pc : Nat) (lv : List (Option Value)) (st : List Value) : Prop :=
  ∀ (H : Heap) (locs : List Loc) (ls : Array Slot), w H → va_S X.A X.s.heap H locs → lvF ls nL lv → W X.p X.l X.e X.R X.s X.m X.args X.below X.meth X.c H locs X.k X.n X.Q (F0 X.m pc ls st)
/-- the classes' addresses in the tables, the cells' addresses, the array classes -/
abbrev Zx : Type := va_G × (Nat → Nat) × ClassId × ClassId
def Zx.D (Z : Zx) : va_G := Z.1
def Zx.ad (Z : Zx) : Nat → Nat := Z.2.1
def Zx.cI (Z : Zx) : ClassId := Z.2.2.1
def Zx.cP (Z : Zx) : ClassId := Z.2.2.2
abbrev tysOf (Z : Zx) : List (ClassId × FieldType) := [(Z.cI, .int), (Z.cP, .object RX2)]
/-- what every row needs of where it stands -/
def Fx (X : Cx) (Z : Zx) (cc : ByteArray) (nL : Nat) (Ts : List Cond) (own : String) (R : Room) : Prop :=
  CallFix X.p X.m X.c cc nL X.s X.args Ts own ∧ va_K Z.D vwCl (tysOf Z) X.s ∧ X.R = R ∧ X.k ≤ R.cells ∧ X.n ≤ R.slots ∧ X.meth.locks = false ∧ NW X.s
section JI
variable {X : Cx} {Z : Zx} {cc : ByteArray} {nL : Nat} {Ts : List Cond} {own : String} {R : Room} {w : Heap → Prop} {pc : Nat} {lv : List (Option Value)} {rest : List Value}
theorem Fx.ex (S : Fx X Z cc nL Ts own R) : X.p.tables.exec = Jvm.exec := S.1.1
theorem Fx.by (S : Fx X Z cc nL Ts own R) : X.c.code = cc := S.1.2.1
theorem Fx.ml (S : Fx X Z cc nL Ts own R) : X.c.maxLocals = nL := S.1.2.2.1
theorem Fx.ow (S : Fx X Z cc nL Ts own R) : X.s.vm.findClass own = some X.m.cls := S.1.2.2.2.1
theorem Fx.ts (S : Fx X Z cc nL Ts own R) : ∀ w ∈ Ts, w.before X.args X.s = true := S.1.2.2.2.2
theorem Fx.K (S : Fx X Z cc nL Ts own R) : va_K Z.D vwCl (tysOf Z) X.s := S.2.1
theorem Fx.rm (S : Fx X Z cc nL Ts own R) : X.R = R := S.2.2.1
theorem Fx.lk (S : Fx X Z cc nL Ts own R) : X.meth.locks = false := S.2.2.2.2.2.1
theorem Fx.nw (S : Fx X Z cc nL Ts own R) : NW X.s := S.2.2.2.2.2.2
theorem J.mono {w' : Heap → Prop} {st : List Value} (h : ∀ H, w H → w' H) (k : J X nL w' pc lv st) : J X nL w pc lv st := fun H locs ls hw hS hl => k H locs ls (h H hw) hS hl
theorem J.fewer {lv' : List (Option Value)} {st : List Value} (hh : ∀ i v, lget lv' i = some v → lget lv i = some v) (k : J X nL w pc lv' st) : J X nL w pc lv st := fun H locs ls hw hS hl => k H locs ls hw hS (hl.mono hh)
theorem J.ex {α : Type} {q : α → Heap → Prop} {st : List Value} (k : ∀ a, J X nL (q a) pc lv st) : J X nL (fun H => ∃ a, q a H) pc lv st := fun H locs ls hw hS hl => by
  obtain ⟨a, ha⟩ := hw
  exact k a H locs ls ha hS hl
theorem J.and {P : Prop} {st : List Value} (k : P → J X nL w pc lv st) : J X nL (fun H => P ∧ w H) pc lv st := fun H locs ls hw hS hl => k hw.1 H locs ls hw.2 hS hl
theorem j_iconst (S : Fx X Z cc nL Ts own R) {n : Int} (v : Int32) (hd : decode cc pc = .ok (.iconst n, 1)) (hv : Int32.ofInt n = v) (k : J X nL w (pc + 1) lv (.int v :: rest)) : J X nL w pc lv rest :=
  fun H locs ls hw hS hl => lv_iconst S.ex S.by hd hv (k H locs ls hw hS hl)
theorem j_bipush (S : Fx X Z cc nL Ts own R) {n : Int} (v : Int32) (hd : decode cc pc = .ok (.bipush n, 2)) (hv : (Int8.ofInt n).toInt32 = v) (k : J X nL w (pc + 2) lv (.int v :: rest)) : J X nL w pc lv rest :=
  fun H locs ls hw hS hl => lv_bipush S.ex S.by hd hv (k H locs ls hw hS hl)
theorem j_sipush (S : Fx X Z cc nL Ts own R) {n : Int} (v : Int32) (hd : decode cc pc = .ok (.sipush n, 3)) (hv : (Int16.ofInt n).toInt32 = v) (k : J X nL w (pc + 3) lv (.int v :: rest)) : J X nL w pc lv rest :=
  fun H locs ls hw hS hl => lv_sipush S.ex S.by hd hv (k H locs ls hw hS hl)
theorem j_ldc (S : Fx X Z cc nL Ts own R) {index : Nat} {v : Int32} (hc : Cond.constant own index v ∈ Ts) (hd : decode cc pc = .ok (.ldc index, 2)) (k : J X nL w (pc + 2) lv (.int v :: rest)) : J X nL w pc lv rest :=
  fun H locs ls hw hS hl => lv_ldc S.ex S.by S.ow (S.ts _ hc) hd (k H locs ls hw hS hl)
theorem j_ldc2 (S : Fx X Z cc nL Ts own R) {index : Nat} {v : Int64} (hc : Cond.constantLong own index v ∈ Ts) (hd : decode cc pc = .ok (.ldc2_w index, 3)) (k : J X nL w (pc + 3) lv (.long v :: rest)) : J X nL w pc lv rest :=
  fun H locs ls hw hS hl => lv_ldc2 S.ex S.by S.ow (S.ts _ hc) hd (k H locs ls hw hS hl)
theorem j_iload_n (S : Fx X Z cc nL Ts own R) {i : Fin 4} {v : Int32} (hd : decode cc pc = .ok (.iload_n i, 1)) (hg : lget lv i.val = some (.int v)) (k : J X nL w (pc + 1) lv (.int v :: rest)) : J X nL w pc lv rest :=
  fun H locs ls hw hS hl => lv_iload_n S.ex S.by hd rfl (hl.at hg) (k H locs ls hw hS hl)
theorem j_iload (S : Fx X Z cc nL Ts own R) {i : Nat} {v : Int32} (hd : decode cc pc = .ok (.iload i, 2)) (hg : lget lv i = some (.int v)) (k : J X nL w (pc + 2) lv (.int v :: rest)) : J X nL w pc lv rest :=
  fun H locs ls hw hS hl => lv_iload S.ex S.by hd (hl.at hg) (k H locs ls hw hS hl)
theorem j_lload_n (S : Fx X Z cc nL Ts own R) {i : Fin 4} {v : Int64} (hd : decode cc pc = .ok (.lload_n i, 1)) (hg : lget lv i.val = some (.long v)) (k : J X nL w (pc + 1) lv (.long v :: rest)) : J X nL w pc lv rest :=
  fun H locs ls hw hS hl => lv_lload_n S.ex S.by hd rfl (hl.at hg) (k H locs ls hw hS hl)
theorem j_aload_n (S : Fx X Z cc nL Ts own R) {i : Fin 4} {v : Nat} (hd : decode cc pc = .ok (.aload_n i, 1)) (hg : lget lv i.val = some (.ref v)) (k : J X nL w (pc + 1) lv (.ref v :: rest)) : J X nL w pc lv rest :=
  fun H locs ls hw hS hl => lv_aload_n S.ex S.by hd rfl (hl.at hg) (k H locs ls hw hS hl)
theorem j_aload (S : Fx X Z cc nL Ts own R) {i : Nat} {v : Nat} (hd : decode cc pc = .ok (.aload i, 2)) (hg : lget lv i = some (.ref v)) (k : J X nL w (pc + 2) lv (.ref v :: rest)) : J X nL w pc lv rest :=
  fun H locs ls hw hS hl => lv_aload S.ex S.by hd (hl.at hg) (k H locs ls hw hS hl)
theorem j_istore_n (S : Fx X Z cc nL Ts own R) {i : Fin 4} {v : Int32} (lv' : List (Option Value)) (hd : decode cc pc = .ok (.istore_n i, 1)) (hn : i.val < nL) (hok : lok lv i.val = true) (hl' : lset lv i.val (some (.int v)) = lv') (k : J X nL w (pc + 1) lv' rest) : J X nL w pc lv (.int v :: rest) := by
  subst hl'
  exact fun H locs ls hw hS hl => lv_istore_n S.ex S.by hd rfl hl hn rfl (fun ls' hl' => k H locs ls' hw hS (lvF.st1 hok hl'))
theorem j_istore (S : Fx X Z cc nL Ts own R) {i : Nat} {v : Int32} (lv' : List (Option Value)) (hd : decode cc pc = .ok (.istore i, 2)) (hn : i < nL) (hok : lok lv i = true) (hl' : lset lv i (some (.int v)) = lv') (k : J X nL w (pc + 2) lv' rest) : J X nL w pc lv (.int v :: rest) := by
  subst hl'
  exact fun H locs ls hw hS hl => lv_istore S.ex S.by hd hl hn rfl (fun ls' hl' => k H locs ls' hw hS (lvF.st1 hok hl'))
theorem j_astore_n (S : Fx X Z cc nL Ts own R) {i : Fin 4} {v : Nat} (lv' : List (Option Value)) (hd : decode cc pc = .ok (.astore_n i, 1)) (hn : i.val < nL) (hok : lok lv i.val = true) (hl' : lset lv i.val (some (.ref v)) = lv') (k : J X nL w (pc + 1) lv' rest) : J X nL w pc lv (.ref v :: rest) := by
  subst hl'
  exact fun H locs ls hw hS hl => lv_astore_n S.ex S.by hd rfl hl hn rfl (fun ls' hl' => k H locs ls' hw hS (lvF.st1 hok hl'))
theorem j_astore (S : Fx X Z cc nL Ts own R) {i : Nat} {v : Nat} (lv' : List (Option Value)) (hd : decode cc pc = .ok (.astore i, 2)) (hn : i < nL) (hok : lok lv i = true) (hl' : lset lv i (some (.ref v)) = lv') (k : J X nL w (pc + 2) lv' rest) : J X nL w pc lv (.ref v :: rest) := by
  subst hl'
  exact fun H locs ls hw hS hl => lv_astore S.ex S.by hd hl hn rfl (fun ls' hl' => k H locs ls' hw hS (lvF.st1 hok hl'))
theorem j_lstore_n (S : Fx X Z cc nL Ts own R) {i : Fin 4} {v : Int64} (lv' : List (Option Value)) (hd : decode cc pc = .ok (.lstore_n i, 1)) (hn : i.val + 1 < nL) (hok : lok lv i.val = true) (hl' : lset (lset lv i.val (some (.long v))) (i.val + 1) none = lv') (k : J X nL w (pc + 1) lv' rest) : J X nL w pc lv (.long v :: rest) := by
  subst hl'
  exact fun H locs ls hw hS hl => lv_lstore_n S.ex S.by hd rfl hl hn rfl (fun ls' hl' => k H locs ls' hw hS (lvF.st2 hok hl'))
theorem j_iinc (S : Fx X Z cc nL Ts own R) {i : Nat} {n : Int} {x : Int32} (v : Int32) (lv' : List (Option Value)) (hd : decode cc pc = .ok (.iinc i n, 3)) (hg : lget lv i = some (.int x)) (hv : x + Int32.ofInt n = v) (hn : i < nL) (hok : lok lv i = true) (hl' : lset lv i (some (.int v)) = lv') (k : J X nL w (pc + 3) lv' rest) : J X nL w pc lv rest := by
  subst hl'
  intro H locs ls hw hS hl
  obtain ⟨q, hq⟩ := List.getElem?_of_mem (lvP_mem (i := 0).mpr ⟨Nat.zero_le _, hg⟩)
  exact lv_iinc S.ex S.by hd hl hq hv hn rfl (fun ls' hl' => k H locs ls' hw hS (lvF.st1 hok hl'))
theorem j_iadd (S : Fx X Z cc nL Ts own R) {x y : Int32} (v : Int32) (hd : decode cc pc = .ok (.iadd, 1)) (hv : x + y = v) (k : J X nL w (pc + 1) lv (.int v :: rest)) : J X nL w pc lv (.int y :: .int x :: rest) := by
  subst hv
  exact fun H locs ls hw hS hl => lv_iadd S.ex S.by hd (k H locs ls hw hS hl)
theorem j_isub (S : Fx X Z cc nL Ts own R) {x y : Int32} (v : Int32) (hd : decode cc pc = .ok (.isub, 1)) (hv : x - y = v) (k : J X nL w (pc + 1) lv (.int v :: rest)) : J X nL w pc lv (.int y :: .int x :: rest) := by
  subst hv
  exact fun H locs ls hw hS hl => lv_isub S.ex S.by hd (k H locs ls hw hS hl)
theorem j_imul (S : Fx X Z cc nL Ts own R) {x y : Int32} (v : Int32) (hd : decode cc pc = .ok (.imul, 1)) (hv : x * y = v) (k : J X nL w (pc + 1) lv (.int v :: rest)) : J X nL w pc lv (.int y :: .int x :: rest) := by
  subst hv
  exact fun H locs ls hw hS hl => lv_imul S.ex S.by hd (k H locs ls hw hS hl)
theorem j_iand (S : Fx X Z cc nL Ts own R) {x y : Int32} (v : Int32) (hd : decode cc pc = .ok (.iand, 1)) (hv : x &&& y = v) (k : J X nL w (pc + 1) lv (.int v :: rest)) : J X nL w pc lv (.int y :: .int x :: rest) := by
  subst hv
  exact fun H locs ls hw hS hl => lv_iand S.ex S.by hd (k H locs ls hw hS hl)
theorem j_ior (S : Fx X Z cc nL Ts own R) {x y : Int32} (v : Int32) (hd : decode cc pc = .ok (.ior, 1)) (hv : x ||| y = v) (k : J X nL w (pc + 1) lv (.int v :: rest)) : J X nL w pc lv (.int y :: .int x :: rest) := by
  subst hv
  exact fun H locs ls hw hS hl => lv_ior S.ex S.by hd (k H locs ls hw hS hl)
theorem j_ixor (S : Fx X Z cc nL Ts own R) {x y : Int32} (v : Int32) (hd : decode cc pc = .ok (.ixor, 1)) (hv : x ^^^ y = v) (k : J X nL w (pc + 1) lv (.int v :: rest)) : J X nL w pc lv (.int y :: .int x :: rest) := by
  subst hv
  exact fun H locs ls hw hS hl => lv_ixor S.ex S.by hd (k H locs ls hw hS hl)
theorem j_ishl (S : Fx X Z cc nL Ts own R) {x y : Int32} (v : Int32) (hd : decode cc pc = .ok (.ishl, 1)) (hv : x <<< (y &&& 31) = v) (k : J X nL w (pc + 1) lv (.int v :: rest)) : J X nL w pc lv (.int y :: .int x :: rest) := by
  subst hv
  exact fun H locs ls hw hS hl => lv_ishl S.ex S.by hd (k H locs ls hw hS hl)
theorem j_ishr (S : Fx X Z cc nL Ts own R) {x y : Int32} (v : Int32) (hd : decode cc pc = .ok (.ishr, 1)) (hv : x >>> (y &&& 31) = v) (k : J X nL w (pc + 1) lv (.int v :: rest)) : J X nL w pc lv (.int y :: .int x :: rest) := by
  subst hv
  exact fun H locs ls hw hS hl => lv_ishr S.ex S.by hd (k H locs ls hw hS hl)
theorem j_iushr (S : Fx X Z cc nL Ts own R) {x y : Int32} (v : Int32) (hd : decode cc pc = .ok (.iushr, 1)) (hv : (x.toUInt32 >>> (y.toUInt32 &&& Int32.toUInt32 31)).toInt32 = v) (k : J X nL w (pc + 1) lv (.int v :: rest)) : J X nL w pc lv (.int y :: .int x :: rest) :=
  fun H locs ls hw hS hl => lv_iushr S.ex S.by hd hv (k H locs ls hw hS hl)
theorem j_irem (S : Fx X Z cc nL Ts own R) {x y : Int32} (v : Int32) (hd : decode cc pc = .ok (.irem, 1)) (hne : ¬ y = 0) (hv : x - x / y * y = v) (k : J X nL w (pc + 1) lv (.int v :: rest)) : J X nL w pc lv (.int y :: .int x :: rest) := by
  subst hv
  exact fun H locs ls hw hS hl => lv_irem S.ex S.by hd hne (k H locs ls hw hS hl)
theorem j_idiv (S : Fx X Z cc nL Ts own R) {x y : Int32} (v : Int32) (hd : decode cc pc = .ok (.idiv, 1)) (hne : ¬ y = 0) (hv : x / y = v) (k : J X nL w (pc + 1) lv (.int v :: rest)) : J X nL w pc lv (.int y :: .int x :: rest) := by
  subst hv
  exact fun H locs ls hw hS hl => lv_idiv S.ex S.by hd hne (k H locs ls hw hS hl)
theorem j_i2l (S : Fx X Z cc nL Ts own R) {x : Int32} (v : Int64) (hd : decode cc pc = .ok (.i2l, 1)) (hv : x.toInt64 = v) (k : J X nL w (pc + 1) lv (.long v :: rest)) : J X nL w pc lv (.int x :: rest) :=
  fun H locs ls hw hS hl => lv_i2l S.ex S.by hd hv (k H locs ls hw hS hl)
theorem j_i2d (S : Fx X Z cc nL Ts own R) {x : Int32} (hd : decode cc pc = .ok (.i2d, 1)) (k : J X nL w (pc + 1) lv (.double (FP.i2d x) :: rest)) : J X nL w pc lv (.int x :: rest) :=
  fun H locs ls hw hS hl => lv_i2d S.ex S.by hd (k H locs ls hw hS hl)
theorem j_ladd (S : Fx X Z cc nL Ts own R) {x y : Int64} (v : Int64) (hd : decode cc pc = .ok (.ladd, 1)) (hv : x + y = v) (k : J X nL w (pc + 1) lv (.long v :: rest)) : J X nL w pc lv (.long y :: .long x :: rest) := by
  subst hv
  exact fun H locs ls hw hS hl => lv_ladd S.ex S.by hd (k H locs ls hw hS hl)
theorem j_lmul (S : Fx X Z cc nL Ts own R) {x y : Int64} (v : Int64) (hd : decode cc pc = .ok (.lmul, 1)) (hv : x * y = v) (k : J X nL w (pc + 1) lv (.long v :: rest)) : J X nL w pc lv (.long y :: .long x :: rest) := by
  subst hv
  exact fun H locs ls hw hS hl => lv_lmul S.ex S.by hd (k H locs ls hw hS hl)
theorem j_lcmp (S : Fx X Z cc nL Ts own R) {x y : Int64} (v : Int32) (hd : decode cc pc = .ok (.lcmp, 1)) (hv : lg_cmp x y = v) (k : J X nL w (pc + 1) lv (.int v :: rest)) : J X nL w pc lv (.long y :: .long x :: rest) := by
  subst hv
  exact fun H locs ls hw hS hl => W.lcmp S.ex S.by hd (k H locs ls hw hS hl)
theorem j_ddiv (S : Fx X Z cc nL Ts own R) {x y : UInt64} (hd : decode cc pc = .ok (.ddiv, 1)) (hne : vf_n64 (FP.ddiv x y)) (k : J X nL w (pc + 1) lv (.double (FP.ddiv x y) :: rest)) : J X nL w pc lv (.double y :: .double x :: rest) :=
  fun H locs ls hw hS hl => lv_ddiv S.ex S.by hd hne (k H locs ls hw hS hl)
theorem j_dmul (S : Fx X Z cc nL Ts own R) {x y : UInt64} (hd : decode cc pc = .ok (.dmul, 1)) (hne : vf_n64 (FP.dmul x y)) (k : J X nL w (pc + 1) lv (.double (FP.dmul x y) :: rest)) : J X nL w pc lv (.double y :: .double x :: rest) :=
  fun H locs ls hw hS hl => lv_dmul S.ex S.by hd hne (k H locs ls hw hS hl)
theorem j_dsub (S : Fx X Z cc nL Ts own R) {x y : UInt64} (hd : decode cc pc = .ok (.dsub, 1)) (hne : vf_n64 (FP.dsub x y)) (k : J X nL w (pc + 1) lv (.double (FP.dsub x y) :: rest)) : J X nL w pc lv (.double y :: .double x :: rest) :=
  fun H locs ls hw hS hl => lv_dsub S.ex S.by hd hne (k H locs ls hw hS hl)
theorem j_dcmp (S : Fx X Z cc nL Ts own R) {x y : UInt64} {op : CmpOp} (v : Int32) (hd : decode cc pc = .ok (.dcmp op, 1)) (hv : Op.cmpValue (FP.dcmp x y) op = v) (k : J X nL w (pc + 1) lv (.int v :: rest)) : J X nL w pc lv (.double y :: .double x :: rest) := by
  subst hv
  exact fun H locs ls hw hS hl => lv_dcmp S.ex S.by hd (k H locs ls hw hS hl)
theorem j_dconst0 (S : Fx X Z cc nL Ts own R) (hd : decode cc pc = .ok (.dconst 0, 1)) (k : J X nL w (pc + 1) lv (.double FP.dconst0 :: rest)) : J X nL w pc lv rest :=
  fun H locs ls hw hS hl => lv_dconst0 S.ex S.by hd (k H locs ls hw hS hl)
theorem j_dup (S : Fx X Z cc nL Ts own R) {v : Value} (hd : decode cc pc = .ok (.dup, 1)) (hc : v.category = 1) (k : J X nL w (pc + 1) lv (v :: v :: rest)) : J X nL w pc lv (v :: rest) :=
  fun H locs ls hw hS hl => lv_dup S.ex S.by hd hc (k H locs ls hw hS hl)
theorem j_dup2 (S : Fx X Z cc nL Ts own R) {v u : Value} (hd : decode cc pc = .ok (.dup2, 1)) (hc : v.category = 1) (hc2 : u.category = 1) (k : J X nL w (pc + 1) lv (v :: u :: v :: u :: rest)) : J X nL w pc lv (v :: u :: rest) :=
  fun H locs ls hw hS hl => lv_dup2_11 S.ex S.by hd hc hc2 (k H locs ls hw hS hl)
theorem j_pop (S : Fx X Z cc nL Ts own R) {v : Value} (hd : decode cc pc = .ok (.pop, 1)) (hc : v.category = 1) (k : J X nL w (pc + 1) lv rest) : J X nL w pc lv (v :: rest) :=
  fun H locs ls hw hS hl => lv_pop S.ex S.by hd hc (k H locs ls hw hS hl)
theorem j_goto (S : Fx X Z cc nL Ts own R) {off : Int} (tgt : Nat) (hd : decode cc pc = .ok (.goto off, 3)) (ht : (pc : Int) + off = (tgt : Int)) (k : J X nL w tgt lv rest) : J X nL w pc lv rest :=
  fun H locs ls hw hS hl => lv_goto S.ex S.by hd ht (k H locs ls hw hS hl)
theorem j_table (S : Fx X Z cc nL Ts own R) {dflt lo hi : Int} {offs : Array Int} {len : Nat} {x : Int32} {off : Int} (tgt : Nat) (hd : decode cc pc = .ok (.tableswitch dflt lo hi offs, len)) (h1 : ¬ x.toInt < lo) (h2 : ¬ hi < x.toInt) (ho : offs[(x.toInt - lo).toNat]? = some off) (ht : (pc : Int) + off = (tgt : Int)) (k : J X nL w tgt lv rest) : J X nL w pc lv (.int x :: rest) :=
  fun H locs ls hw hS hl => lv_tableIn S.ex S.by hd h1 h2 ho ht (k H locs ls hw hS hl)
theorem j_tableOut (S : Fx X Z cc nL Ts own R) {dflt lo hi : Int} {offs : Array Int} {len : Nat} {x : Int32} (tgt : Nat) (hd : decode cc pc = .ok (.tableswitch dflt lo hi offs, len)) (h : x.toInt < lo ∨ hi < x.toInt) (ht : (pc : Int) + dflt = (tgt : Int)) (k : J X nL w tgt lv rest) : J X nL w pc lv (.int x :: rest) :=
  fun H locs ls hw hS hl => lv_tableOut S.ex S.by hd h ht (k H locs ls hw hS hl)
theorem j_lookup (S : Fx X Z cc nL Ts own R) {dflt : Int} {ps : Array (Int × Int)} {len : Nat} {x : Int32} {off : Int} (tgt : Nat) (hd : decode cc pc = .ok (.lookupswitch dflt ps, len)) (hp : (ps.toList.zip (ps.toList.drop 1)).all (fun (a, next) => a.1 < next.1) = true) (ho : Op.lookupswitch.offset ps.toList dflt x.toInt = off) (ht : (pc : Int) + off = (tgt : Int)) (k : J X nL w tgt lv rest) : J X nL w pc lv (.int x :: rest) :=
  fun H locs ls hw hS hl => lv_lookup S.ex S.by hd hp ho ht (k H locs ls hw hS hl)
theorem j_if_eq (S : Fx X Z cc nL Ts own R) {x : Int32} {off : Int} (tgt : Nat) (hd : decode cc pc = .ok (.ifCond .eq off, 3)) (ht : (pc : Int) + off = (tgt : Int)) (kt : x = 0 → J X nL w tgt lv rest) (kf : ¬ x = 0 → J X nL w (pc + 3) lv rest) : J X nL w pc lv (.int x :: rest) :=
  fun H locs ls hw hS hl => lv_if_eq S.ex S.by hd ht (fun h => kt h H locs ls hw hS hl) (fun h => kf h H locs ls hw hS hl)
theorem j_icmp_eq (S : Fx X Z cc nL Ts own R) {x y : Int32} {off : Int} (tgt : Nat) (hd : decode cc pc = .ok (.if_icmp .eq off, 3)) (ht : (pc : Int) + off = (tgt : Int)) (kt : x = y → J X nL w tgt lv rest) (kf : ¬ x = y → J X nL w (pc + 3) lv rest) : J X nL w pc lv (.int y :: .int x :: rest) :=
  fun H locs ls hw hS hl => lv_icmp_eq S.ex S.by hd ht (fun h => kt h H locs ls hw hS hl) (fun h => kf h H locs ls hw hS hl)
theorem j_if_ne (S : Fx X Z cc nL Ts own R) {x : Int32} {off : Int} (tgt : Nat) (hd : decode cc pc = .ok (.ifCond .ne off, 3)) (ht : (pc : Int) + off = (tgt : Int)) (kt : ¬ x = 0 → J X nL w tgt lv rest) (kf : x = 0 → J X nL w (pc + 3) lv rest) : J X nL w pc lv (.int x :: rest) :=
  fun H locs ls hw hS hl => lv_if_ne S.ex S.by hd ht (fun h => kt h H locs ls hw hS hl) (fun h => kf h H locs ls hw hS hl)
theorem j_icmp_ne (S : Fx X Z cc nL Ts own R) {x y : Int32} {off : Int} (tgt : Nat) (hd : decode cc pc = .ok (.if_icmp .ne off, 3)) (ht : (pc : Int) + off = (tgt : Int)) (kt : ¬ x = y → J X nL w tgt lv rest) (kf : x = y → J X nL w (pc + 3) lv rest) : J X nL w pc lv (.int y :: .int x :: rest) :=
  fun H locs ls hw hS hl => lv_icmp_ne S.ex S.by hd ht (fun h => kt h H locs ls hw hS hl) (fun h => kf h H locs ls hw hS hl)
theorem j_if_lt (S : Fx X Z cc nL Ts own R) {x : Int32} {off : Int} (tgt : Nat) (hd : decode cc pc = .ok (.ifCond .lt off, 3)) (ht : (pc : Int) + off = (tgt : Int)) (kt : x < 0 → J X nL w tgt lv rest) (kf : ¬ x < 0 → J X nL w (pc + 3) lv rest) : J X nL w pc lv (.int x :: rest) :=
  fun H locs ls hw hS hl => lv_if_lt S.ex S.by hd ht (fun h => kt h H locs ls hw hS hl) (fun h => kf h H locs ls hw hS hl)
theorem j_icmp_lt (S : Fx X Z cc nL Ts own R) {x y : Int32} {off : Int} (tgt : Nat) (hd : decode cc pc = .ok (.if_icmp .lt off, 3)) (ht : (pc : Int) + off = (tgt : Int)) (kt : x < y → J X nL w tgt lv rest) (kf : ¬ x < y → J X nL w (pc + 3) lv rest) : J X nL w pc lv (.int y :: .int x :: rest) :=
  fun H locs ls hw hS hl => lv_icmp_lt S.ex S.by hd ht (fun h => kt h H locs ls hw hS hl) (fun h => kf h H locs ls hw hS hl)
theorem j_if_ge (S : Fx X Z cc nL Ts own R) {x : Int32} {off : Int} (tgt : Nat) (hd : decode cc pc = .ok (.ifCond .ge off, 3)) (ht : (pc : Int) + off = (tgt : Int)) (kt : 0 ≤ x → J X nL w tgt lv rest) (kf : ¬ 0 ≤ x → J X nL w (pc + 3) lv rest) : J X nL w pc lv (.int x :: rest) :=
  fun H locs ls hw hS hl => lv_if_ge S.ex S.by hd ht (fun h => kt h H locs ls hw hS hl) (fun h => kf h H locs ls hw hS hl)
theorem j_icmp_ge (S : Fx X Z cc nL Ts own R) {x y : Int32} {off : Int} (tgt : Nat) (hd : decode cc pc = .ok (.if_icmp .ge off, 3)) (ht : (pc : Int) + off = (tgt : Int)) (kt : y ≤ x → J X nL w tgt lv rest) (kf : ¬ y ≤ x → J X nL w (pc + 3) lv rest) : J X nL w pc lv (.int y :: .int x :: rest) :=
  fun H locs ls hw hS hl => lv_icmp_ge S.ex S.by hd ht (fun h => kt h H locs ls hw hS hl) (fun h => kf h H locs ls hw hS hl)
theorem j_if_gt (S : Fx X Z cc nL Ts own R) {x : Int32} {off : Int} (tgt : Nat) (hd : decode cc pc = .ok (.ifCond .gt off, 3)) (ht : (pc : Int) + off = (tgt : Int)) (kt : 0 < x → J X nL w tgt lv rest) (kf : ¬ 0 < x → J X nL w (pc + 3) lv rest) : J X nL w pc lv (.int x :: rest) :=
  fun H locs ls hw hS hl => lv_if_gt S.ex S.by hd ht (fun h => kt h H locs ls hw hS hl) (fun h => kf h H locs ls hw hS hl)
theorem j_icmp_gt (S : Fx X Z cc nL Ts own R) {x y : Int32} {off : Int} (tgt : Nat) (hd : decode cc pc = .ok (.if_icmp .gt off, 3)) (ht : (pc : Int) + off = (tgt : Int)) (kt : y < x → J X nL w tgt lv rest) (kf : ¬ y < x → J X nL w (pc + 3) lv rest) : J X nL w pc lv (.int y :: .int x :: rest) :=
  fun H locs ls hw hS hl => lv_icmp_gt S.ex S.by hd ht (fun h => kt h H locs ls hw hS hl) (fun h => kf h H locs ls hw hS hl)
theorem j_if_le (S : Fx X Z cc nL Ts own R) {x : Int32} {off : Int} (tgt : Nat) (hd : decode cc pc = .ok (.ifCond .le off, 3)) (ht : (pc : Int) + off = (tgt : Int)) (kt : x ≤ 0 → J X nL w tgt lv rest) (kf : ¬ x ≤ 0 → J X nL w (pc + 3) lv rest) : J X nL w pc lv (.int x :: rest) :=
  fun H locs ls hw hS hl => lv_if_le S.ex S.by hd ht (fun h => kt h H locs ls hw hS hl) (fun h => kf h H locs ls hw hS hl)
theorem j_icmp_le (S : Fx X Z cc nL Ts own R) {x y : Int32} {off : Int} (tgt : Nat) (hd : decode cc pc = .ok (.if_icmp .le off, 3)) (ht : (pc : Int) + off = (tgt : Int)) (kt : x ≤ y → J X nL w tgt lv rest) (kf : ¬ x ≤ y → J X nL w (pc + 3) lv rest) : J X nL w pc lv (.int y :: .int x :: rest) :=
  fun H locs ls hw hS hl => lv_icmp_le S.ex S.by hd ht (fun h => kt h H locs ls hw hS hl) (fun h => kf h H locs ls hw hS hl)
end JI
/-! ## contracts by pictures -/
/-- the cells' addresses are apart, and may change -/
def AdOk (Z : Zx) (A : Nat → Prop) : Prop := (∀ i j : Nat, i < 76 → j < 76 → Z.ad i = Z.ad j → i = j) ∧ ∀ k : Nat, k < 76 → A (Z.ad k)
abbrev Pw (Z : Zx) (w : Heap → Prop) (av : List Value) : Array Value → State → Prop := va_Pc av (fun U => w U.heap ∧ va_K Z.D vwCl (tysOf Z) U ∧ NW U)
abbrev Qi (w' : Heap → Prop) (A : Nat → Prop) (post : Int32 → Prop) : Array Value → State → Outcome → State → Prop := va_Qi (fun (r : Int32) (_ : Unit) => post r) (fun _ t => w' t.heap) A
abbrev Ql (w' : Heap → Prop) (A : Nat → Prop) (post : Int64 → Prop) : Array Value → State → Outcome → State → Prop := va_Ql (fun (r : Int64) (_ : Unit) => post r) (fun _ t => w' t.heap) A
abbrev Qd (w' : Heap → Prop) (A : Nat → Prop) (post : UInt64 → Prop) : Array Value → State → Outcome → State → Prop := va_Qd (fun (r : UInt64) (_ : Unit) => post r) (fun _ t => w' t.heap) A
abbrev Qv (w' : Heap → Prop) (A : Nat → Prop) : Array Value → State → Outcome → State → Prop := va_Qv (fun (_ : Unit) => True) (fun _ t => w' t.heap) A
abbrev Qr (w' : Heap → Prop) (A : Nat → Prop) (a0 : Nat) : Array Value → State → Outcome → State → Prop := va_Qr (fun (_ : Unit) => True) (fun _ a t => a = a0 ∧ w' t.heap) A
abbrev Km (l : Launch) (Z : Zx) (A : Nat → Prop) (y : MethodName) (ws : List Cond) (rm : Room) (w : Heap → Prop) (av : List Value) (Qc : Array Value → State → Outcome → State → Prop) : Prop := Met l y ws rm (Pw Z w av) Qc 0 0 A
theorem Pw.blind {Z : Zx} {w : Heap → Prop} {av : List Value} : FrameBlind (Pw Z w av) := fun a U g mk q => ⟨q.1, q.2.1, va_K.moved (u := U) (U := U.calling g mk a) (Vm.Alike.refl U.vm) q.2.2.1, NW.same (u := U) (U := U.calling g mk a) rfl q.2.2.2⟩
/-- the locals at a method's start -/
def lvA : List Value → List (Option Value)
  | [] => []
  | v :: t => if v.category = 2 then some v :: none :: lvA t else some v :: lvA t
def lvI (n : Nat) (av : List Value) : List (Option Value) := lvA av ++ List.replicate (n - (lvA av).length) none
theorem lvP_none : ∀ (k i : Nat), lvP i (List.replicate k none) = []
  | 0, _ => rfl
  | k + 1, i => by rw [List.replicate_succ]; exact lvP_none k (i + 1)
theorem lvA_args (k : Nat) : ∀ (av : List Value) (i : Nat), lvP i (lvA av ++ List.replicate k none) = lv_args i av
  | [], i => by rw [lvA, List.nil_append]; exact lvP_none k i
  | v :: t, i => by
    rw [lvA, lv_args]
    by_cases h : v.category = 2
    · rw [if_pos h, if_pos h]
      exact congrArg (fun z => (i, v) :: z) (lvA_args k t (i + 2))
    · rw [if_neg h, if_neg h]
      exact congrArg (fun z => (i, v) :: z) (lvA_args k t (i + 1))
theorem lvI_entry (av : List Value) {n : Nat} (h : (lg_sl av).length ≤ n) : lvF ((lg_sl av ++ List.replicate (n - (lg_sl av).length) Slot.unset).toArray) n (lvI n av) := by
  have h1 := lv_entry av h
  unfold lvF lvI
  rw [lvA_args]
  exact h1
/-- a contract out of a walk -/
theorem Km.of {l : Launch} {Z : Zx} {A : Nat → Prop} {y : MethodName} {ws ws' : List Cond} {rm : Room} {w : Heap → Prop} {av : List Value} {Qc : Array Value → State → Outcome → State → Prop} {cc : ByteArray} {maxL : Nat} {ret : Option FieldType}
    (hy : plainName y.cls = true) (hw : ws = Cond.code y cc maxL ret :: ws') (hL : (lg_sl av).length ≤ maxL) (hA : AdOk Z A)
    (body : ∀ X : Cx, X.l = l → Fx X Z cc maxL ws y.cls rm → AdOk Z X.A → X.meth.sig.returnType = ret → X.A = A → X.Q = MQ X.below Qc X.args X.s 0 0 A → X.k = 0 → X.n = 0 → J X maxL w 0 (lvI maxL av) []) : Km l Z A y ws rm w av Qc := by
  refine Met.ofW (cc := cc) (maxL := maxL) (ret := ret) hy hw ?_
  intro p e s m args below meth c s₁ B hml hv
  obtain ⟨rfl, hw0, hK, hNW⟩ := hv
  have hts := atoms_spec (ws := ws) B.pre
  have hown : s.vm.findClass y.cls = some m.cls := findClass_of_methodNamed B.named
  have hk := body (p, l, e, rm, s, m, av.toArray, below, meth, c, A, 0, 0, MQ below Qc av.toArray s 0 0 A) rfl
    ⟨⟨B.exec, B.bytes, hml, hown, hts⟩, hK, rfl, Nat.zero_le _, Nat.zero_le _, B.notSynchronized, hNW⟩ hA B.returns rfl rfl rfl rfl
  rw [lg_entry_eq]
  exact hk s.heap [] _ hw0 va_S.rf (lvI_entry av hL)
section JC
variable {X : Cx} {Z : Zx} {cc : ByteArray} {nL : Nat} {Ts : List Cond} {own : String} {R : Room} {w w' : Heap → Prop} {pc : Nat} {lv : List (Option Value)} {rest st : List Value}
theorem j_ireturn (S : Fx X Z cc nL Ts own R) {A : Nat → Prop} {post : Int32 → Prop} {v : Int32} {ty : FieldType} (hr : X.meth.sig.returnType = some ty) (hA : X.A = A) (hQ : X.Q = MQ X.below (Qi w' A post) X.args X.s 0 0 A) (hk : X.k = 0) (hn : X.n = 0) (hd : decode cc pc = .ok (.ireturn, 1)) (hna : narrow ty (.int v) = .int v) (hq : post v) (hh : ∀ H, w H → w' H) : J X nL w pc lv [.int v] := by
  intro H locs ls hw hS hl
  rw [hQ, hk, hn]
  subst hA
  exact W.zret S.ex S.by hr hna (fun t ht _ => ⟨⟨v, (), rfl, hq, by show w' t.heap; rw [ht]; exact hh H hw⟩, hS.F ht⟩) hS.2.2 hd S.lk
theorem j_lreturn (S : Fx X Z cc nL Ts own R) {A : Nat → Prop} {post : Int64 → Prop} {v : Int64} (hr : X.meth.sig.returnType = some .long) (hA : X.A = A) (hQ : X.Q = MQ X.below (Ql w' A post) X.args X.s 0 0 A) (hk : X.k = 0) (hn : X.n = 0) (hd : decode cc pc = .ok (.lreturn, 1)) (hq : post v) (hh : ∀ H, w H → w' H) : J X nL w pc lv [.long v] := by
  intro H locs ls hw hS hl
  rw [hQ, hk, hn]
  subst hA
  exact W.lret S.ex S.by hr (fun t ht _ => ⟨⟨v, (), rfl, hq, by show w' t.heap; rw [ht]; exact hh H hw⟩, hS.F ht⟩) hS.2.2 hd S.lk
theorem j_dreturn (S : Fx X Z cc nL Ts own R) {A : Nat → Prop} {post : UInt64 → Prop} {v : UInt64} (hr : X.meth.sig.returnType = some .double) (hA : X.A = A) (hQ : X.Q = MQ X.below (Qd w' A post) X.args X.s 0 0 A) (hk : X.k = 0) (hn : X.n = 0) (hd : decode cc pc = .ok (.dreturn, 1)) (hq : post v) (hh : ∀ H, w H → w' H) : J X nL w pc lv [.double v] := by
  intro H locs ls hw hS hl
  rw [hQ, hk, hn]
  subst hA
  exact W.dret S.ex S.by hr (fun t ht _ => ⟨⟨v, (), rfl, hq, by show w' t.heap; rw [ht]; exact hh H hw⟩, hS.F ht⟩) hS.2.2 hd S.lk
theorem j_return (S : Fx X Z cc nL Ts own R) {A : Nat → Prop} (hr : X.meth.sig.returnType = none) (hA : X.A = A) (hQ : X.Q = MQ X.below (Qv w' A) X.args X.s 0 0 A) (hk : X.k = 0) (hn : X.n = 0) (hd : decode cc pc = .ok (.return_, 1)) (hh : ∀ H, w H → w' H) : J X nL w pc lv [] := by
  intro H locs ls hw hS hl
  rw [hQ, hk, hn]
  subst hA
  exact W.vret S.ex S.by hr (fun t ht _ => ⟨⟨(), rfl, trivial, by show w' t.heap; rw [ht]; exact hh H hw⟩, hS.F ht⟩) hS.2.2 hd S.lk
theorem j_areturn (S : Fx X Z cc nL Ts own R) {A : Nat → Prop} {v : Nat} {cn : String} (hr : X.meth.sig.returnType = some (.object cn)) (hA : X.A = A) (hQ : X.Q = MQ X.below (Qr w' A v) X.args X.s 0 0 A) (hk : X.k = 0) (hn : X.n = 0) (hd : decode cc pc = .ok (.areturn, 1)) (hh : ∀ H, w H → w' H) : J X nL w pc lv [.ref v] := by
  intro H locs ls hw hS hl
  rw [hQ, hk, hn]
  subst hA
  exact W.aret S.ex S.by hr (Or.inl ⟨_, rfl⟩) (Or.inr ⟨v, rfl⟩) (fun t ht _ => ⟨⟨(), v, rfl, trivial, rfl, by show w' t.heap; rw [ht]; exact hh H hw⟩, hS.F ht⟩) hS.2.2 hd S.lk
/-- a field is read -/
theorem j_get (S : Fx X Z cc nL Ts own R) {a ci index N : Nat} {fs : List Value} {C ref : String} {T : u_T} {v : Value} (hin : ∀ q ∈ u_ws C T N, q ∈ Ts) (hg : ∀ H, w H → va_P Z.D vwCl [(a, .inr (ci, fs))] H) (hc : vwCl[ci]? = some (C, T, N)) (k : Nat) (hk : k < N) (hlink : Cond.fieldLink own index ref (T k).2.1 (T k).2.2.1 ∈ Ts) (hsame : (T k).1 = ref) (hv : fs[k]? = some v) (hd : decode cc pc = .ok (.getfield index, 3)) (kk : J X nL w (pc + 3) lv (v :: rest)) : J X nL w pc lv (.ref a :: rest) := by
  intro H locs ls hw hS hl
  refine va_get S.ex S.by S.ts hin S.ow S.K (hg H hw) 0 rfl hc k hk (S.ts _ hlink) (fun x h => ?_) hv hd (kk H locs ls hw hS hl)
  rw [← hsame]
  exact h
/-- a nest mate's field is read -/
theorem j_getN (S : Fx X Z cc nL Ts own R) {a ci index N : Nat} {fs : List Value} {C ref host : String} {T : u_T} {v : Value} (hin : ∀ q ∈ u_ws C T N, q ∈ Ts) (hg : ∀ H, w H → va_P Z.D vwCl [(a, .inr (ci, fs))] H) (hc : vwCl[ci]? = some (C, T, N)) (k : Nat) (hk : k < N) (q0 : Nat) (hlink : nF[q0]? = some (own, index, ref, (T k).2.1, (T k).2.2.1, host)) (hsame : (T k).1 = ref) (hv : fs[k]? = some v) (hd : decode cc pc = .ok (.getfield index, 3)) (kk : J X nL w (pc + 3) lv (v :: rest)) : J X nL w pc lv (.ref a :: rest) := by
  intro H locs ls hw hS hl
  refine va_getN S.ex S.by S.ts hin S.ow S.K (hg H hw) 0 rfl hc k hk (va_Nw.use rfl (S.nw.1 _ (List.mem_of_getElem? hlink))) (fun x h => ?_) hv hd (kk H locs ls hw hS hl)
  rw [← hsame]
  exact h
/-- a field is written: the picture's list of cells -/
theorem j_put (S : Fx X Z cc nL Ts own R) {a ci index N q0 : Nat} {fs : List Value} {C ref : String} {T : u_T} {v : Value} {ty : FieldType} {W0 : va_W} (ty0 : Nat → FieldType) (hty : ∀ k, k < N → parseFieldDescriptor (T k).2.2.1 = some (ty0 k)) (hnm : ∀ a, a < N → ∀ b, b < N → a ≠ b → (T a).2.1 ≠ (T b).2.1) (hin : ∀ q ∈ u_ws C T N, q ∈ Ts) (hD : va_D X.A W0) (hg : ∀ H, w H → va_P Z.D vwCl W0 H) (he : W0[q0]? = some (a, .inr (ci, fs))) (hc : vwCl[ci]? = some (C, T, N)) (k : Nat) (hk : k < N) (hlink : Cond.fieldLink own index ref (T k).2.1 (T k).2.2.1 ∈ Ts) (hsame : (T k).1 = ref) (hfin : (T k).2.2.2 = false) (hdt : parseFieldDescriptor (T k).2.2.1 = some ty) (hn : narrow ty v = v) (hfit : fits ty v = true) (hl0 : k < fs.length) (hd : decode cc pc = .ok (.putfield index, 3)) (hw' : ∀ H, va_P Z.D vwCl (W0.set q0 (a, .inr (ci, fs.set k v))) H → w' H) (kk : J X nL w' (pc + 3) lv rest) : J X nL w pc lv (v :: .ref a :: rest) := by
  intro H locs ls hw hS hl
  refine va_put S.ex S.by S.ts hin ty0 hty hnm S.ow S.K (hg H hw) hD hS q0 he hc k hk (S.ts _ hlink) (fun x h => ?_) hfin hdt hn hfit hl0 hd (fun H1 locs1 hP1 _ hS1 => kk H1 locs1 ls (hw' H1 hP1) hS1 hl)
  rw [← hsame]
  exact h
theorem j_alen (S : Fx X Z cc nL Ts own R) {a t0 : Nat} {cA : ClassId} {x : vp_A} {ty : FieldType} {v : Int32} (hg : ∀ H, w H → va_P Z.D vwCl [(a, .inl (cA, x))] H) (ht : (tysOf Z)[t0]? = some (cA, ty)) (hv : Int32.ofNat x.1 = v) (hd : decode cc pc = .ok (.arraylength, 1)) (kk : J X nL w (pc + 1) lv (.int v :: rest)) : J X nL w pc lv (.ref a :: rest) :=
  fun H locs ls hw hS hl => va_alen S.ex S.by S.K (hg H hw) 0 t0 rfl ht hv hd (kk H locs ls hw hS hl)
theorem j_iaload (S : Fx X Z cc nL Ts own R) {a n : Nat} {f : Nat → Int32} {i v : Int32} (hg : ∀ H, w H → va_P Z.D vwCl [(a, .inl (Z.cI, n, .inl f))] H) (hin : vp_in i n) (hv : f i.toNatClampNeg = v) (hd : decode cc pc = .ok (.iaload, 1)) (kk : J X nL w (pc + 1) lv (.int v :: rest)) : J X nL w pc lv (.int i :: .ref a :: rest) := by
  subst hv
  exact fun H locs ls hw hS hl => va_iald S.ex S.by S.K (hg H hw) 0 0 rfl rfl hin hd (kk H locs ls hw hS hl)
theorem j_aaload (S : Fx X Z cc nL Ts own R) {a n v : Nat} {f : Nat → Option Nat} {i : Int32} (hg : ∀ H, w H → va_P Z.D vwCl [(a, .inl (Z.cP, n, .inr (.inr (.inr (.inr f)))))] H) (hin : vp_in i n) (hv : f i.toNatClampNeg = some v) (hd : decode cc pc = .ok (.aaload, 1)) (kk : J X nL w (pc + 1) lv (.ref v :: rest)) : J X nL w pc lv (.int i :: .ref a :: rest) := by
  intro H locs ls hw hS hl
  refine va_aldq S.ex S.by S.K (hg H hw) 0 1 rfl rfl hin hd ?_
  rw [hv]
  exact kk H locs ls hw hS hl
theorem j_iastore (S : Fx X Z cc nL Ts own R) {a n q0 : Nat} {f : Nat → Int32} {i x : Int32} {W0 : va_W} (hD : va_D X.A W0) (hg : ∀ H, w H → va_P Z.D vwCl W0 H) (he : W0[q0]? = some (a, .inl (Z.cI, n, .inl f))) (hin : vp_in i n) (hd : decode cc pc = .ok (.iastore, 1)) (hw' : ∀ H, va_P Z.D vwCl (W0.set q0 (a, .inl (Z.cI, n, .inl (upd f i.toNatClampNeg x)))) H → w' H) (kk : J X nL w' (pc + 1) lv rest) : J X nL w pc lv (.int x :: .int i :: .ref a :: rest) :=
  fun H locs ls hw hS hl => va_iast S.ex S.by S.K (hg H hw) hD hS q0 0 he rfl hin hd (fun H1 locs1 hP1 _ hS1 => kk H1 locs1 ls (hw' H1 hP1) hS1 hl)
theorem j_max (S : Fx X Z cc nL Ts own R) {index : Nat} {x y : Int32} (v : Int32) (h1 : Cond.methodLink own index Lib.Math.max.name ∈ Ts) (h2 : Cond.static Lib.Math.max.name ∈ Ts) (h3 : Cond.initialized "java/lang/Math" ∈ Ts) (h4 : Cond.code Lib.Math.max.name Lib.Math.max.code 2 (some .int) ∈ Ts) (hR : 1 ≤ R.frames ∧ (rest.map fun v => v.category).sum + 13 ≤ R.locals) (hd : decode cc pc = .ok (.invokestatic index, 3)) (hv : (if x < y then y else x) = v) (kk : J X nL w (pc + 3) lv (.int v :: rest)) : J X nL w pc lv (.int y :: .int x :: rest) := by
  subst hv
  intro H locs ls hw hS hl
  refine va_mmax S.ex S.by (by rw [S.ml]; exact hl.1.symm) S.ow (S.ts _ h1) (S.ts _ h2) (S.ts _ h3) (S.ts _ h4) (by rw [S.rm]; exact hR.1) (by rw [S.rm]; exact hR.2) (by rw [S.rm]; exact S.2.2.2.1) (by rw [S.rm]; exact S.2.2.2.2.1) hd (kk H locs ls hw hS hl)
theorem j_min (S : Fx X Z cc nL Ts own R) {index : Nat} {x y : Int32} (v : Int32) (h1 : Cond.methodLink own index Lib.Math.min.name ∈ Ts) (h2 : Cond.static Lib.Math.min.name ∈ Ts) (h3 : Cond.initialized "java/lang/Math" ∈ Ts) (h4 : Cond.code Lib.Math.min.name Lib.Math.min.code 2 (some .int) ∈ Ts) (hR : 1 ≤ R.frames ∧ (rest.map fun v => v.category).sum + 13 ≤ R.locals) (hd : decode cc pc = .ok (.invokestatic index, 3)) (hv : (if y < x then y else x) = v) (kk : J X nL w (pc + 3) lv (.int v :: rest)) : J X nL w pc lv (.int y :: .int x :: rest) := by
  subst hv
  intro H locs ls hw hS hl
  refine va_mmin S.ex S.by (by rw [S.ml]; exact hl.1.symm) S.ow (S.ts _ h1) (S.ts _ h2) (S.ts _ h3) (S.ts _ h4) (by rw [S.rm]; exact hR.1) (by rw [S.rm]; exact hR.2) (by rw [S.rm]; exact S.2.2.2.1) (by rw [S.rm]; exact S.2.2.2.2.1) hd (kk H locs ls hw hS hl)
/-- what a call asks of the callee's name, words and room -/
abbrev Cw (Ts : List Cond) (own C : String) (R : Room) (index : Nat) (y : MethodName) (ws : List Cond) (rm : Room) (n : Nat) : Prop :=
  ∃ (bytes : ByteArray) (maxL : Nat) (ret : Option FieldType) (ws' : List Cond), ws = Cond.code y bytes maxL ret :: ws' ∧ GoodIn Ts (wsV own index C y ws) ∧ rm.cells = 0 ∧ rm.slots = 0 ∧ (y.cls = C ∧ y.cls ≠ "java/lang/invoke/MethodHandle" ∧ y.cls ≠ "java/lang/invoke/VarHandle" ∧ (parseMethodDescriptor y.desc).map (fun d => d.parameters.length) = some n) ∧ (rm.frames + 1 ≤ R.frames ∧ 8 + (maxL + 11) + rm.locals ≤ R.locals)
abbrev Cs (Ts : List Cond) (own : String) (R : Room) (index : Nat) (y : MethodName) (ws : List Cond) (rm : Room) (n : Nat) : Prop :=
  ∃ (bytes : ByteArray) (maxL : Nat) (ret : Option FieldType) (ws' : List Cond), ws = Cond.code y bytes maxL ret :: ws' ∧ GoodIn Ts (va_wsS own index y ws) ∧ rm.cells = 0 ∧ rm.slots = 0 ∧ (y.cls ≠ "java/lang/invoke/MethodHandle" ∧ y.cls ≠ "java/lang/invoke/VarHandle" ∧ (parseMethodDescriptor y.desc).map (fun d => d.parameters.length) = some n) ∧ (rm.frames + 1 ≤ R.frames ∧ 8 + (maxL + 11) + rm.locals ≤ R.locals)
theorem runV_of (S : Fx X Z cc nL Ts own R) {y : MethodName} {ws : List Cond} {rm : Room} {b ci index n N : Nat} {As fs : List Value} {C : String} {T : u_T} {Qc : Array Value → State → Outcome → State → Prop} (hM : Km X.l Z X.A y ws rm w (.ref b :: As) Qc) (cw : Cw Ts own C R index y ws rm n) (hrc : ∀ H, w H → va_P Z.D vwCl [(b, .inr (ci, fs))] H) (hc : vwCl[ci]? = some (C, T, N)) (hn : As.length = n) (hcat : (rest.map fun v => v.category).sum ≤ 8) (hd : decode cc pc = .ok (.invokevirtual index, 3)) {H : Heap} {locs : List Loc} {ls : Array Slot} (hw : w H) (hl : lvF ls nL lv) :
    va_Run X.p X.l X.e X.R X.s X.m X.args X.below X.meth X.c H locs X.k X.n 0 0 (F0 X.m pc ls (As.reverse ++ .ref b :: rest)) rest (Qc (Value.ref b :: As).toArray) X.A := by
  obtain ⟨bytes, maxL, ret, ws', e1, hG, h0, h1, hy, hR⟩ := cw
  have hrv := va_recv S.K (hrc H hw) hc (q0 := 0) rfl
  refine va_runV (As := As) (rest := rest) S.1 hM (cwV (bytes := bytes) (maxL := maxL) (ret := ret) n S.ts hG e1 h0 h1 hy (by rw [S.rm]; exact hR)) ⟨Pw.blind, hrv, fun U hU hW => ⟨rfl, by rw [hU]; exact hw, va_K.moved hW.alike S.K, NW.warm hW S.nw⟩⟩ rfl hn hl.1 rfl (lv_room hcat) hd ⟨by rw [S.rm]; exact S.2.2.2.1, by rw [S.rm]; exact S.2.2.2.2.1⟩
theorem runS_of (S : Fx X Z cc nL Ts own R) {y : MethodName} {ws : List Cond} {rm : Room} {index n : Nat} {As : List Value} {Qc : Array Value → State → Outcome → State → Prop} (hM : Km X.l Z X.A y ws rm w As Qc) (cw : Cs Ts own R index y ws rm n) (hn : As.length = n) (hcat : (rest.map fun v => v.category).sum ≤ 8) (hd : decode cc pc = .ok (.invokestatic index, 3)) {H : Heap} {locs : List Loc} {ls : Array Slot} (hw : w H) (hl : lvF ls nL lv) :
    va_Run X.p X.l X.e X.R X.s X.m X.args X.below X.meth X.c H locs X.k X.n 0 0 (F0 X.m pc ls (As.reverse ++ rest)) rest (Qc As.toArray) X.A := by
  obtain ⟨bytes, maxL, ret, ws', e1, hG, h0, h1, hy, hR⟩ := cw
  refine va_runS (As := As) (rest := rest) S.1 hM (va_cwS (bytes := bytes) (maxL := maxL) (ret := ret) n S.ts hG e1 h0 h1 hy (by rw [S.rm]; exact hR)) ⟨Pw.blind, fun U hU hW => ⟨rfl, by rw [hU]; exact hw, va_K.moved hW.alike S.K, NW.warm hW S.nw⟩⟩ rfl hn hl.1 rfl (lv_room hcat) hd ⟨by rw [S.rm]; exact S.2.2.2.1, by rw [S.rm]; exact S.2.2.2.2.1⟩
theorem j_cVi (S : Fx X Z cc nL Ts own R) {y : MethodName} {ws : List Cond} {rm : Room} {b ci index n N : Nat} {As fs : List Value} {C : String} {T : u_T} {post : Int32 → Prop} (hM : Km X.l Z X.A y ws rm w (.ref b :: As) (Qi w' X.A post)) (cw : Cw Ts own C R index y ws rm n) (hrc : ∀ H, w H → va_P Z.D vwCl [(b, .inr (ci, fs))] H) (hc : vwCl[ci]? = some (C, T, N)) (hn : As.length = n) (hcat : (rest.map fun v => v.category).sum ≤ 8) (hst : As.reverse ++ .ref b :: rest = st) (hd : decode cc pc = .ok (.invokevirtual index, 3)) (kk : ∀ r : Int32, post r → J X nL w' (pc + 3) lv (.int r :: rest)) : J X nL w pc lv st := by
  subst hst
  intro H locs ls hw hS hl
  exact va_calli (runV_of S hM cw hrc hc hn hcat hd hw hl) hS (fun q _ h => h) (fun q h => h) (fun r _ t H1 locs1 ht hvm hp hb hz hk hS1 => kk r hp H1 locs1 ls (by rw [← ht]; exact hb) hS1 hl)
theorem j_cVl (S : Fx X Z cc nL Ts own R) {y : MethodName} {ws : List Cond} {rm : Room} {b ci index n N : Nat} {As fs : List Value} {C : String} {T : u_T} {post : Int64 → Prop} (hM : Km X.l Z X.A y ws rm w (.ref b :: As) (Ql w' X.A post)) (cw : Cw Ts own C R index y ws rm n) (hrc : ∀ H, w H → va_P Z.D vwCl [(b, .inr (ci, fs))] H) (hc : vwCl[ci]? = some (C, T, N)) (hn : As.length = n) (hcat : (rest.map fun v => v.category).sum ≤ 8) (hst : As.reverse ++ .ref b :: rest = st) (hd : decode cc pc = .ok (.invokevirtual index, 3)) (kk : ∀ r : Int64, post r → J X nL w' (pc + 3) lv (.long r :: rest)) : J X nL w pc lv st := by
  subst hst
  intro H locs ls hw hS hl
  exact va_calll (runV_of S hM cw hrc hc hn hcat hd hw hl) hS (fun q _ h => h) (fun q h => h) (fun r _ t H1 locs1 ht hvm hp hb hz hk hS1 => kk r hp H1 locs1 ls (by rw [← ht]; exact hb) hS1 hl)
theorem j_cVd (S : Fx X Z cc nL Ts own R) {y : MethodName} {ws : List Cond} {rm : Room} {b ci index n N : Nat} {As fs : List Value} {C : String} {T : u_T} {post : UInt64 → Prop} (hM : Km X.l Z X.A y ws rm w (.ref b :: As) (Qd w' X.A post)) (cw : Cw Ts own C R index y ws rm n) (hrc : ∀ H, w H → va_P Z.D vwCl [(b, .inr (ci, fs))] H) (hc : vwCl[ci]? = some (C, T, N)) (hn : As.length = n) (hcat : (rest.map fun v => v.category).sum ≤ 8) (hst : As.reverse ++ .ref b :: rest = st) (hd : decode cc pc = .ok (.invokevirtual index, 3)) (kk : ∀ r : UInt64, post r → J X nL w' (pc + 3) lv (.double r :: rest)) : J X nL w pc lv st := by
  subst hst
  intro H locs ls hw hS hl
  exact va_calld (runV_of S hM cw hrc hc hn hcat hd hw hl) hS (fun q _ h => h) (fun q h => h) (fun r _ t H1 locs1 ht hvm hp hb hz hk hS1 => kk r hp H1 locs1 ls (by rw [← ht]; exact hb) hS1 hl)
theorem j_cVv (S : Fx X Z cc nL Ts own R) {y : MethodName} {ws : List Cond} {rm : Room} {b ci index n N : Nat} {As fs : List Value} {C : String} {T : u_T}  (hM : Km X.l Z X.A y ws rm w (.ref b :: As) (Qv w' X.A)) (cw : Cw Ts own C R index y ws rm n) (hrc : ∀ H, w H → va_P Z.D vwCl [(b, .inr (ci, fs))] H) (hc : vwCl[ci]? = some (C, T, N)) (hn : As.length = n) (hcat : (rest.map fun v => v.category).sum ≤ 8) (hst : As.reverse ++ .ref b :: rest = st) (hd : decode cc pc = .ok (.invokevirtual index, 3)) (kk : J X nL w' (pc + 3) lv rest) : J X nL w pc lv st := by
  subst hst
  intro H locs ls hw hS hl
  exact va_callv (runV_of S hM cw hrc hc hn hcat hd hw hl) hS (fun q _ h => h) (fun q h => h) (fun _ t H1 locs1 ht hvm hp hb hz hk hS1 => kk H1 locs1 ls (by rw [← ht]; exact hb) hS1 hl)
theorem j_cVr (S : Fx X Z cc nL Ts own R) {y : MethodName} {ws : List Cond} {rm : Room} {b ci index n N : Nat} {As fs : List Value} {C : String} {T : u_T} {a0 : Nat} (hM : Km X.l Z X.A y ws rm w (.ref b :: As) (Qr w' X.A a0)) (cw : Cw Ts own C R index y ws rm n) (hrc : ∀ H, w H → va_P Z.D vwCl [(b, .inr (ci, fs))] H) (hc : vwCl[ci]? = some (C, T, N)) (hn : As.length = n) (hcat : (rest.map fun v => v.category).sum ≤ 8) (hst : As.reverse ++ .ref b :: rest = st) (hd : decode cc pc = .ok (.invokevirtual index, 3)) (kk : J X nL w' (pc + 3) lv (.ref a0 :: rest)) : J X nL w pc lv st := by
  subst hst
  intro H locs ls hw hS hl
  exact va_callr (runV_of S hM cw hrc hc hn hcat hd hw hl) hS (fun q _ h => h) (fun q h => h) (fun _ a t H1 locs1 ht hvm hp hb hz hk hS1 => by
    obtain ⟨rfl, hb⟩ := hb
    exact kk H1 locs1 ls (by rw [← ht]; exact hb) hS1 hl)
theorem j_cSi (S : Fx X Z cc nL Ts own R) {y : MethodName} {ws : List Cond} {rm : Room} {index n : Nat} {As : List Value} {post : Int32 → Prop} (hM : Km X.l Z X.A y ws rm w As (Qi w' X.A post)) (cw : Cs Ts own R index y ws rm n) (hn : As.length = n) (hcat : (rest.map fun v => v.category).sum ≤ 8) (hst : As.reverse ++ rest = st) (hd : decode cc pc = .ok (.invokestatic index, 3)) (kk : ∀ r : Int32, post r → J X nL w' (pc + 3) lv (.int r :: rest)) : J X nL w pc lv st := by
  subst hst
  intro H locs ls hw hS hl
  exact va_calli (runS_of S hM cw hn hcat hd hw hl) hS (fun q _ h => h) (fun q h => h) (fun r _ t H1 locs1 ht hvm hp hb hz hk hS1 => kk r hp H1 locs1 ls (by rw [← ht]; exact hb) hS1 hl)
theorem j_cSl (S : Fx X Z cc nL Ts own R) {y : MethodName} {ws : List Cond} {rm : Room} {index n : Nat} {As : List Value} {post : Int64 → Prop} (hM : Km X.l Z X.A y ws rm w As (Ql w' X.A post)) (cw : Cs Ts own R index y ws rm n) (hn : As.length = n) (hcat : (rest.map fun v => v.category).sum ≤ 8) (hst : As.reverse ++ rest = st) (hd : decode cc pc = .ok (.invokestatic index, 3)) (kk : ∀ r : Int64, post r → J X nL w' (pc + 3) lv (.long r :: rest)) : J X nL w pc lv st := by
  subst hst
  intro H locs ls hw hS hl
  exact va_calll (runS_of S hM cw hn hcat hd hw hl) hS (fun q _ h => h) (fun q h => h) (fun r _ t H1 locs1 ht hvm hp hb hz hk hS1 => kk r hp H1 locs1 ls (by rw [← ht]; exact hb) hS1 hl)
theorem j_cSd (S : Fx X Z cc nL Ts own R) {y : MethodName} {ws : List Cond} {rm : Room} {index n : Nat} {As : List Value} {post : UInt64 → Prop} (hM : Km X.l Z X.A y ws rm w As (Qd w' X.A post)) (cw : Cs Ts own R index y ws rm n) (hn : As.length = n) (hcat : (rest.map fun v => v.category).sum ≤ 8) (hst : As.reverse ++ rest = st) (hd : decode cc pc = .ok (.invokestatic index, 3)) (kk : ∀ r : UInt64, post r → J X nL w' (pc + 3) lv (.double r :: rest)) : J X nL w pc lv st := by
  subst hst
  intro H locs ls hw hS hl
  exact va_calld (runS_of S hM cw hn hcat hd hw hl) hS (fun q _ h => h) (fun q h => h) (fun r _ t H1 locs1 ht hvm hp hb hz hk hS1 => kk r hp H1 locs1 ls (by rw [← ht]; exact hb) hS1 hl)
theorem j_cSv (S : Fx X Z cc nL Ts own R) {y : MethodName} {ws : List Cond} {rm : Room} {index n : Nat} {As : List Value}  (hM : Km X.l Z X.A y ws rm w As (Qv w' X.A)) (cw : Cs Ts own R index y ws rm n) (hn : As.length = n) (hcat : (rest.map fun v => v.category).sum ≤ 8) (hst : As.reverse ++ rest = st) (hd : decode cc pc = .ok (.invokestatic index, 3)) (kk : J X nL w' (pc + 3) lv rest) : J X nL w pc lv st := by
  subst hst
  intro H locs ls hw hS hl
  exact va_callv (runS_of S hM cw hn hcat hd hw hl) hS (fun q _ h => h) (fun q h => h) (fun _ t H1 locs1 ht hvm hp hb hz hk hS1 => kk H1 locs1 ls (by rw [← ht]; exact hb) hS1 hl)
theorem j_cSr (S : Fx X Z cc nL Ts own R) {y : MethodName} {ws : List Cond} {rm : Room} {index n : Nat} {As : List Value} {a0 : Nat} (hM : Km X.l Z X.A y ws rm w As (Qr w' X.A a0)) (cw : Cs Ts own R index y ws rm n) (hn : As.length = n) (hcat : (rest.map fun v => v.category).sum ≤ 8) (hst : As.reverse ++ rest = st) (hd : decode cc pc = .ok (.invokestatic index, 3)) (kk : J X nL w' (pc + 3) lv (.ref a0 :: rest)) : J X nL w pc lv st := by
  subst hst
  intro H locs ls hw hS hl
  exact va_callr (runS_of S hM cw hn hcat hd hw hl) hS (fun q _ h => h) (fun q h => h) (fun _ a t H1 locs1 ht hvm hp hb hz hk hS1 => by
    obtain ⟨rfl, hb⟩ := hb
    exact kk H1 locs1 ls (by rw [← ht]; exact hb) hS1 hl)
/-- what a call of a nest mate's static method asks -/
abbrev Cn (Ts : List Cond) (own : String) (R : Room) (index : Nat) (y : MethodName) (ws : List Cond) (rm : Room) (n : Nat) : Prop :=
  ∃ (bytes : ByteArray) (maxL : Nat) (ret : Option FieldType) (ws' : List Cond) (host : String) (q0 : Nat), ws = Cond.code y bytes maxL ret :: ws' ∧ GoodIn Ts ws ∧ rm.cells = 0 ∧ rm.slots = 0 ∧ (nM[q0]? = some (own, index, y, host) ∧ Cond.static y ∈ Ts ∧ Cond.initialized y.cls ∈ Ts) ∧ (y.cls ≠ "java/lang/invoke/MethodHandle" ∧ y.cls ≠ "java/lang/invoke/VarHandle" ∧ (parseMethodDescriptor y.desc).map (fun d => d.parameters.length) = some n) ∧ (rm.frames + 1 ≤ R.frames ∧ 8 + (maxL + 11) + rm.locals ≤ R.locals)
theorem runN_of (S : Fx X Z cc nL Ts own R) {y : MethodName} {ws : List Cond} {rm : Room} {index n : Nat} {As : List Value} {Qc : Array Value → State → Outcome → State → Prop} (hM : Km X.l Z X.A y ws rm w As Qc) (cw : Cn Ts own R index y ws rm n) (hn : As.length = n) (hcat : (rest.map fun v => v.category).sum ≤ 8) (hd : decode cc pc = .ok (.invokestatic index, 3)) {H : Heap} {locs : List Loc} {ls : Array Slot} (hw : w H) (hl : lvF ls nL lv) :
    va_Run X.p X.l X.e X.R X.s X.m X.args X.below X.meth X.c H locs X.k X.n 0 0 (F0 X.m pc ls (As.reverse ++ rest)) rest (Qc As.toArray) X.A := by
  obtain ⟨bytes, maxL, ret, ws', host, q0, e1, hG, h0, h1, ⟨hm, hst, hini⟩, hy, hR⟩ := cw
  refine va_runSN (As := As) (rest := rest) S.1 hM ⟨va_cnB (bytes := bytes) (maxL := maxL) (ret := ret) n S.ts hG e1 h0 h1 (S.nw.2 _ (List.mem_of_getElem? hm)) (S.ts _ hini) hy (by rw [S.rm]; exact hR), S.ts _ hst, trivial⟩ ⟨Pw.blind, fun U hU hW => ⟨rfl, by rw [hU]; exact hw, va_K.moved hW.alike S.K, NW.warm hW S.nw⟩⟩ rfl hn hl.1 rfl (lv_room hcat) hd ⟨by rw [S.rm]; exact S.2.2.2.1, by rw [S.rm]; exact S.2.2.2.2.1⟩
theorem j_cNi (S : Fx X Z cc nL Ts own R) {y : MethodName} {ws : List Cond} {rm : Room} {index n : Nat} {As : List Value} {post : Int32 → Prop} (hM : Km X.l Z X.A y ws rm w As (Qi w' X.A post)) (cw : Cn Ts own R index y ws rm n) (hn : As.length = n) (hcat : (rest.map fun v => v.category).sum ≤ 8) (hst : As.reverse ++ rest = st) (hd : decode cc pc = .ok (.invokestatic index, 3)) (kk : ∀ r : Int32, post r → J X nL w' (pc + 3) lv (.int r :: rest)) : J X nL w pc lv st := by
  subst hst
  intro H locs ls hw hS hl
  exact va_calli (runN_of S hM cw hn hcat hd hw hl) hS (fun q _ h => h) (fun q h => h) (fun r _ t H1 locs1 ht hvm hp hb hz hk hS1 => kk r hp H1 locs1 ls (by rw [← ht]; exact hb) hS1 hl)
end JC
end
section
/-! THE SYSTEM'S CELLS AS ONE PICTURE: 76 cells at fixed addresses; raw contents; what they mean (lists) -/
def up {α : Type} (f : Nat → α) (k : Nat) (v : α) : Nat → α := fun j => if j = k then v else f j
theorem up_self {α : Type} (f : Nat → α) (k : Nat) (v : α) : up f k v k = v := if_pos rfl
theorem up_ne {α : Type} {f : Nat → α} {k j : Nat} {v : α} (h : j ≠ k) : up f k v j = f j := if_neg h
/-- rows (size, contents), programs (fault, its place), the compiler's two numbers -/
abbrev Raw : Type := (Nat → Int32 × (Nat → Int32)) × (Nat → Int32 × Int32) × Int32 × Int32
abbrev St : Type := (Nat → List Int32) × (Nat → Int32 × Int32) × Int32 × Int32
def St.row (σ : St) (r : Nat) : List Int32 := σ.1 r
def St.fa (σ : St) (i : Nat) : Int32 := (σ.2.1 i).1
def St.fp (σ : St) (i : Nat) : Int32 := (σ.2.1 i).2
def St.gs (σ : St) : Int32 := σ.2.2.1
def St.is (σ : St) : Int32 := σ.2.2.2
def St.setRow (σ : St) (r : Nat) (l : List Int32) : St := (up σ.1 r l, σ.2)
def St.setFa (σ : St) (i : Nat) (v : Int32) : St := (σ.1, up σ.2.1 i (v, (σ.2.1 i).2), σ.2.2)
def St.setFp (σ : St) (i : Nat) (v : Int32) : St := (σ.1, up σ.2.1 i ((σ.2.1 i).1, v), σ.2.2)
def St.setGs (σ : St) (v : Int32) : St := (σ.1, σ.2.1, v, σ.2.2.2)
def St.setIs (σ : St) (v : Int32) : St := (σ.1, σ.2.1, σ.2.2.1, v)
def cap (r : Nat) : Nat := if r < 2 then 8 else if r < 6 then 32 else if r = 6 then 1312 else if r = 7 then 41 else if r % 2 = 0 then 40 else 32
theorem cap_le (r : Nat) : cap r ≤ 1312 := by unfold cap; (repeat' split) <;> omega
theorem cap_pos (r : Nat) : 8 ≤ cap r := by unfold cap; (repeat' split) <;> omega
def ro (r : Nat) : Nat := 16 + 2 * r
def rc (r : Nat) : Nat := 17 + 2 * r
def po (i : Nat) : Nat := 5 + i
def co (t : Nat) : Nat := 3 + t
def cell (Z : Zx) (ρ : Raw) (k : Nat) : va_E :=
  if k = 0 then .inr (4, [.ref (Z.ad 1), .ref (Z.ad 2), .ref (Z.ad (ro 0)), .ref (Z.ad (co 0)), .ref (Z.ad (po 10)), .ref (Z.ad (ro 1)), .ref (Z.ad (co 1))])
  else if k = 1 then .inl (Z.cP, 10, .inr (.inr (.inr (.inr (fun i => some (Z.ad (po i)))))))
  else if k = 2 then .inr (1, [.ref (Z.ad (ro 6)), .ref (Z.ad (ro 7)), .int ρ.2.2.1, .int ρ.2.2.2])
  else if k < 5 then .inr (0, [.ref (Z.ad (ro (2 + 2 * (k - 3)))), .ref (Z.ad (ro (3 + 2 * (k - 3))))])
  else if k < 16 then .inr (2, [.ref (Z.ad (ro (8 + 2 * (k - 5)))), .ref (Z.ad (ro (9 + 2 * (k - 5)))), .int (ρ.2.1 (k - 5)).1, .int (ρ.2.1 (k - 5)).2])
  else if k % 2 = 0 then .inr (3, [.ref (Z.ad (k + 1)), .int (ρ.1 ((k - 16) / 2)).1])
  else .inl (Z.cI, cap ((k - 16) / 2), .inl (ρ.1 ((k - 16) / 2)).2)
theorem cell_loom (Z : Zx) (ρ : Raw) : cell Z ρ 0 = .inr (4, [.ref (Z.ad 1), .ref (Z.ad 2), .ref (Z.ad (ro 0)), .ref (Z.ad (co 0)), .ref (Z.ad (po 10)), .ref (Z.ad (ro 1)), .ref (Z.ad (co 1))]) := rfl
theorem cell_progs (Z : Zx) (ρ : Raw) : cell Z ρ 1 = .inl (Z.cP, 10, .inr (.inr (.inr (.inr (fun i => some (Z.ad (po i))))))) := rfl
theorem cell_comp (Z : Zx) (ρ : Raw) : cell Z ρ 2 = .inr (1, [.ref (Z.ad (ro 6)), .ref (Z.ad (ro 7)), .int ρ.2.2.1, .int ρ.2.2.2]) := rfl
theorem cell_cloth (Z : Zx) (ρ : Raw) {t : Nat} (h : t < 2) : cell Z ρ (co t) = .inr (0, [.ref (Z.ad (ro (2 + 2 * t))), .ref (Z.ad (ro (3 + 2 * t)))]) := by
  unfold cell co
  rw [if_neg (by omega), if_neg (by omega), if_neg (by omega), if_pos (by omega), show 3 + t - 3 = t by omega]
theorem cell_prog (Z : Zx) (ρ : Raw) {i : Nat} (h : i < 11) : cell Z ρ (po i) = .inr (2, [.ref (Z.ad (ro (8 + 2 * i))), .ref (Z.ad (ro (9 + 2 * i))), .int (ρ.2.1 i).1, .int (ρ.2.1 i).2]) := by
  unfold cell po
  rw [if_neg (by omega), if_neg (by omega), if_neg (by omega), if_neg (by omega), if_pos (by omega), show 5 + i - 5 = i by omega]
theorem cell_row (Z : Zx) (ρ : Raw) (r : Nat) : cell Z ρ (ro r) = .inr (3, [.ref (Z.ad (rc r)), .int (ρ.1 r).1]) := by
  unfold cell ro rc
  rw [if_neg (by omega), if_neg (by omega), if_neg (by omega), if_neg (by omega), if_neg (by omega), if_pos (by omega), show (16 + 2 * r - 16) / 2 = r by omega, show 16 + 2 * r + 1 = 17 + 2 * r by omega]
theorem cell_arr (Z : Zx) (ρ : Raw) (r : Nat) : cell Z ρ (rc r) = .inl (Z.cI, cap r, .inl (ρ.1 r).2) := by
  unfold cell rc
  rw [if_neg (by omega), if_neg (by omega), if_neg (by omega), if_neg (by omega), if_neg (by omega), if_neg (by omega), show (17 + 2 * r - 16) / 2 = r by omega]
def wl (Z : Zx) (ρ : Raw) : va_W := (List.range 76).map (fun k => (Z.ad k, cell Z ρ k))
theorem wl_get (Z : Zx) (ρ : Raw) {k : Nat} (h : k < 76) : (wl Z ρ)[k]? = some (Z.ad k, cell Z ρ k) := by
  unfold wl
  rw [List.getElem?_map, List.getElem?_range h]
  rfl
theorem wl_out {Z : Zx} {ρ : Raw} {k : Nat} {q : Nat × va_E} (h : (wl Z ρ)[k]? = some q) : k < 76 ∧ q = (Z.ad k, cell Z ρ k) := by
  have hl := (List.getElem?_eq_some_iff.mp h).1
  have hk : k < 76 := by unfold wl at hl; simpa using hl
  rw [wl_get Z ρ hk] at h
  exact ⟨hk, (Option.some.inj h).symm⟩
theorem wl_set {Z : Zx} {ρ ρ' : Raw} {k : Nat} {e : va_E} (hk : k < 76) (he : cell Z ρ' k = e) (ho : ∀ j, j < 76 → j ≠ k → cell Z ρ' j = cell Z ρ j) : (wl Z ρ).set k (Z.ad k, e) = wl Z ρ' := by
  apply List.ext_getElem?
  intro j
  by_cases hj : j < 76
  · rw [wl_get Z ρ' hj]
    by_cases hjk : j = k
    · subst hjk
      rw [List.getElem?_set_self (by unfold wl; simpa using hj), he]
    · rw [List.getElem?_set_ne (Ne.symm hjk), wl_get Z ρ hj, ho j hj hjk]
  · rw [List.getElem?_eq_none (by unfold wl; simp; omega), List.getElem?_eq_none (by unfold wl; simp; omega)]
theorem wl_D {Z : Zx} {ρ : Raw} {A : Nat → Prop} (h : AdOk Z A) : va_D A (wl Z ρ) := by
  refine ⟨fun i j p q hi hj hpq => ?_, fun k q hk => ?_⟩
  · obtain ⟨h1, rfl⟩ := wl_out hi
    obtain ⟨h2, rfl⟩ := wl_out hj
    exact h.1 i j h1 h2 hpq
  · obtain ⟨h1, rfl⟩ := wl_out hk
    exact h.2 k h1
/-- the raw picture -/
def WR (Z : Zx) (ρ : Raw) (H : Heap) : Prop := va_P Z.D vwCl (wl Z ρ) H
theorem WR.one {Z : Zx} {ρ : Raw} {H : Heap} (h : WR Z ρ H) {k : Nat} (hk : k < 76) {e : va_E} (he : cell Z ρ k = e) : va_P Z.D vwCl [(Z.ad k, e)] H := by
  subst he
  exact va_P.sub h [k] (by simp [wl_get Z ρ hk])
def Rep (ρ : Raw) (σ : St) : Prop := (∀ r : Nat, r < 30 → (σ.row r).length ≤ cap r ∧ (ρ.1 r).1 = nI (σ.row r).length ∧ ∀ j : Nat, j < (σ.row r).length → (ρ.1 r).2 j = (σ.row r).getD j 0) ∧ ρ.2 = σ.2
/-- the picture -/
def Wd (Z : Zx) (σ : St) (H : Heap) : Prop := ∃ ρ : Raw, Rep ρ σ ∧ WR Z ρ H
theorem Wd.cap {Z : Zx} {σ : St} {H : Heap} (h : Wd Z σ H) {r : Nat} (hr : r < 30) : (σ.row r).length ≤ cap r := by
  obtain ⟨ρ, h1, -⟩ := h
  exact (h1.1 r hr).1
theorem rd_loom {Z : Zx} {σ : St} (H : Heap) (h : Wd Z σ H) : va_P Z.D vwCl [(Z.ad 0, .inr (4, [.ref (Z.ad 1), .ref (Z.ad 2), .ref (Z.ad (ro 0)), .ref (Z.ad (co 0)), .ref (Z.ad (po 10)), .ref (Z.ad (ro 1)), .ref (Z.ad (co 1))]))] H := by
  obtain ⟨ρ, -, h⟩ := h
  exact h.one (by omega) (cell_loom Z ρ)
theorem rd_progs {Z : Zx} {σ : St} (H : Heap) (h : Wd Z σ H) : va_P Z.D vwCl [(Z.ad 1, .inl (Z.cP, 10, .inr (.inr (.inr (.inr (fun i => some (Z.ad (po i))))))))] H := by
  obtain ⟨ρ, -, h⟩ := h
  exact h.one (by omega) (cell_progs Z ρ)
theorem rd_comp {Z : Zx} {σ : St} (H : Heap) (h : Wd Z σ H) : va_P Z.D vwCl [(Z.ad 2, .inr (1, [.ref (Z.ad (ro 6)), .ref (Z.ad (ro 7)), .int σ.gs, .int σ.is]))] H := by
  obtain ⟨ρ, h1, h⟩ := h
  have e := cell_comp Z ρ
  rw [h1.2] at e
  exact h.one (by omega) e
theorem rd_cloth {Z : Zx} {σ : St} {t : Nat} (ht : t < 2) (H : Heap) (h : Wd Z σ H) : va_P Z.D vwCl [(Z.ad (co t), .inr (0, [.ref (Z.ad (ro (2 + 2 * t))), .ref (Z.ad (ro (3 + 2 * t)))]))] H := by
  obtain ⟨ρ, -, h⟩ := h
  exact h.one (by unfold co; omega) (cell_cloth Z ρ ht)
theorem rd_prog {Z : Zx} {σ : St} {i : Nat} (hi : i < 11) (H : Heap) (h : Wd Z σ H) : va_P Z.D vwCl [(Z.ad (po i), .inr (2, [.ref (Z.ad (ro (8 + 2 * i))), .ref (Z.ad (ro (9 + 2 * i))), .int (σ.fa i), .int (σ.fp i)]))] H := by
  obtain ⟨ρ, h1, h⟩ := h
  have e := cell_prog Z ρ hi
  rw [h1.2] at e
  exact h.one (by unfold po; omega) e
theorem rd_row {Z : Zx} {σ : St} {r : Nat} (hr : r < 30) (H : Heap) (h : Wd Z σ H) : va_P Z.D vwCl [(Z.ad (ro r), .inr (3, [.ref (Z.ad (rc r)), .int (nI (σ.row r).length)]))] H := by
  obtain ⟨ρ, h1, h⟩ := h
  have e := cell_row Z ρ r
  rw [(h1.1 r hr).2.1] at e
  exact h.one (by unfold ro; omega) e
theorem rr_row {Z : Zx} {ρ : Raw} {r : Nat} (hr : r < 30) (H : Heap) (h : WR Z ρ H) : va_P Z.D vwCl [(Z.ad (ro r), .inr (3, [.ref (Z.ad (rc r)), .int (ρ.1 r).1]))] H :=
  h.one (by unfold ro; omega) (cell_row Z ρ r)
theorem rr_arr {Z : Zx} {ρ : Raw} {r : Nat} (hr : r < 30) (H : Heap) (h : WR Z ρ H) : va_P Z.D vwCl [(Z.ad (rc r), .inl (Z.cI, cap r, .inl (ρ.1 r).2))] H :=
  h.one (by unfold rc; omega) (cell_arr Z ρ r)
/-! ## raw changes -/
def Raw.setSize (ρ : Raw) (r : Nat) (v : Int32) : Raw := (up ρ.1 r (v, (ρ.1 r).2), ρ.2)
def Raw.setAt (ρ : Raw) (r : Nat) (f : Nat → Int32) : Raw := (up ρ.1 r ((ρ.1 r).1, f), ρ.2)
def Raw.setP (ρ : Raw) (i : Nat) (v : Int32 × Int32) : Raw := (ρ.1, up ρ.2.1 i v, ρ.2.2)
def Raw.setC (ρ : Raw) (v : Int32 × Int32) : Raw := (ρ.1, ρ.2.1, v)
theorem cell_apart {Z : Zx} {ρ : Raw} {r j : Nat} (hj : j < 76) (h1 : j ≠ ro r) (h2 : j ≠ rc r) (q : Int32 × (Nat → Int32)) : cell Z (up ρ.1 r q, ρ.2) j = cell Z ρ j := by
  unfold ro at h1; unfold rc at h2
  unfold cell
  dsimp only
  by_cases c : j < 16
  · simp only [show ∀ a b : va_E, (if j < 16 then a else b) = a from fun a b => if_pos c]
  · rw [up_ne (show (j - 16) / 2 ≠ r by omega)]
theorem wl_size {Z : Zx} {ρ : Raw} {r : Nat} (hr : r < 30) (v : Int32) : (wl Z ρ).set (ro r) (Z.ad (ro r), .inr (3, [.ref (Z.ad (rc r)), .int v])) = wl Z (ρ.setSize r v) := by
  refine wl_set (by unfold ro; omega) ?_ (fun j hj hne => ?_)
  · rw [cell_row, Raw.setSize]; dsimp only; rw [up_self]
  · by_cases h : j = rc r
    · subst h
      rw [cell_arr, cell_arr, Raw.setSize]; dsimp only; rw [up_self]
    · exact cell_apart hj hne h _
theorem wl_cells {Z : Zx} {ρ : Raw} {r : Nat} (hr : r < 30) (f : Nat → Int32) : (wl Z ρ).set (rc r) (Z.ad (rc r), .inl (Z.cI, cap r, .inl f)) = wl Z (ρ.setAt r f) := by
  refine wl_set (by unfold rc; omega) ?_ (fun j hj hne => ?_)
  · rw [cell_arr, Raw.setAt]; dsimp only; rw [up_self]
  · by_cases h : j = ro r
    · subst h
      rw [cell_row, cell_row, Raw.setAt]; dsimp only; rw [up_self]
    · exact cell_apart hj h hne _
theorem wl_prog {Z : Zx} {ρ : Raw} {i : Nat} (hi : i < 11) (v : Int32 × Int32) : (wl Z ρ).set (po i) (Z.ad (po i), .inr (2, [.ref (Z.ad (ro (8 + 2 * i))), .ref (Z.ad (ro (9 + 2 * i))), .int v.1, .int v.2])) = wl Z (ρ.setP i v) := by
  refine wl_set (by unfold po; omega) ?_ (fun j hj hne => ?_)
  · rw [cell_prog Z _ hi, Raw.setP]; dsimp only; rw [up_self]
  · unfold po at hne
    unfold cell Raw.setP
    dsimp only
    by_cases c : j - 5 = i
    · have : j < 5 := by omega
      simp only [show ∀ a b : va_E, (if j < 5 then a else b) = a from fun a b => if_pos this]
    · rw [up_ne c]
theorem wl_comp {Z : Zx} {ρ : Raw} (v : Int32 × Int32) : (wl Z ρ).set 2 (Z.ad 2, .inr (1, [.ref (Z.ad (ro 6)), .ref (Z.ad (ro 7)), .int v.1, .int v.2])) = wl Z (ρ.setC v) := by
  refine wl_set (by omega) rfl (fun j hj hne => ?_)
  unfold cell Raw.setC
  dsimp only
  by_cases c : j = 2
  · exact absurd c hne
  · simp only [if_neg c]
end
section
/-! WHAT A ROW's METHODS ANSWER, as lists -/
theorem J.raw {X : Cx} {Z : Zx} {nL pc : Nat} {σ : St} {lv : List (Option Value)} {st : List Value} (k : ∀ ρ : Raw, Rep ρ σ → J X nL (WR Z ρ) pc lv st) : J X nL (Wd Z σ) pc lv st := fun H locs ls hw hS hl => by
  obtain ⟨ρ, h1, h2⟩ := hw
  exact k ρ h1 H locs ls h2 hS hl
/-- what the lengths are at most, at hand in a walk -/
theorem J.caps {X : Cx} {Z : Zx} {nL pc : Nat} {σ : St} {lv : List (Option Value)} {st : List Value} (k : (∀ r : Nat, r < 30 → (σ.row r).length ≤ cap r) → J X nL (Wd Z σ) pc lv st) : J X nL (Wd Z σ) pc lv st := fun H locs ls hw hS hl => k (fun _ hr => hw.cap hr) H locs ls hw hS hl
/-- the places that one list of locals names, the other names too -/
def lle : List (Option Value) → List (Option Value) → Prop
  | [], _ => True
  | none :: t, [] => lle t []
  | none :: t, _ :: u => lle t u
  | some v :: t, some u :: q => v = u ∧ lle t q
  | some _ :: _, none :: _ => False
  | some _ :: _, [] => False
theorem lle_get : ∀ {a b : List (Option Value)}, lle a b → ∀ (i : Nat) (v : Value), lget a i = some v → lget b i = some v
  | [], _, _, i, v, h => by cases i <;> cases h
  | none :: t, [], hl, 0, v, h => by cases h
  | none :: t, [], hl, i + 1, v, h => by
    have h1 := lle_get (a := t) (b := []) hl i v h
    cases i <;> cases h1
  | none :: t, _ :: u, hl, 0, v, h => by cases h
  | none :: t, _ :: u, hl, i + 1, v, h => lle_get (a := t) (b := u) hl i v h
  | some w :: t, some u :: q, hl, 0, v, h => by
    obtain ⟨rfl, -⟩ := hl
    exact h
  | some w :: t, some u :: q, hl, i + 1, v, h => lle_get (a := t) (b := q) hl.2 i v h
  | some w :: t, none :: q, hl, _, _, _ => hl.elim
  | some w :: t, [], hl, _, _, _ => hl.elim
theorem J.less {X : Cx} {nL pc : Nat} {w : Heap → Prop} {lv : List (Option Value)} {st : List Value} (lv' : List (Option Value)) (h : lle lv' lv) (k : J X nL w pc lv' st) : J X nL w pc lv st := J.fewer (lle_get h) k
def atI (l : List Int32) (i : Int32) : Int32 := if i < 0 then 0 else l.getD i.toNatClampNeg 0
def putI (l : List Int32) (i v : Int32) : List Int32 := if i < 0 then l else l.set i.toNatClampNeg v
def addI (c : Nat) (l : List Int32) (v : Int32) : List Int32 := if l.length < c then l ++ [v] else l
def cutI (l : List Int32) (n : Int32) : List Int32 := if n < 0 then [] else l.take n.toNatClampNeg
theorem getD_out {l : List Int32} {i : Nat} (h : l.length ≤ i) : l.getD i 0 = 0 := by
  rw [List.getD_eq_getElem?_getD, List.getElem?_eq_none h]
  rfl
theorem nI_neg {n : Nat} (h : n < 2 ^ 31) : ¬ nI n < 0 := nI_pos h
theorem atI_neg {l : List Int32} {i : Int32} (h : i < 0) : atI l i = 0 := if_pos h
theorem atI_nI (l : List Int32) {j : Nat} (h : j < 2 ^ 31) : atI l (nI j) = l.getD j 0 := by
  unfold atI
  rw [if_neg (nI_pos h), nI_clamp h]
theorem atI_out {l : List Int32} {i : Int32} (hl : l.length < 2 ^ 31) (h : nI l.length ≤ i) : atI l i = 0 := by
  by_cases h0 : i < 0
  · exact atI_neg h0
  · obtain ⟨j, hj, rfl⟩ := nI_of h0
    rw [atI_nI l hj]
    rw [nI_leI hl hj] at h
    exact getD_out h
theorem putI_neg {l : List Int32} {i v : Int32} (h : i < 0) : putI l i v = l := if_pos h
theorem putI_nI (l : List Int32) (v : Int32) {j : Nat} (h : j < 2 ^ 31) : putI l (nI j) v = l.set j v := by
  unfold putI
  rw [if_neg (nI_pos h), nI_clamp h]
theorem putI_out {l : List Int32} {i v : Int32} (hl : l.length < 2 ^ 31) (h : nI l.length ≤ i) : putI l i v = l := by
  by_cases h0 : i < 0
  · exact putI_neg h0
  · obtain ⟨j, hj, rfl⟩ := nI_of h0
    rw [putI_nI l v hj]
    rw [nI_leI hl hj] at h
    exact List.set_eq_of_length_le h
theorem putI_len (l : List Int32) (i v : Int32) : (putI l i v).length = l.length := by
  unfold putI
  split
  · rfl
  · exact List.length_set
theorem addI_lt {c : Nat} {l : List Int32} {v : Int32} (h : l.length < c) : addI c l v = l ++ [v] := if_pos h
theorem addI_ge {c : Nat} {l : List Int32} {v : Int32} (h : ¬ l.length < c) : addI c l v = l := if_neg h
theorem cutI_neg {l : List Int32} {n : Int32} (h : n < 0) : cutI l n = [] := if_pos h
theorem cutI_nI (l : List Int32) {j : Nat} (h : j < 2 ^ 31) : cutI l (nI j) = l.take j := by
  unfold cutI
  rw [if_neg (nI_pos h), nI_clamp h]
theorem Rep.len {ρ : Raw} {σ : St} (h : Rep ρ σ) {r : Nat} (hr : r < 30) : (σ.row r).length < 2 ^ 31 := by
  have h1 := (h.1 r hr).1
  have h2 := cap_le r
  omega
theorem cap_lt (r : Nat) : cap r < 2 ^ 31 := by
  have h2 := cap_le r
  omega
theorem St.row_set (σ : St) (r j : Nat) (l : List Int32) : (σ.setRow r l).row j = if j = r then l else σ.row j := rfl
theorem St.row_self (σ : St) (r : Nat) (l : List Int32) : (σ.setRow r l).row r = l := if_pos rfl
theorem St.row_ne (σ : St) {r j : Nat} (l : List Int32) (h : j ≠ r) : (σ.setRow r l).row j = σ.row j := if_neg h
theorem St.setRow_same (σ : St) (r : Nat) : σ.setRow r (σ.row r) = σ := by
  unfold St.setRow St.row
  refine Prod.ext (funext fun j => ?_) rfl
  dsimp only [up]
  split
  · rename_i h; rw [h]
  · rfl
theorem St.setRow_twice (σ : St) (r : Nat) (l l' : List Int32) : (σ.setRow r l).setRow r l' = σ.setRow r l' := by
  unfold St.setRow
  refine Prod.ext (funext fun j => ?_) rfl
  dsimp only [up]
  split <;> rfl
/-- one row is another one -/
theorem Rep.row {ρ ρ' : Raw} {σ : St} (h : Rep ρ σ) {r : Nat} {l : List Int32} (h2 : ρ'.2 = ρ.2) (ho : ∀ j, j ≠ r → ρ'.1 j = ρ.1 j) (hc : l.length ≤ cap r) (hs : (ρ'.1 r).1 = nI l.length) (hv : ∀ j, j < l.length → (ρ'.1 r).2 j = l.getD j 0) : Rep ρ' (σ.setRow r l) := by
  refine ⟨fun j hj => ?_, h2.trans h.2⟩
  rw [St.row_set]
  by_cases e : j = r
  · subst e
    rw [if_pos rfl]
    exact ⟨hc, hs, hv⟩
  · rw [if_neg e, ho j e]
    exact h.1 j hj
theorem Rep.put {ρ : Raw} {σ : St} (h : Rep ρ σ) {r i : Nat} (hr : r < 30) (hi : i < (σ.row r).length) (v : Int32) : Rep (ρ.setAt r (upd (ρ.1 r).2 i v)) (σ.setRow r ((σ.row r).set i v)) := by
  obtain ⟨h1, h2, h3⟩ := h.1 r hr
  refine h.row rfl (fun j hj => up_ne hj) (by rw [List.length_set]; exact h1) (by rw [Raw.setAt]; dsimp only; rw [up_self, List.length_set]; exact h2) (fun j hj => ?_)
  rw [List.length_set] at hj
  rw [Raw.setAt]; dsimp only; rw [up_self]
  dsimp only [upd]
  by_cases e : j = i
  · subst e
    rw [if_pos rfl, List.getD_eq_getElem?_getD, List.getElem?_set_self hj]
    rfl
  · rw [if_neg e, h3 j hj, List.getD_eq_getElem?_getD, List.getD_eq_getElem?_getD, List.getElem?_set_ne (Ne.symm e)]
theorem Rep.add {ρ : Raw} {σ : St} (h : Rep ρ σ) {r : Nat} (hr : r < 30) (hi : (σ.row r).length < cap r) (v : Int32) : Rep ((ρ.setAt r (upd (ρ.1 r).2 (σ.row r).length v)).setSize r (nI ((σ.row r).length + 1))) (σ.setRow r (σ.row r ++ [v])) := by
  obtain ⟨h1, h2, h3⟩ := h.1 r hr
  refine h.row rfl (fun j hj => (up_ne hj).trans (up_ne hj)) (by simp; omega) (by rw [Raw.setSize]; dsimp only; rw [up_self]; simp) (fun j hj => ?_)
  rw [Raw.setSize, Raw.setAt]; dsimp only; rw [up_self]; dsimp only; rw [up_self]
  dsimp only [upd]
  simp only [List.length_append, List.length_cons, List.length_nil] at hj
  by_cases e : j = (σ.row r).length
  · subst e
    rw [if_pos rfl, List.getD_eq_getElem?_getD, List.getElem?_append_right (Nat.le_refl _), Nat.sub_self]
    rfl
  · rw [if_neg e, h3 j (by omega), List.getD_eq_getElem?_getD, List.getD_eq_getElem?_getD, List.getElem?_append_left (by omega)]
theorem Rep.cut {ρ : Raw} {σ : St} (h : Rep ρ σ) {r n : Nat} (hr : r < 30) (hn : n ≤ (σ.row r).length) : Rep (ρ.setSize r (nI n)) (σ.setRow r ((σ.row r).take n)) := by
  obtain ⟨h1, h2, h3⟩ := h.1 r hr
  have hl : ((σ.row r).take n).length = n := by rw [List.length_take]; omega
  refine h.row rfl (fun j hj => up_ne hj) (by rw [hl]; omega) (by rw [Raw.setSize]; dsimp only; rw [up_self, hl]) (fun j hj => ?_)
  rw [hl] at hj
  rw [Raw.setSize]; dsimp only; rw [up_self]; dsimp only
  rw [h3 j (by omega), List.getD_eq_getElem?_getD, List.getD_eq_getElem?_getD, List.getElem?_take_of_lt hj]
theorem Rep.fault {ρ : Raw} {σ : St} (h : Rep ρ σ) (i : Nat) (v : Int32) : Rep (ρ.setP i (v, (ρ.2.1 i).2)) (σ.setFa i v) := ⟨h.1, by rw [Raw.setP, St.setFa]; dsimp only; rw [h.2]⟩
theorem Rep.place {ρ : Raw} {σ : St} (h : Rep ρ σ) (i : Nat) (v : Int32) : Rep (ρ.setP i ((ρ.2.1 i).1, v)) (σ.setFp i v) := ⟨h.1, by rw [Raw.setP, St.setFp]; dsimp only; rw [h.2]⟩
theorem Rep.gs {ρ : Raw} {σ : St} (h : Rep ρ σ) (v : Int32) : Rep (ρ.setC (v, ρ.2.2.2)) (σ.setGs v) := ⟨h.1, by rw [Raw.setC, St.setGs]; dsimp only; rw [h.2]⟩
theorem Rep.is {ρ : Raw} {σ : St} (h : Rep ρ σ) (v : Int32) : Rep (ρ.setC (ρ.2.2.1, v)) (σ.setIs v) := ⟨h.1, by rw [Raw.setC, St.setIs]; dsimp only; rw [h.2]⟩
/-! ## the writes as rows -/
section JW
variable {X : Cx} {Z : Zx} {cc : ByteArray} {nL : Nat} {Ts : List Cond} {own : String} {R : Room} {pc index : Nat} {lv : List (Option Value)} {rest : List Value}
theorem j_putSize (S : Fx X Z cc nL Ts own R) (hA : AdOk Z X.A) {ρ : Raw} {r : Nat} (hr : r < 30) {v : Int32} (hin : ∀ q ∈ u_ws RX3 TX3 2, q ∈ Ts) (hlink : Cond.fieldLink own index "TreadleLoom$Row" "size" "I" ∈ Ts) (hd : decode cc pc = .ok (.putfield index, 3)) (kk : J X nL (WR Z (ρ.setSize r v)) (pc + 3) lv rest) : J X nL (WR Z ρ) pc lv (.int v :: .ref (Z.ad (ro r)) :: rest) :=
  j_put S (C := RX3) (T := TX3) (N := 2) (ty := .int) (ref := "TreadleLoom$Row") (W0 := wl Z ρ) (q0 := ro r) tyX3 tyX3_ok nmX3 hin (wl_D hA) (fun _ h => h) ((wl_get Z ρ (by unfold ro; omega)).trans (by rw [cell_row])) rfl 1 (by decide) hlink rfl rfl (by decide +kernel) rfl rfl (Nat.le_of_ble_eq_true rfl) hd (fun H h => by
    have e := wl_size (Z := Z) (ρ := ρ) hr v
    unfold WR
    rw [← e]
    exact h) kk
theorem j_putFault (S : Fx X Z cc nL Ts own R) (hA : AdOk Z X.A) {σ : St} {i : Nat} (hi : i < 11) {v : Int32} (hin : ∀ q ∈ u_ws RX2 TX2 4, q ∈ Ts) (hlink : Cond.fieldLink own index "TreadleLoom$Program" "fault" "I" ∈ Ts) (hd : decode cc pc = .ok (.putfield index, 3)) (kk : J X nL (Wd Z (σ.setFa i v)) (pc + 3) lv rest) : J X nL (Wd Z σ) pc lv (.int v :: .ref (Z.ad (po i)) :: rest) := by
  refine J.raw (fun ρ hρ => ?_)
  exact j_put S (C := RX2) (T := TX2) (N := 4) (ty := .int) (ref := "TreadleLoom$Program") (W0 := wl Z ρ) (q0 := po i) tyX2 tyX2_ok nmX2 hin (wl_D hA) (fun _ h => h) ((wl_get Z ρ (by unfold po; omega)).trans (by rw [cell_prog Z ρ hi])) rfl 2 (by decide) hlink rfl rfl (by decide +kernel) rfl rfl (Nat.le_of_ble_eq_true rfl) hd (fun H h => ⟨_, hρ.fault i v, by
    have e := wl_prog (Z := Z) (ρ := ρ) hi (v, (ρ.2.1 i).2)
    unfold WR
    rw [← e]
    exact h⟩) kk
theorem j_putPlace (S : Fx X Z cc nL Ts own R) (hA : AdOk Z X.A) {σ : St} {i : Nat} (hi : i < 11) {v : Int32} (hin : ∀ q ∈ u_ws RX2 TX2 4, q ∈ Ts) (hlink : Cond.fieldLink own index "TreadleLoom$Program" "faultPlace" "I" ∈ Ts) (hd : decode cc pc = .ok (.putfield index, 3)) (kk : J X nL (Wd Z (σ.setFp i v)) (pc + 3) lv rest) : J X nL (Wd Z σ) pc lv (.int v :: .ref (Z.ad (po i)) :: rest) := by
  refine J.raw (fun ρ hρ => ?_)
  exact j_put S (C := RX2) (T := TX2) (N := 4) (ty := .int) (ref := "TreadleLoom$Program") (W0 := wl Z ρ) (q0 := po i) tyX2 tyX2_ok nmX2 hin (wl_D hA) (fun _ h => h) ((wl_get Z ρ (by unfold po; omega)).trans (by rw [cell_prog Z ρ hi])) rfl 3 (by decide) hlink rfl rfl (by decide +kernel) rfl rfl (Nat.le_of_ble_eq_true rfl) hd (fun H h => ⟨_, hρ.place i v, by
    have e := wl_prog (Z := Z) (ρ := ρ) hi ((ρ.2.1 i).1, v)
    unfold WR
    rw [← e]
    exact h⟩) kk
theorem j_putGs (S : Fx X Z cc nL Ts own R) (hA : AdOk Z X.A) {σ : St} {v : Int32} (hin : ∀ q ∈ u_ws RX1 TX1 4, q ∈ Ts) (hlink : Cond.fieldLink own index "TreadleLoom$Compiler" "groupStart" "I" ∈ Ts) (hd : decode cc pc = .ok (.putfield index, 3)) (kk : J X nL (Wd Z (σ.setGs v)) (pc + 3) lv rest) : J X nL (Wd Z σ) pc lv (.int v :: .ref (Z.ad 2) :: rest) := by
  refine J.raw (fun ρ hρ => ?_)
  exact j_put S (C := RX1) (T := TX1) (N := 4) (ty := .int) (ref := "TreadleLoom$Compiler") (W0 := wl Z ρ) (q0 := 2) tyX1 tyX1_ok nmX1 hin (wl_D hA) (fun _ h => h) ((wl_get Z ρ (by omega)).trans (by rw [cell_comp Z ρ])) rfl 2 (by decide) hlink rfl rfl (by decide +kernel) rfl rfl (Nat.le_of_ble_eq_true rfl) hd (fun H h => ⟨_, hρ.gs v, by
    have e := wl_comp (Z := Z) (ρ := ρ) (v, ρ.2.2.2)
    unfold WR
    rw [← e]
    exact h⟩) kk
theorem j_putIs (S : Fx X Z cc nL Ts own R) (hA : AdOk Z X.A) {σ : St} {v : Int32} (hin : ∀ q ∈ u_ws RX1 TX1 4, q ∈ Ts) (hlink : Cond.fieldLink own index "TreadleLoom$Compiler" "itemStart" "I" ∈ Ts) (hd : decode cc pc = .ok (.putfield index, 3)) (kk : J X nL (Wd Z (σ.setIs v)) (pc + 3) lv rest) : J X nL (Wd Z σ) pc lv (.int v :: .ref (Z.ad 2) :: rest) := by
  refine J.raw (fun ρ hρ => ?_)
  exact j_put S (C := RX1) (T := TX1) (N := 4) (ty := .int) (ref := "TreadleLoom$Compiler") (W0 := wl Z ρ) (q0 := 2) tyX1 tyX1_ok nmX1 hin (wl_D hA) (fun _ h => h) ((wl_get Z ρ (by omega)).trans (by rw [cell_comp Z ρ])) rfl 3 (by decide) hlink rfl rfl (by decide +kernel) rfl rfl (Nat.le_of_ble_eq_true rfl) hd (fun H h => ⟨_, hρ.is v, by
    have e := wl_comp (Z := Z) (ρ := ρ) (ρ.2.2.1, v)
    unfold WR
    rw [← e]
    exact h⟩) kk
theorem j_rowStore (S : Fx X Z cc nL Ts own R) (hA : AdOk Z X.A) {ρ : Raw} {r : Nat} (hr : r < 30) {i v : Int32} (hin : vp_in i (cap r)) (hd : decode cc pc = .ok (.iastore, 1)) (kk : J X nL (WR Z (ρ.setAt r (upd (ρ.1 r).2 i.toNatClampNeg v))) (pc + 1) lv rest) : J X nL (WR Z ρ) pc lv (.int v :: .int i :: .ref (Z.ad (rc r)) :: rest) :=
  j_iastore S (W0 := wl Z ρ) (q0 := rc r) (wl_D hA) (fun _ h => h) ((wl_get Z ρ (by unfold rc; omega)).trans (by rw [cell_arr])) hin hd (fun H h => by
    have e := wl_cells (Z := Z) (ρ := ρ) hr (upd (ρ.1 r).2 i.toNatClampNeg v)
    unfold WR
    rw [← e]
    exact h) kk
end JW
theorem j_ldcw {X : Cx} {Z : Zx} {cc : ByteArray} {nL : Nat} {Ts : List Cond} {own : String} {R : Room} {w : Heap → Prop} {pc : Nat} {lv : List (Option Value)} {rest : List Value} (S : Fx X Z cc nL Ts own R) {index : Nat} {v : Int32} (hc : Cond.constant own index v ∈ Ts) (hd : decode cc pc = .ok (.ldc_w index, 3)) (k : J X nL w (pc + 3) lv (.int v :: rest)) : J X nL w pc lv rest :=
  fun H locs ls hw hS hl => lv_ldcw S.ex S.by S.ow (S.ts _ hc) hd (k H locs ls hw hS hl)
end
section
set_option maxRecDepth 100000 in
set_option maxHeartbeats 4000000 in
/-- the number at a place, 0 off it -/
theorem k_X3_at (l : Launch) (Z : Zx) (A : Nat → Prop) (hA : AdOk Z A) (σ : St) (r : Nat) (hr : r < 30) (i : Int32) : Km l Z A yX3_at wsX3_at { frames := 0, cells := 0, slots := 0, locals := 0 } (Wd Z σ) [.ref (Z.ad (ro r)), .int i] (Qi (Wd Z σ) A (fun v => v = atI (σ.row r) i)) := by
  refine Km.of (cc := cX3_at) (maxL := 2) (ret := (some .int)) (by decide) rfl (Nat.le_of_ble_eq_true rfl) hA ?_
  intro X hXl S hAX hRT hXA hQ hXk hXn
  show J X 2 (Wd Z σ) 0 [some (.ref (Z.ad (ro r))), some (.int i)] []
  refine J.raw (fun ρ hρ => ?_)
  have hln := hρ.len hr
  obtain ⟨hcp, hsz, hvl⟩ := hρ.1 r hr
  have hc31 := cap_lt r
  refine j_iload_n S dX3_at_0 rfl ?_
  refine j_if_lt S 30 dX3_at_1 (by decide) (fun h => ?_) (fun h => ?_)
  · skip
    refine j_iconst S 0 dX3_at_30 (by decide) ?_
    exact j_ireturn S hRT hXA hQ hXk hXn dX3_at_31 rfl (atI_neg h).symm (fun H h => ⟨ρ, hρ, h⟩)
  · skip
    refine j_iload_n S dX3_at_4 rfl ?_
    refine j_aload_n S dX3_at_5 rfl ?_
    refine j_get S (C := RX3) (T := TX3) (N := 2) (by decide +kernel) (rr_row (by omega)) rfl (v := .int ((ρ.1 r).1)) 1 (by decide) (by decide +kernel) rfl rfl dX3_at_6 ?_
    refine j_icmp_ge S 30 dX3_at_9 (by decide) (fun h2 => ?_) (fun h2 => ?_)
    · skip
      refine j_iconst S 0 dX3_at_30 (by decide) ?_
      exact j_ireturn S hRT hXA hQ hXk hXn dX3_at_31 rfl (atI_out hln (by rw [← hsz]; exact h2)).symm (fun H h => ⟨ρ, hρ, h⟩)
    · skip
      obtain ⟨j, hj31, rfl⟩ := nI_of h
      rw [hsz] at h2
      rw [nI_leI hln hj31] at h2
      refine j_iload_n S dX3_at_12 rfl ?_
      refine j_aload_n S dX3_at_13 rfl ?_
      refine j_get S (C := RX3) (T := TX3) (N := 2) (by decide +kernel) (rr_row (by omega)) rfl (v := .ref (Z.ad (rc r))) 0 (by decide) (by decide +kernel) rfl rfl dX3_at_14 ?_
      refine j_alen S (v := nI (cap r)) (t0 := 0) (rr_arr (by omega)) rfl rfl dX3_at_17 ?_
      refine j_icmp_ge S 30 dX3_at_18 (by decide) (fun h9 => absurd h9 (by rw [nI_leI hc31 hj31]; omega)) (fun _ => ?_)
      refine j_aload_n S dX3_at_21 rfl ?_
      refine j_get S (C := RX3) (T := TX3) (N := 2) (by decide +kernel) (rr_row (by omega)) rfl (v := .ref (Z.ad (rc r))) 0 (by decide) (by decide +kernel) rfl rfl dX3_at_22 ?_
      refine j_iload_n S dX3_at_25 rfl ?_
      refine j_iaload S (v := (σ.row r).getD j 0) (rr_arr hr) (vp_in_nI (by omega) hc31) (by rw [nI_clamp hj31]; exact hvl j (by omega)) dX3_at_26 ?_
      refine j_goto S 31 dX3_at_27 (by decide) ?_
      exact j_ireturn S hRT hXA hQ hXk hXn dX3_at_31 rfl (atI_nI _ hj31).symm (fun H h => ⟨ρ, hρ, h⟩)

set_option maxRecDepth 100000 in
set_option maxHeartbeats 4000000 in
/-- a number is put at a place of the row -/
theorem k_X3_put (l : Launch) (Z : Zx) (A : Nat → Prop) (hA : AdOk Z A) (σ : St) (r : Nat) (hr : r < 30) (i v : Int32) : Km l Z A yX3_put wsX3_put { frames := 0, cells := 0, slots := 0, locals := 0 } (Wd Z σ) [.ref (Z.ad (ro r)), .int i, .int v] (Qv (Wd Z (σ.setRow r (putI (σ.row r) i v))) A) := by
  refine Km.of (cc := cX3_put) (maxL := 3) (ret := none) (by decide) rfl (Nat.le_of_ble_eq_true rfl) hA ?_
  intro X hXl S hAX hRT hXA hQ hXk hXn
  show J X 3 (Wd Z σ) 0 [some (.ref (Z.ad (ro r))), some (.int i), some (.int v)] []
  refine J.raw (fun ρ hρ => ?_)
  have hln := hρ.len hr
  obtain ⟨hcp, hsz, hvl⟩ := hρ.1 r hr
  have hc31 := cap_lt r
  refine j_iload_n S dX3_put_0 rfl ?_
  refine j_if_lt S 28 dX3_put_1 (by decide) (fun h => ?_) (fun h => ?_)
  · skip
    exact j_return S hRT hXA hQ hXk hXn dX3_put_28 (fun H h9 => by rw [putI_neg h, St.setRow_same]; exact ⟨ρ, hρ, h9⟩)
  · skip
    refine j_iload_n S dX3_put_4 rfl ?_
    refine j_aload_n S dX3_put_5 rfl ?_
    refine j_get S (C := RX3) (T := TX3) (N := 2) (by decide +kernel) (rr_row (by omega)) rfl (v := .int ((ρ.1 r).1)) 1 (by decide) (by decide +kernel) rfl rfl dX3_put_6 ?_
    refine j_icmp_ge S 28 dX3_put_9 (by decide) (fun h2 => ?_) (fun h2 => ?_)
    · skip
      exact j_return S hRT hXA hQ hXk hXn dX3_put_28 (fun H h9 => by rw [putI_out hln (by rw [← hsz]; exact h2), St.setRow_same]; exact ⟨ρ, hρ, h9⟩)
    · skip
      obtain ⟨j, hj31, rfl⟩ := nI_of h
      rw [hsz, nI_leI hln hj31] at h2
      refine j_iload_n S dX3_put_12 rfl ?_
      refine j_aload_n S dX3_put_13 rfl ?_
      refine j_get S (C := RX3) (T := TX3) (N := 2) (by decide +kernel) (rr_row (by omega)) rfl (v := .ref (Z.ad (rc r))) 0 (by decide) (by decide +kernel) rfl rfl dX3_put_14 ?_
      refine j_alen S (v := nI (cap r)) (t0 := 0) (rr_arr (by omega)) rfl rfl dX3_put_17 ?_
      refine j_icmp_ge S 28 dX3_put_18 (by decide) (fun h9 => absurd h9 (by rw [nI_leI hc31 hj31]; omega)) (fun _ => ?_)
      refine j_aload_n S dX3_put_21 rfl ?_
      refine j_get S (C := RX3) (T := TX3) (N := 2) (by decide +kernel) (rr_row (by omega)) rfl (v := .ref (Z.ad (rc r))) 0 (by decide) (by decide +kernel) rfl rfl dX3_put_22 ?_
      refine j_iload_n S dX3_put_25 rfl ?_
      refine j_iload_n S dX3_put_26 rfl ?_
      refine j_rowStore S hAX hr (vp_in_nI (by omega) hc31) dX3_put_27 ?_
      rw [nI_clamp hj31]
      exact j_return S hRT hXA hQ hXk hXn dX3_put_28 (fun H h => by rw [putI_nI _ _ hj31]; exact ⟨_, hρ.put hr (by omega) v, h⟩)

set_option maxRecDepth 100000 in
set_option maxHeartbeats 4000000 in
/-- a number more, if there is room -/
theorem k_X3_add (l : Launch) (Z : Zx) (A : Nat → Prop) (hA : AdOk Z A) (σ : St) (r : Nat) (hr : r < 30) (v : Int32) : Km l Z A yX3_add wsX3_add { frames := 0, cells := 0, slots := 0, locals := 0 } (Wd Z σ) [.ref (Z.ad (ro r)), .int v] (Qv (Wd Z (σ.setRow r (addI (cap r) (σ.row r) v))) A) := by
  refine Km.of (cc := cX3_add) (maxL := 2) (ret := none) (by decide) rfl (Nat.le_of_ble_eq_true rfl) hA ?_
  intro X hXl S hAX hRT hXA hQ hXk hXn
  show J X 2 (Wd Z σ) 0 [some (.ref (Z.ad (ro r))), some (.int v)] []
  refine J.raw (fun ρ hρ => ?_)
  have hln := hρ.len hr
  obtain ⟨hcp, hsz, hvl⟩ := hρ.1 r hr
  have hc31 := cap_lt r
  refine j_aload_n S dX3_add_0 rfl ?_
  refine j_get S (C := RX3) (T := TX3) (N := 2) (by decide +kernel) (rr_row (by omega)) rfl (v := .int ((ρ.1 r).1)) 1 (by decide) (by decide +kernel) rfl rfl dX3_add_1 ?_
  refine j_if_lt S 39 dX3_add_4 (by decide) (fun h9 => absurd h9 (by rw [hsz]; exact nI_pos hln)) (fun _ => ?_)
  refine j_aload_n S dX3_add_7 rfl ?_
  refine j_get S (C := RX3) (T := TX3) (N := 2) (by decide +kernel) (rr_row (by omega)) rfl (v := .int ((ρ.1 r).1)) 1 (by decide) (by decide +kernel) rfl rfl dX3_add_8 ?_
  refine j_aload_n S dX3_add_11 rfl ?_
  refine j_get S (C := RX3) (T := TX3) (N := 2) (by decide +kernel) (rr_row (by omega)) rfl (v := .ref (Z.ad (rc r))) 0 (by decide) (by decide +kernel) rfl rfl dX3_add_12 ?_
  refine j_alen S (v := nI (cap r)) (t0 := 0) (rr_arr (by omega)) rfl rfl dX3_add_15 ?_
  refine j_icmp_ge S 39 dX3_add_16 (by decide) (fun h => ?_) (fun h => ?_)
  · skip
    exact j_return S hRT hXA hQ hXk hXn dX3_add_39 (fun H h9 => by rw [addI_ge (by rw [hsz, nI_leI hc31 hln] at h; omega), St.setRow_same]; exact ⟨ρ, hρ, h9⟩)
  · skip
    rw [hsz, nI_leI hc31 hln] at h
    refine j_aload_n S dX3_add_19 rfl ?_
    refine j_get S (C := RX3) (T := TX3) (N := 2) (by decide +kernel) (rr_row (by omega)) rfl (v := .ref (Z.ad (rc r))) 0 (by decide) (by decide +kernel) rfl rfl dX3_add_20 ?_
    refine j_aload_n S dX3_add_23 rfl ?_
    refine j_get S (C := RX3) (T := TX3) (N := 2) (by decide +kernel) (rr_row (by omega)) rfl (v := .int ((ρ.1 r).1)) 1 (by decide) (by decide +kernel) rfl rfl dX3_add_24 ?_
    refine j_iload_n S dX3_add_27 rfl ?_
    rw [hsz]
    refine j_rowStore S hAX hr (vp_in_nI (by omega) hc31) dX3_add_28 ?_
    rw [nI_clamp hln]
    have hsz2 : ((ρ.setAt r (upd (ρ.1 r).2 (σ.row r).length v)).1 r).1 = nI (σ.row r).length := by
      rw [Raw.setAt]; dsimp only; rw [up_self]; exact hsz
    refine j_aload_n S dX3_add_29 rfl ?_
    refine j_dup S dX3_add_30 rfl ?_
    refine j_get S (C := RX3) (T := TX3) (N := 2) (by decide +kernel) (rr_row (by omega)) rfl (v := .int (((ρ.setAt r (upd (ρ.1 r).2 (σ.row r).length v)).1 r).1)) 1 (by decide) (by decide +kernel) rfl rfl dX3_add_31 ?_
    refine j_iconst S 1 dX3_add_34 (by decide) ?_
    refine j_iadd S (nI ((σ.row r).length + 1)) dX3_add_35 (by rw [hsz2]; exact nI_1 _) ?_
    refine j_putSize S hAX hr (by decide +kernel) (by decide +kernel) dX3_add_36 ?_
    exact j_return S hRT hXA hQ hXk hXn dX3_add_39 (fun H h9 => by rw [addI_lt (by omega)]; exact ⟨_, hρ.add hr (by omega) v, h9⟩)

theorem cut_num {l : List Int32} (hl : l.length < 2 ^ 31) (n : Int32) : ∃ m : Nat, m ≤ l.length ∧ (if (0 : Int32) < (if n < nI l.length then n else nI l.length) then (if n < nI l.length then n else nI l.length) else 0) = nI m ∧ cutI l n = l.take m := by
  by_cases h0 : n < 0
  · refine ⟨0, Nat.zero_le _, ?_, by rw [cutI_neg h0]; rfl⟩
    have h1 : n < nI l.length := Int32.lt_of_lt_of_le h0 (nI_pos' hl)
    rw [if_pos h1, if_neg (fun h => Int32.lt_irrefl (Int32.lt_trans h h0))]
    rfl
  · obtain ⟨j, hj, rfl⟩ := nI_of h0
    rw [cutI_nI _ hj]
    by_cases h1 : j < l.length
    · rw [if_pos ((nI_ltI hj hl).mpr h1)]
      refine ⟨j, by omega, ?_, rfl⟩
      by_cases h2 : j = 0
      · subst h2
        rw [if_neg (by rw [nI_0]; exact Int32.lt_irrefl)]
        exact nI_0.symm
      · rw [if_pos (by rw [← nI_0]; exact (nI_ltI (by omega) hj).mpr (by omega))]
    · rw [if_neg (fun h => h1 ((nI_ltI hj hl).mp h))]
      refine ⟨l.length, Nat.le_refl _, ?_, ?_⟩
      · by_cases h2 : l.length = 0
        · rw [h2, if_neg (by rw [nI_0]; exact Int32.lt_irrefl)]
          exact nI_0.symm
        · rw [if_pos (by rw [← nI_0]; exact (nI_ltI (by omega) hl).mpr (by omega))]
      · rw [List.take_of_length_le (by omega), List.take_of_length_le (by omega)]

set_option maxRecDepth 100000 in
set_option maxHeartbeats 4000000 in
/-- the row is cut -/
theorem k_X3_cutTo (l : Launch) (Z : Zx) (A : Nat → Prop) (hA : AdOk Z A) (σ : St) (r : Nat) (hr : r < 30) (n : Int32) : Km l Z A yX3_cutTo wsX3_cutTo { frames := 1, cells := 0, slots := 0, locals := 21 } (Wd Z σ) [.ref (Z.ad (ro r)), .int n] (Qv (Wd Z (σ.setRow r (cutI (σ.row r) n))) A) := by
  refine Km.of (cc := cX3_cutTo) (maxL := 2) (ret := none) (by decide) rfl (Nat.le_of_ble_eq_true rfl) hA ?_
  intro X hXl S hAX hRT hXA hQ hXk hXn
  show J X 2 (Wd Z σ) 0 [some (.ref (Z.ad (ro r))), some (.int n)] []
  refine J.raw (fun ρ hρ => ?_)
  have hln := hρ.len hr
  obtain ⟨hcp, hsz, hvl⟩ := hρ.1 r hr
  have hc31 := cap_lt r
  obtain ⟨m, hm, hm2, hm3⟩ : ∃ m : Nat, m ≤ (σ.row r).length ∧ (if (0 : Int32) < (if n < (ρ.1 r).1 then n else (ρ.1 r).1) then (if n < (ρ.1 r).1 then n else (ρ.1 r).1) else 0) = nI m ∧ cutI (σ.row r) n = (σ.row r).take m := by
    rw [hsz]
    exact cut_num hln n
  refine j_aload_n S dX3_cutTo_0 rfl ?_
  refine j_iconst S 0 dX3_cutTo_1 (by decide) ?_
  refine j_aload_n S dX3_cutTo_2 rfl ?_
  refine j_get S (C := RX3) (T := TX3) (N := 2) (by decide +kernel) (rr_row (by omega)) rfl (v := .int ((ρ.1 r).1)) 1 (by decide) (by decide +kernel) rfl rfl dX3_cutTo_3 ?_
  refine j_iload_n S dX3_cutTo_6 rfl ?_
  refine j_min S (if n < (ρ.1 r).1 then n else (ρ.1 r).1) (by decide +kernel) (by decide +kernel) (by decide +kernel) (by decide +kernel) ⟨Nat.le_of_ble_eq_true rfl, Nat.le_of_ble_eq_true rfl⟩ dX3_cutTo_7 rfl ?_
  refine j_max S (nI m) (by decide +kernel) (by decide +kernel) (by decide +kernel) (by decide +kernel) ⟨Nat.le_of_ble_eq_true rfl, Nat.le_of_ble_eq_true rfl⟩ dX3_cutTo_10 hm2 ?_
  refine j_putSize S hAX hr (by decide +kernel) (by decide +kernel) dX3_cutTo_13 ?_
  exact j_return S hRT hXA hQ hXk hXn dX3_cutTo_16 (fun H h9 => by rw [hm3]; exact ⟨_, hρ.cut hr hm, h9⟩)

set_option maxRecDepth 100000 in
set_option maxHeartbeats 4000000 in
/-- the row is emptied -/
theorem k_X3_clear (l : Launch) (Z : Zx) (A : Nat → Prop) (hA : AdOk Z A) (σ : St) (r : Nat) (hr : r < 30) : Km l Z A yX3_clear wsX3_clear { frames := 0, cells := 0, slots := 0, locals := 0 } (Wd Z σ) [.ref (Z.ad (ro r))] (Qv (Wd Z (σ.setRow r [])) A) := by
  refine Km.of (cc := cX3_clear) (maxL := 1) (ret := none) (by decide) rfl (Nat.le_of_ble_eq_true rfl) hA ?_
  intro X hXl S hAX hRT hXA hQ hXk hXn
  show J X 1 (Wd Z σ) 0 [some (.ref (Z.ad (ro r)))] []
  refine J.raw (fun ρ hρ => ?_)
  have hln := hρ.len hr
  obtain ⟨hcp, hsz, hvl⟩ := hρ.1 r hr
  have hc31 := cap_lt r
  refine j_aload_n S dX3_clear_0 rfl ?_
  refine j_iconst S 0 dX3_clear_1 (by decide) ?_
  refine j_putSize S hAX hr (by decide +kernel) (by decide +kernel) dX3_clear_2 ?_
  exact j_return S hRT hXA hQ hXk hXn dX3_clear_5 (fun H h9 => ⟨_, hρ.cut (n := 0) hr (Nat.zero_le _), h9⟩)
end
section
/-! SETS OF BITS: what the functions over one int answer -/
def ush (x p : Int32) : Int32 := (x.toUInt32 >>> (p.toUInt32 &&& Int32.toUInt32 31)).toInt32
def shl (x p : Int32) : Int32 := x <<< (p &&& 31)
def b2i (b : Bool) : Int32 := if b = true then 1 else 0
theorem b2i_0 {b : Bool} : b2i b = 0 ↔ b = false := by cases b <;> decide
theorem b2i_n0 {b : Bool} : ¬ b2i b = 0 ↔ b = true := by cases b <;> decide
theorem b2i_nar (b : Bool) : narrow .boolean (.int (b2i b)) = .int (b2i b) := by cases b <;> rfl
def bitI (x p : Int32) : Bool := !(ush x p &&& 1 == 0)
theorem bitI_f {x p : Int32} (h : ush x p &&& 1 = 0) : b2i (bitI x p) = 0 := by unfold bitI; rw [h]; rfl
theorem bitI_t {x p : Int32} (h : ¬ ush x p &&& 1 = 0) : b2i (bitI x p) = 1 := by
  unfold bitI
  rw [beq_eq_false_iff_ne.mpr h]
  rfl
def fullI (n : Int32) : Int32 := if 0 < n then ush (-1) (32 - n) else 0
def findI (p : Nat → Bool) (d : Int32) : Nat → Nat → Int32
  | 0, _ => d
  | f + 1, i => if p i = true then nI i else findI p d f (i + 1)
def allF (p : Nat → Bool) : Nat → Nat → Bool
  | 0, _ => true
  | f + 1, i => p i && allF p f (i + 1)
def foldN (g : Int32 → Nat → Int32) : Nat → Int32
  | 0 => 0
  | k + 1 => g (foldN g k) k
def firstI (x : Int32) : Int32 := findI (fun k => bitI x (nI k)) (-1) 32 0
/-- x and x moved by 1, by 2, .. -/
def follow (x : Int32) : Nat → Int32
  | 0 => x
  | k + 1 => follow x k &&& ush x (nI (k + 1))
def runS (x : Int32) (m : Nat) : Int32 := follow x (min m 32 - 1) &&& (shl x 1 ^^^ (-1))
def lrF : Nat → Int32 → Nat
  | 0, _ => 0
  | f + 1, x => if x = 0 then 0 else lrF f (x &&& ush x 1) + 1
def lrunI (x : Int32) : Int32 := nI (lrF 32 x)
def upF (x : Int32) : Nat → Nat → Nat
  | 0, _ => 0
  | f + 1, i => if bitI x (nI i) = true then upF x f (i + 1) + 1 else 0
def downF (x : Int32) : Nat → Nat
  | 0 => 0
  | i + 1 => if bitI x (nI i) = true then downF x i + 1 else 0
theorem upF_le (x : Int32) : ∀ f i, upF x f i ≤ f
  | 0, _ => Nat.le_refl _
  | f + 1, i => by
    rw [upF]
    split
    · have := upF_le x f (i + 1); omega
    · omega
theorem downF_le (x : Int32) : ∀ i, downF x i ≤ i
  | 0 => Nat.le_refl _
  | i + 1 => by
    rw [downF]
    split
    · have := downF_le x i; omega
    · omega
theorem lrF_le : ∀ f x, lrF f x ≤ f
  | 0, _ => Nat.le_refl _
  | f + 1, x => by
    rw [lrF]
    split
    · omega
    · have := lrF_le f (x &&& ush x 1); omega
def aroundI (x : Int32) (k : Nat) : Int32 := nI (upF x (32 - k) k + downF x k)
theorem nI32 : (32 : Int32) = nI 32 := rfl
theorem nI_0m : nI 0 + (-1) < 0 := by decide
theorem nI_0s : nI 0 - 1 < 0 := by decide
end
section
set_option maxRecDepth 100000 in
set_option maxHeartbeats 4000000 in
theorem k_X4_hasBit (l : Launch) (Z : Zx) (A : Nat → Prop) (hA : AdOk Z A) (σ : St) (x p : Int32) : Km l Z A yX4_hasBit wsX4_hasBit { frames := 0, cells := 0, slots := 0, locals := 0 } (Wd Z σ) [.int x, .int p] (Qi (Wd Z σ) A (fun v => v = b2i (bitI x p))) := by
  refine Km.of (cc := cX4_hasBit) (maxL := 2) (ret := (some .boolean)) (by decide) rfl (Nat.le_of_ble_eq_true rfl) hA ?_
  intro X hXl S hAX hRT hXA hQ hXk hXn
  show J X 2 (Wd Z σ) 0 [some (.int x), some (.int p)] []
  refine j_iload_n S dX4_hasBit_0 rfl ?_
  refine j_iload_n S dX4_hasBit_1 rfl ?_
  refine j_iushr S (ush x p) dX4_hasBit_2 rfl ?_
  refine j_iconst S 1 dX4_hasBit_3 (by decide) ?_
  refine j_iand S ((ush x p) &&& 1) dX4_hasBit_4 rfl ?_
  refine j_if_eq S 12 dX4_hasBit_5 (by decide) (fun h => ?_) (fun h => ?_)
  · skip
    refine j_iconst S 0 dX4_hasBit_12 (by decide) ?_
    exact j_ireturn S hRT hXA hQ hXk hXn dX4_hasBit_13 rfl (bitI_f h).symm (fun H h => h)
  · skip
    refine j_iconst S 1 dX4_hasBit_8 (by decide) ?_
    refine j_goto S 13 dX4_hasBit_9 (by decide) ?_
    exact j_ireturn S hRT hXA hQ hXk hXn dX4_hasBit_13 rfl (bitI_t h).symm (fun H h => h)

set_option maxRecDepth 100000 in
set_option maxHeartbeats 4000000 in
theorem k_X4_fullSet (l : Launch) (Z : Zx) (A : Nat → Prop) (hA : AdOk Z A) (σ : St) (n : Int32) : Km l Z A yX4_fullSet wsX4_fullSet { frames := 0, cells := 0, slots := 0, locals := 0 } (Wd Z σ) [.int n] (Qi (Wd Z σ) A (fun v => v = fullI n)) := by
  refine Km.of (cc := cX4_fullSet) (maxL := 1) (ret := (some .int)) (by decide) rfl (Nat.le_of_ble_eq_true rfl) hA ?_
  intro X hXl S hAX hRT hXA hQ hXk hXn
  show J X 1 (Wd Z σ) 0 [some (.int n)] []
  refine j_iload_n S dX4_fullSet_0 rfl ?_
  refine j_if_gt S 8 dX4_fullSet_1 (by decide) (fun h => ?_) (fun h => ?_)
  · skip
    refine j_iconst S (-1) dX4_fullSet_8 (by decide) ?_
    refine j_bipush S 32 dX4_fullSet_9 (by decide) ?_
    refine j_iload_n S dX4_fullSet_11 rfl ?_
    refine j_isub S (32 - n) dX4_fullSet_12 rfl ?_
    refine j_iushr S (ush (-1) (32 - n)) dX4_fullSet_13 rfl ?_
    exact j_ireturn S hRT hXA hQ hXk hXn dX4_fullSet_14 rfl (if_pos h).symm (fun H h => h)
  · skip
    refine j_iconst S 0 dX4_fullSet_4 (by decide) ?_
    refine j_goto S 14 dX4_fullSet_5 (by decide) ?_
    exact j_ireturn S hRT hXA hQ hXk hXn dX4_fullSet_14 rfl (if_neg h).symm (fun H h => h)

set_option maxRecDepth 100000 in
set_option maxHeartbeats 4000000 in
theorem k_X4_firstBit (l : Launch) (Z : Zx) (A : Nat → Prop) (hA : AdOk Z A) (σ : St) (x : Int32) : Km l Z A yX4_firstBit wsX4_firstBit { frames := 1, cells := 0, slots := 0, locals := 21 } (Wd Z σ) [.int x] (Qi (Wd Z σ) A (fun v => v = firstI x)) := by
  refine Km.of (cc := cX4_firstBit) (maxL := 2) (ret := (some .int)) (by decide) rfl (Nat.le_of_ble_eq_true rfl) hA ?_
  intro X hXl S hAX hRT hXA hQ hXk hXn
  show J X 2 (Wd Z σ) 0 [some (.int x), none] []
  have loop : ∀ (f i : Nat), i + f = 32 → firstI x = findI (fun k => bitI x (nI k)) (-1) f i → J X 2 (Wd Z σ) 2 [some (.int x), some (.int (nI i))] [] := by
    intro f
    induction f with
    | zero =>
      intro i hi he
      obtain rfl : i = 32 := by omega
      refine j_iload_n S dX4_firstBit_2 rfl ?_
      refine j_bipush S 32 dX4_firstBit_3 (by decide) ?_
      refine j_icmp_ge S 24 dX4_firstBit_5 (by decide) (fun _ => ?_) (fun h9 => absurd (by decide) h9)
      refine j_iconst S (-1) dX4_firstBit_24 (by decide) ?_
      exact j_ireturn S hRT hXA hQ hXk hXn dX4_firstBit_25 rfl he.symm (fun H h => h)
    | succ f ih =>
      intro i hi he
      refine j_iload_n S dX4_firstBit_2 rfl ?_
      refine j_bipush S 32 dX4_firstBit_3 (by decide) ?_
      refine j_icmp_ge S 24 dX4_firstBit_5 (by decide) (fun h9 => absurd h9 (by rw [nI32, nI_leI (by omega) (by omega)]; omega)) (fun _ => ?_)
      refine j_iload_n S dX4_firstBit_8 rfl ?_
      refine j_iload_n S dX4_firstBit_9 rfl ?_
      refine j_cSi S (n := 2) (rest := []) (k_X4_hasBit X.l Z X.A hAX σ x (nI i)) ⟨_, _, _, _, rfl, gX4_firstBit_X4_hasBit, rfl, rfl, by decide +kernel, ⟨Nat.le_of_ble_eq_true rfl, Nat.le_of_ble_eq_true rfl⟩⟩ rfl (Nat.le_of_ble_eq_true rfl) rfl dX4_firstBit_10 (fun v9 hv9 => ?_)
      subst hv9
      refine j_if_eq S 18 dX4_firstBit_13 (by decide) (fun h => ?_) (fun h => ?_)
      · skip
        refine j_iinc S (nI (i + 1)) [some (.int x), some (.int (nI (i + 1)))] dX4_firstBit_18 rfl (nI_1 i) (by decide) rfl rfl ?_
        refine j_goto S 2 dX4_firstBit_21 (by decide) ?_
        exact ih (i + 1) (by omega) (by rw [he, findI, if_neg (by rw [b2i_0.mp h]; decide)])
      · skip
        refine j_iload_n S dX4_firstBit_16 rfl ?_
        exact j_ireturn S hRT hXA hQ hXk hXn dX4_firstBit_17 rfl (by rw [he, findI, if_pos (b2i_n0.mp h)]) (fun H h => h)
  refine j_iconst S 0 dX4_firstBit_0 (by decide) ?_
  refine j_istore_n S [some (.int x), some (.int 0)] dX4_firstBit_1 (by decide) rfl rfl ?_
  exact loop 32 0 rfl rfl

set_option maxRecDepth 100000 in
set_option maxHeartbeats 4000000 in
theorem k_X4_runStarts (l : Launch) (Z : Zx) (A : Nat → Prop) (hA : AdOk Z A) (σ : St) (x : Int32) (m : Nat) (hm : m < 2 ^ 31) : Km l Z A yX4_runStarts wsX4_runStarts { frames := 0, cells := 0, slots := 0, locals := 0 } (Wd Z σ) [.int x, .int (nI m)] (Qi (Wd Z σ) A (fun v => v = runS x m)) := by
  refine Km.of (cc := cX4_runStarts) (maxL := 4) (ret := (some .int)) (by decide) rfl (Nat.le_of_ble_eq_true rfl) hA ?_
  intro X hXl S hAX hRT hXA hQ hXk hXn
  show J X 4 (Wd Z σ) 0 [some (.int x), some (.int (nI m)), none, none] []
  have fin : runS x m = follow x (min m 32 - 1) &&& (shl x 1 ^^^ (-1)) := rfl
  have loop : ∀ (f k : Nat), k + f = min m 32 - 1 → J X 4 (Wd Z σ) 4 [some (.int x), some (.int (nI m)), some (.int (follow x k)), some (.int (nI (k + 1)))] [] := by
    intro f
    induction f with
    | zero =>
      intro k hk
      refine j_iload_n S dX4_runStarts_4 rfl ?_
      refine j_iload_n S dX4_runStarts_5 rfl ?_
      refine j_icmp_ge S 27 dX4_runStarts_6 (by decide) (fun h => ?_) (fun h => ?_)
      · skip
        refine j_iload_n S dX4_runStarts_27 rfl ?_
        refine j_iload_n S dX4_runStarts_28 rfl ?_
        refine j_iconst S 1 dX4_runStarts_29 (by decide) ?_
        refine j_ishl S (shl x 1) dX4_runStarts_30 rfl ?_
        refine j_iconst S (-1) dX4_runStarts_31 (by decide) ?_
        refine j_ixor S ((shl x 1) ^^^ (-1)) dX4_runStarts_32 rfl ?_
        refine j_iand S ((follow x k) &&& ((shl x 1) ^^^ (-1))) dX4_runStarts_33 rfl ?_
        exact j_ireturn S hRT hXA hQ hXk hXn dX4_runStarts_34 rfl (by rw [fin, ← hk]; rfl) (fun H h => h)
      · skip
        rw [nI_leI hm (by omega)] at h
        refine j_iload_n S dX4_runStarts_9 rfl ?_
        refine j_bipush S 32 dX4_runStarts_10 (by decide) ?_
        refine j_icmp_ge S 27 dX4_runStarts_12 (by decide) (fun _ => ?_) (fun h9 => absurd (by rw [nI32, nI_leI (by omega) (by omega)]; omega) h9)
        refine j_iload_n S dX4_runStarts_27 rfl ?_
        refine j_iload_n S dX4_runStarts_28 rfl ?_
        refine j_iconst S 1 dX4_runStarts_29 (by decide) ?_
        refine j_ishl S (shl x 1) dX4_runStarts_30 rfl ?_
        refine j_iconst S (-1) dX4_runStarts_31 (by decide) ?_
        refine j_ixor S ((shl x 1) ^^^ (-1)) dX4_runStarts_32 rfl ?_
        refine j_iand S ((follow x k) &&& ((shl x 1) ^^^ (-1))) dX4_runStarts_33 rfl ?_
        exact j_ireturn S hRT hXA hQ hXk hXn dX4_runStarts_34 rfl (by rw [fin, ← hk]; rfl) (fun H h => h)
    | succ f ih =>
      intro k hk
      refine j_iload_n S dX4_runStarts_4 rfl ?_
      refine j_iload_n S dX4_runStarts_5 rfl ?_
      refine j_icmp_ge S 27 dX4_runStarts_6 (by decide) (fun h9 => absurd h9 (by rw [nI_leI hm (by omega)]; omega)) (fun _ => ?_)
      refine j_iload_n S dX4_runStarts_9 rfl ?_
      refine j_bipush S 32 dX4_runStarts_10 (by decide) ?_
      refine j_icmp_ge S 27 dX4_runStarts_12 (by decide) (fun h9 => absurd h9 (by rw [nI32, nI_leI (by omega) (by omega)]; omega)) (fun _ => ?_)
      refine j_iload_n S dX4_runStarts_15 rfl ?_
      refine j_iload_n S dX4_runStarts_16 rfl ?_
      refine j_iload_n S dX4_runStarts_17 rfl ?_
      refine j_iushr S (ush x (nI (k + 1))) dX4_runStarts_18 rfl ?_
      refine j_iand S (follow x (k + 1)) dX4_runStarts_19 rfl ?_
      refine j_istore_n S [some (.int x), some (.int (nI m)), some (.int (follow x (k + 1))), some (.int (nI (k + 1)))] dX4_runStarts_20 (by decide) rfl rfl ?_
      refine j_iinc S (nI (k + 1 + 1)) [some (.int x), some (.int (nI m)), some (.int (follow x (k + 1))), some (.int (nI (k + 1 + 1)))] dX4_runStarts_21 rfl (nI_1 (k + 1)) (by decide) rfl rfl ?_
      refine j_goto S 4 dX4_runStarts_24 (by decide) ?_
      exact ih (k + 1) (by omega)
  refine j_iload_n S dX4_runStarts_0 rfl ?_
  refine j_istore_n S [some (.int x), some (.int (nI m)), some (.int x), none] dX4_runStarts_1 (by decide) rfl rfl ?_
  refine j_iconst S 1 dX4_runStarts_2 (by decide) ?_
  refine j_istore_n S [some (.int x), some (.int (nI m)), some (.int x), some (.int 1)] dX4_runStarts_3 (by decide) rfl rfl ?_
  exact loop (min m 32 - 1) 0 (by omega)

set_option maxRecDepth 100000 in
set_option maxHeartbeats 4000000 in
theorem k_X4_longestRun (l : Launch) (Z : Zx) (A : Nat → Prop) (hA : AdOk Z A) (σ : St) (x0 : Int32) : Km l Z A yX4_longestRun wsX4_longestRun { frames := 0, cells := 0, slots := 0, locals := 0 } (Wd Z σ) [.int x0] (Qi (Wd Z σ) A (fun v => v = lrunI x0)) := by
  refine Km.of (cc := cX4_longestRun) (maxL := 3) (ret := (some .int)) (by decide) rfl (Nat.le_of_ble_eq_true rfl) hA ?_
  intro X hXl S hAX hRT hXA hQ hXk hXn
  show J X 3 (Wd Z σ) 0 [some (.int x0), none, none] []
  have loop : ∀ (f k : Nat) (y : Int32), k + f = 32 → lrunI x0 = nI (k + lrF f y) → J X 3 (Wd Z σ) 4 [some (.int x0), some (.int y), some (.int (nI k))] [] := by
    intro f
    induction f with
    | zero =>
      intro k y hk he
      refine j_iload_n S dX4_longestRun_4 rfl ?_
      refine j_if_eq S 26 dX4_longestRun_5 (by decide) (fun h => ?_) (fun h => ?_)
      · skip
        refine j_iload_n S dX4_longestRun_26 rfl ?_
        exact j_ireturn S hRT hXA hQ hXk hXn dX4_longestRun_27 rfl (by rw [he]; rfl) (fun H h => h)
      · skip
        refine j_iload_n S dX4_longestRun_8 rfl ?_
        refine j_bipush S 32 dX4_longestRun_9 (by decide) ?_
        refine j_icmp_ge S 26 dX4_longestRun_11 (by decide) (fun _ => ?_) (fun h9 => absurd (by rw [nI32, nI_leI (by omega) (by omega)]; omega) h9)
        refine j_iload_n S dX4_longestRun_26 rfl ?_
        exact j_ireturn S hRT hXA hQ hXk hXn dX4_longestRun_27 rfl (by rw [he]; rfl) (fun H h => h)
    | succ f ih =>
      intro k y hk he
      refine j_iload_n S dX4_longestRun_4 rfl ?_
      refine j_if_eq S 26 dX4_longestRun_5 (by decide) (fun h => ?_) (fun h => ?_)
      · skip
        refine j_iload_n S dX4_longestRun_26 rfl ?_
        exact j_ireturn S hRT hXA hQ hXk hXn dX4_longestRun_27 rfl (by rw [he, lrF, if_pos h]; rfl) (fun H h => h)
      · skip
        refine j_iload_n S dX4_longestRun_8 rfl ?_
        refine j_bipush S 32 dX4_longestRun_9 (by decide) ?_
        refine j_icmp_ge S 26 dX4_longestRun_11 (by decide) (fun h9 => absurd h9 (by rw [nI32, nI_leI (by omega) (by omega)]; omega)) (fun _ => ?_)
        refine j_iload_n S dX4_longestRun_14 rfl ?_
        refine j_iload_n S dX4_longestRun_15 rfl ?_
        refine j_iconst S 1 dX4_longestRun_16 (by decide) ?_
        refine j_iushr S (ush y 1) dX4_longestRun_17 rfl ?_
        refine j_iand S (y &&& (ush y 1)) dX4_longestRun_18 rfl ?_
        refine j_istore_n S [some (.int x0), some (.int (y &&& (ush y 1))), some (.int (nI k))] dX4_longestRun_19 (by decide) rfl rfl ?_
        refine j_iinc S (nI (k + 1)) [some (.int x0), some (.int (y &&& (ush y 1))), some (.int (nI (k + 1)))] dX4_longestRun_20 rfl (nI_1 k) (by decide) rfl rfl ?_
        refine j_goto S 4 dX4_longestRun_23 (by decide) ?_
        exact ih (k + 1) _ (by omega) (by rw [he, lrF, if_neg h, Nat.add_assoc, Nat.add_comm 1])
  refine j_iload_n S dX4_longestRun_0 rfl ?_
  refine j_istore_n S [some (.int x0), some (.int x0), none] dX4_longestRun_1 (by decide) rfl rfl ?_
  refine j_iconst S 0 dX4_longestRun_2 (by decide) ?_
  refine j_istore_n S [some (.int x0), some (.int x0), some (.int 0)] dX4_longestRun_3 (by decide) rfl rfl ?_
  exact loop 32 0 x0 rfl (by rw [Nat.zero_add]; rfl)

set_option maxRecDepth 100000 in
set_option maxHeartbeats 4000000 in
theorem k_X4_runAround (l : Launch) (Z : Zx) (A : Nat → Prop) (hA : AdOk Z A) (σ : St) (x : Int32) (k : Nat) (hk32 : k < 32) : Km l Z A yX4_runAround wsX4_runAround { frames := 1, cells := 0, slots := 0, locals := 21 } (Wd Z σ) [.int x, .int (nI k)] (Qi (Wd Z σ) A (fun v => v = aroundI x k)) := by
  refine Km.of (cc := cX4_runAround) (maxL := 4) (ret := (some .int)) (by decide) rfl (Nat.le_of_ble_eq_true rfl) hA ?_
  intro X hXl S hAX hRT hXA hQ hXk hXn
  show J X 4 (Wd Z σ) 0 [some (.int x), some (.int (nI k)), none, none] []
  have loop2 : ∀ (j c : Nat) (i : Int32), j ≤ 32 → (j = 0 → i < 0) → (∀ n, j = n + 1 → i = nI n) → aroundI x k = nI (c + downF x j) → J X 4 (Wd Z σ) 31 [some (.int x), some (.int (nI k)), some (.int (nI c)), some (.int i)] [] := by
    intro j
    induction j with
    | zero =>
      intro c i hj h0 h1 he
      refine j_iload_n S dX4_runAround_31 rfl ?_
      refine j_if_lt S 52 dX4_runAround_32 (by decide) (fun _ => ?_) (fun h9 => absurd (h0 rfl) h9)
      refine j_iload_n S dX4_runAround_52 rfl ?_
      exact j_ireturn S hRT hXA hQ hXk hXn dX4_runAround_53 rfl he.symm (fun H h => h)
    | succ j ih =>
      intro c i hj h0 h1 he
      obtain rfl := h1 j rfl
      refine j_iload_n S dX4_runAround_31 rfl ?_
      refine j_if_lt S 52 dX4_runAround_32 (by decide) (fun h9 => absurd h9 (nI_pos (by omega))) (fun _ => ?_)
      refine j_iload_n S dX4_runAround_35 rfl ?_
      refine j_iload_n S dX4_runAround_36 rfl ?_
      refine j_cSi S (n := 2) (rest := []) (k_X4_hasBit X.l Z X.A hAX σ x (nI j)) ⟨_, _, _, _, rfl, gX4_runAround_X4_hasBit, rfl, rfl, by decide +kernel, ⟨Nat.le_of_ble_eq_true rfl, Nat.le_of_ble_eq_true rfl⟩⟩ rfl (Nat.le_of_ble_eq_true rfl) rfl dX4_runAround_37 (fun v9 hv9 => ?_)
      subst hv9
      refine j_if_eq S 52 dX4_runAround_40 (by decide) (fun h => ?_) (fun h => ?_)
      · skip
        refine j_iload_n S dX4_runAround_52 rfl ?_
        exact j_ireturn S hRT hXA hQ hXk hXn dX4_runAround_53 rfl (by rw [he, downF, if_neg (by rw [b2i_0.mp h]; decide)]; rfl) (fun H h => h)
      · skip
        refine j_iinc S (nI (c + 1)) [some (.int x), some (.int (nI k)), some (.int (nI (c + 1))), some (.int (nI j))] dX4_runAround_43 rfl (nI_1 c) (by decide) rfl rfl ?_
        refine j_iinc S (nI j + (-1)) [some (.int x), some (.int (nI k)), some (.int (nI (c + 1))), some (.int (nI j + (-1)))] dX4_runAround_46 rfl rfl (by decide) rfl rfl ?_
        refine j_goto S 31 dX4_runAround_49 (by decide) ?_
        exact ih (c + 1) _ (by omega) (fun e => by rw [e]; exact nI_0m) (fun n e => by rw [e]; exact pk_m1 n) (by rw [he, downF, if_pos (b2i_n0.mp h), Nat.add_assoc, Nat.add_comm 1])
  have mid : ∀ (c : Nat) (i : Int32), c = upF x (32 - k) k → J X 4 (Wd Z σ) 27 [some (.int x), some (.int (nI k)), some (.int (nI c)), some (.int i)] [] := by
    intro c i hc
    refine j_iload_n S dX4_runAround_27 rfl ?_
    refine j_iconst S 1 dX4_runAround_28 (by decide) ?_
    refine j_isub S ((nI k) - 1) dX4_runAround_29 rfl ?_
    refine j_istore_n S [some (.int x), some (.int (nI k)), some (.int (nI c)), some (.int ((nI k) - 1))] dX4_runAround_30 (by decide) rfl rfl ?_
    exact loop2 k c _ (by omega) (fun e => by rw [e]; exact nI_0s) (fun n e => by rw [e]; exact nI_pred n) (by rw [hc]; rfl)
  have loop : ∀ (f i c : Nat), i + f = 32 → upF x (32 - k) k = c + upF x f i → J X 4 (Wd Z σ) 4 [some (.int x), some (.int (nI k)), some (.int (nI c)), some (.int (nI i))] [] := by
    intro f
    induction f with
    | zero =>
      intro i c hi he
      refine j_iload_n S dX4_runAround_4 rfl ?_
      refine j_bipush S 32 dX4_runAround_5 (by decide) ?_
      refine j_icmp_ge S 27 dX4_runAround_7 (by decide) (fun _ => ?_) (fun h9 => absurd (by rw [nI32, nI_leI (by omega) (by omega)]; omega) h9)
      exact mid c _ he.symm
    | succ f ih =>
      intro i c hi he
      refine j_iload_n S dX4_runAround_4 rfl ?_
      refine j_bipush S 32 dX4_runAround_5 (by decide) ?_
      refine j_icmp_ge S 27 dX4_runAround_7 (by decide) (fun h9 => absurd h9 (by rw [nI32, nI_leI (by omega) (by omega)]; omega)) (fun _ => ?_)
      refine j_iload_n S dX4_runAround_10 rfl ?_
      refine j_iload_n S dX4_runAround_11 rfl ?_
      refine j_cSi S (n := 2) (rest := []) (k_X4_hasBit X.l Z X.A hAX σ x (nI i)) ⟨_, _, _, _, rfl, gX4_runAround_X4_hasBit, rfl, rfl, by decide +kernel, ⟨Nat.le_of_ble_eq_true rfl, Nat.le_of_ble_eq_true rfl⟩⟩ rfl (Nat.le_of_ble_eq_true rfl) rfl dX4_runAround_12 (fun v9 hv9 => ?_)
      subst hv9
      refine j_if_eq S 27 dX4_runAround_15 (by decide) (fun h => ?_) (fun h => ?_)
      · skip
        exact mid c _ (by rw [he, upF, if_neg (by rw [b2i_0.mp h]; decide)]; rfl)
      · skip
        refine j_iinc S (nI (c + 1)) [some (.int x), some (.int (nI k)), some (.int (nI (c + 1))), some (.int (nI i))] dX4_runAround_18 rfl (nI_1 c) (by decide) rfl rfl ?_
        refine j_iinc S (nI (i + 1)) [some (.int x), some (.int (nI k)), some (.int (nI (c + 1))), some (.int (nI (i + 1)))] dX4_runAround_21 rfl (nI_1 i) (by decide) rfl rfl ?_
        refine j_goto S 4 dX4_runAround_24 (by decide) ?_
        exact ih (i + 1) (c + 1) (by omega) (by rw [he, upF, if_pos (b2i_n0.mp h), Nat.add_assoc, Nat.add_comm 1])
  refine j_iconst S 0 dX4_runAround_0 (by decide) ?_
  refine j_istore_n S [some (.int x), some (.int (nI k)), some (.int 0), none] dX4_runAround_1 (by decide) rfl rfl ?_
  refine j_iload_n S dX4_runAround_2 rfl ?_
  refine j_istore_n S [some (.int x), some (.int (nI k)), some (.int 0), some (.int (nI k))] dX4_runAround_3 (by decide) rfl rfl ?_
  exact loop (32 - k) k 0 (by omega) (by rw [Nat.zero_add])
end
section
/-! LOOPS OVER A ROW -/
def addAllI (c : Nat) (l src : List Int32) : List Int32 := (l ++ src).take c
theorem addAllI_0 {c : Nat} {l src : List Int32} (h : l.length ≤ c) : addAllI c l (src.take 0) = l := by
  unfold addAllI
  rw [List.take_zero, List.append_nil, List.take_of_length_le h]
theorem addAllI_step {c i : Nat} {l src : List Int32} (h : i < src.length) : addI c (addAllI c l (src.take i)) (src.getD i 0) = addAllI c l (src.take (i + 1)) := by
  unfold addAllI addI
  have e : src.take (i + 1) = src.take i ++ [src.getD i 0] := by
    rw [List.take_succ_eq_append_getElem h, List.getD_eq_getElem?_getD, List.getElem?_eq_getElem h]
    rfl
  rw [e, ← List.append_assoc]
  generalize l ++ src.take i = a
  generalize src.getD i 0 = x
  by_cases h1 : a.length < c
  · rw [List.take_of_length_le (by omega), if_pos h1, List.take_of_length_le (by simp; omega)]
  · rw [if_neg (by rw [List.length_take]; omega), List.take_append_of_le_length (by omega)]
theorem addAllI_len (c : Nat) (l src : List Int32) : (addAllI c l src).length ≤ c := by
  unfold addAllI
  rw [List.length_take]
  omega
def hasPer (l : List Int32) (p : Nat) : Bool := allF (fun i => l.getD i 0 == l.getD (i - p) 0) (l.length - p) p
def periodI (l : List Int32) : Int32 := findI (fun p => hasPer l p) (nI l.length) (l.length - 1) 1
def firstPl (l : List Int32) (v : Int32) : Int32 := findI (fun i => l.getD i 0 == v) (-1) l.length 0
def distinctI (l : List Int32) : Int32 := foldN (fun a i => if firstPl l (l.getD i 0) = nI i then a + 1 else a) l.length
/-- java.lang.Integer.bitCount -/
def bitC1 (x : Int32) : Int32 := x - (ush x 1 &&& 1431655765)
def bitC2 (x : Int32) : Int32 := (x &&& 858993459) + (ush x 2 &&& 858993459)
def bitC3 (x : Int32) : Int32 := (x + ush x 4) &&& 252645135
def bitC4 (x : Int32) : Int32 := x + ush x 8
def bitC5 (x : Int32) : Int32 := x + ush x 16
def bitC (x : Int32) : Int32 := bitC5 (bitC4 (bitC3 (bitC2 (bitC1 x)))) &&& 63
def countBitsI (l : List Int32) : Int32 := foldN (fun a i => a + bitC (l.getD i 0)) l.length
def countRunsI (l : List Int32) (m : Nat) : Int32 := foldN (fun a i => a + bitC (runS (l.getD i 0) m)) l.length
def firstRunI (l : List Int32) (m : Nat) : Int32 := findI (fun i => !(runS (l.getD i 0) m == 0)) (-1) l.length 0
def longestI (l : List Int32) : Int32 := foldN (fun a i => if a < lrunI (l.getD i 0) then lrunI (l.getD i 0) else a) l.length
/-- the order turned round from k on: two ends swapped, t times -/
def turnN (l : List Int32) (k : Nat) : Nat → List Int32
  | 0 => l
  | t + 1 => ((turnN l k t).set (k + t) ((turnN l k t).getD (l.length - 1 - t) 0)).set (l.length - 1 - t) ((turnN l k t).getD (k + t) 0)
def turnI (l : List Int32) (k : Nat) : List Int32 := turnN l k ((l.length - k) / 2)
theorem turnN_len (l : List Int32) (k : Nat) : ∀ t, (turnN l k t).length = l.length
  | 0 => rfl
  | t + 1 => by rw [turnN, List.length_set, List.length_set, turnN_len l k t]
theorem turn_exit {n k t : Nat} {y : Int32} (hn : n < 2 ^ 31) (hk : k < 2 ^ 30) (ht : t = (n - k) / 2) (hy : t < n → y = nI (n - 1 - t)) (hy0 : n ≤ t → y < 0) : y ≤ nI (k + t) := by
  rcases Nat.lt_or_ge t n with q | q
  · rw [hy q, nI_leI (by omega) (by omega)]
    omega
  · exact Int32.le_of_lt (Int32.lt_of_lt_of_le (hy0 q) (nI_pos' (by omega)))
end
section
set_option maxRecDepth 100000 in
set_option maxHeartbeats 4000000 in
/-- all numbers of another row more -/
theorem k_X3_addAll (l : Launch) (Z : Zx) (A : Nat → Prop) (hA : AdOk Z A) (σ : St) (r q : Nat) (hr : r < 30) (hq : q < 30) (hne : r ≠ q) : Km l Z A yX3_addAll wsX3_addAll { frames := 1, cells := 0, slots := 0, locals := 21 } (Wd Z σ) [.ref (Z.ad (ro r)), .ref (Z.ad (ro q))] (Qv (Wd Z (σ.setRow r (addAllI (cap r) (σ.row r) (σ.row q)))) A) := by
  refine Km.of (cc := cX3_addAll) (maxL := 3) (ret := none) (by decide) rfl (Nat.le_of_ble_eq_true rfl) hA ?_
  intro X hXl S hAX hRT hXA hQ hXk hXn
  show J X 3 (Wd Z σ) 0 [some (.ref (Z.ad (ro r))), some (.ref (Z.ad (ro q))), none] []
  refine J.caps (fun hcap => ?_)
  have hln : (σ.row r).length < 2 ^ 31 := Nat.lt_of_le_of_lt (hcap r (by omega)) (cap_lt r)
  have hln_q : (σ.row q).length < 2 ^ 31 := Nat.lt_of_le_of_lt (hcap q (by omega)) (cap_lt q)
  have hcr := hcap r hr
  have loop : ∀ (f i : Nat) (σ1 : St), i + f = (σ.row q).length → σ1 = σ.setRow r (addAllI (cap r) (σ.row r) ((σ.row q).take i)) → J X 3 (Wd Z σ1) 2 [some (.ref (Z.ad (ro r))), some (.ref (Z.ad (ro q))), some (.int (nI i))] [] := by
    intro f
    induction f with
    | zero =>
      intro i σ1 hi he
      have hq1 : σ1.row q = σ.row q := by rw [he, St.row_ne _ _ (Ne.symm hne)]
      refine j_iload_n S dX3_addAll_2 rfl ?_
      refine j_aload_n S dX3_addAll_3 rfl ?_
      refine j_get S (C := RX3) (T := TX3) (N := 2) (by decide +kernel) (rd_row (by omega)) rfl (v := .int (nI (σ1.row q).length)) 1 (by decide) (by decide +kernel) rfl rfl dX3_addAll_4 ?_
      rw [hq1]
      refine j_icmp_ge S 25 dX3_addAll_7 (by decide) (fun _ => ?_) (fun h9 => absurd (by rw [nI_leI hln_q (by omega)]; omega) h9)
      exact j_return S hRT hXA hQ hXk hXn dX3_addAll_25 (fun H h => by rw [he, show i = (σ.row q).length by omega, List.take_length] at h; exact h)
    | succ f ih =>
      intro i σ1 hi he
      have hq1 : σ1.row q = σ.row q := by rw [he, St.row_ne _ _ (Ne.symm hne)]
      have hr1 : σ1.row r = addAllI (cap r) (σ.row r) ((σ.row q).take i) := by rw [he, St.row_self]
      refine j_iload_n S dX3_addAll_2 rfl ?_
      refine j_aload_n S dX3_addAll_3 rfl ?_
      refine j_get S (C := RX3) (T := TX3) (N := 2) (by decide +kernel) (rd_row (by omega)) rfl (v := .int (nI (σ1.row q).length)) 1 (by decide) (by decide +kernel) rfl rfl dX3_addAll_4 ?_
      rw [hq1]
      refine j_icmp_ge S 25 dX3_addAll_7 (by decide) (fun h9 => absurd h9 (by rw [nI_leI hln_q (by omega)]; omega)) (fun _ => ?_)
      refine j_aload_n S dX3_addAll_10 rfl ?_
      refine j_aload_n S dX3_addAll_11 rfl ?_
      refine j_iload_n S dX3_addAll_12 rfl ?_
      refine j_cVi S (n := 1) (rest := [.ref (Z.ad (ro r))]) (k_X3_at X.l Z X.A hAX σ1 q (by omega) (nI i)) ⟨_, _, _, _, rfl, gX3_addAll_X3_at, rfl, rfl, by decide +kernel, ⟨Nat.le_of_ble_eq_true rfl, Nat.le_of_ble_eq_true rfl⟩⟩ (rd_row (by omega)) rfl rfl (Nat.le_of_ble_eq_true rfl) rfl dX3_addAll_13 (fun v9 hv9 => ?_)
      subst hv9
      refine j_cVv S (n := 1) (rest := []) (k_X3_add X.l Z X.A hAX σ1 r (by omega) (atI (σ1.row q) (nI i))) ⟨_, _, _, _, rfl, gX3_addAll_X3_add, rfl, rfl, by decide +kernel, ⟨Nat.le_of_ble_eq_true rfl, Nat.le_of_ble_eq_true rfl⟩⟩ (rd_row (by omega)) rfl rfl (Nat.le_of_ble_eq_true rfl) rfl dX3_addAll_16 ?_
      refine j_iinc S (nI (i + 1)) [some (.ref (Z.ad (ro r))), some (.ref (Z.ad (ro q))), some (.int (nI (i + 1)))] dX3_addAll_19 rfl (nI_1 i) (by decide) rfl rfl ?_
      refine j_goto S 2 dX3_addAll_22 (by decide) ?_
      refine ih (i + 1) _ (by omega) ?_
      rw [hq1, hr1, atI_nI _ (by omega), addAllI_step (by omega), he, St.setRow_twice]
  refine j_iconst S 0 dX3_addAll_0 (by decide) ?_
  refine j_istore_n S [some (.ref (Z.ad (ro r))), some (.ref (Z.ad (ro q))), some (.int 0)] dX3_addAll_1 (by decide) rfl rfl ?_
  exact loop (σ.row q).length 0 σ (by omega) (by rw [addAllI_0 hcr, St.setRow_same])

set_option maxRecDepth 100000 in
set_option maxHeartbeats 4000000 in
/-- the numbers of another row -/
theorem k_X3_copyFrom (l : Launch) (Z : Zx) (A : Nat → Prop) (hA : AdOk Z A) (σ : St) (r q : Nat) (hr : r < 30) (hq : q < 30) (hne : r ≠ q) : Km l Z A yX3_copyFrom wsX3_copyFrom { frames := 2, cells := 0, slots := 0, locals := 43 } (Wd Z σ) [.ref (Z.ad (ro r)), .ref (Z.ad (ro q))] (Qv (Wd Z (σ.setRow r (addAllI (cap r) [] (σ.row q)))) A) := by
  refine Km.of (cc := cX3_copyFrom) (maxL := 2) (ret := none) (by decide) rfl (Nat.le_of_ble_eq_true rfl) hA ?_
  intro X hXl S hAX hRT hXA hQ hXk hXn
  show J X 2 (Wd Z σ) 0 [some (.ref (Z.ad (ro r))), some (.ref (Z.ad (ro q)))] []
  refine j_aload_n S dX3_copyFrom_0 rfl ?_
  refine j_cVv S (n := 0) (rest := []) (k_X3_clear X.l Z X.A hAX σ r (by omega)) ⟨_, _, _, _, rfl, gX3_copyFrom_X3_clear, rfl, rfl, by decide +kernel, ⟨Nat.le_of_ble_eq_true rfl, Nat.le_of_ble_eq_true rfl⟩⟩ (rd_row (by omega)) rfl rfl (Nat.le_of_ble_eq_true rfl) rfl dX3_copyFrom_1 ?_
  refine j_aload_n S dX3_copyFrom_4 rfl ?_
  refine j_aload_n S dX3_copyFrom_5 rfl ?_
  refine j_cVv S (n := 1) (rest := []) (k_X3_addAll X.l Z X.A hAX (σ.setRow r []) r q (by omega) (by omega) (by omega)) ⟨_, _, _, _, rfl, gX3_copyFrom_X3_addAll, rfl, rfl, by decide +kernel, ⟨Nat.le_of_ble_eq_true rfl, Nat.le_of_ble_eq_true rfl⟩⟩ (rd_row (by omega)) rfl rfl (Nat.le_of_ble_eq_true rfl) rfl dX3_copyFrom_6 ?_
  exact j_return S hRT hXA hQ hXk hXn dX3_copyFrom_9 (fun H h => by rw [St.row_self, St.row_ne _ _ (Ne.symm hne), St.setRow_twice] at h; exact h)

set_option maxRecDepth 100000 in
set_option maxHeartbeats 4000000 in
theorem k_X3_atRound (l : Launch) (Z : Zx) (A : Nat → Prop) (hA : AdOk Z A) (σ : St) (r : Nat) (hr : r < 30) (k : Nat) (hk31 : k < 2 ^ 31) : Km l Z A yX3_atRound wsX3_atRound { frames := 1, cells := 0, slots := 0, locals := 21 } (Wd Z σ) [.ref (Z.ad (ro r)), .int (nI k)] (Qi (Wd Z σ) A (fun v => v = (σ.row r).getD (k % (σ.row r).length) 0)) := by
  refine Km.of (cc := cX3_atRound) (maxL := 2) (ret := (some .int)) (by decide) rfl (Nat.le_of_ble_eq_true rfl) hA ?_
  intro X hXl S hAX hRT hXA hQ hXk hXn
  show J X 2 (Wd Z σ) 0 [some (.ref (Z.ad (ro r))), some (.int (nI k))] []
  refine J.caps (fun hcap => ?_)
  have hln : (σ.row r).length < 2 ^ 31 := Nat.lt_of_le_of_lt (hcap r (by omega)) (cap_lt r)
  refine j_aload_n S dX3_atRound_0 rfl ?_
  refine j_get S (C := RX3) (T := TX3) (N := 2) (by decide +kernel) (rd_row (by omega)) rfl (v := .int (nI (σ.row r).length)) 1 (by decide) (by decide +kernel) rfl rfl dX3_atRound_1 ?_
  refine j_if_le S 20 dX3_atRound_4 (by decide) (fun h => ?_) (fun h => ?_)
  · skip
    have h0 : (σ.row r).length = 0 := by rw [← nI_0, nI_leI hln (by omega)] at h; omega
    refine j_iconst S 0 dX3_atRound_20 (by decide) ?_
    exact j_ireturn S hRT hXA hQ hXk hXn dX3_atRound_21 rfl (by rw [getD_out (by omega)]) (fun H h => h)
  · skip
    have h0 : 0 < (σ.row r).length := by rw [← nI_0, nI_leI hln (by omega)] at h; omega
    refine j_aload_n S dX3_atRound_7 rfl ?_
    refine j_iload_n S dX3_atRound_8 rfl ?_
    refine j_aload_n S dX3_atRound_9 rfl ?_
    refine j_get S (C := RX3) (T := TX3) (N := 2) (by decide +kernel) (rd_row (by omega)) rfl (v := .int (nI (σ.row r).length)) 1 (by decide) (by decide +kernel) rfl rfl dX3_atRound_10 ?_
    refine j_irem S (nI (k % (σ.row r).length)) dX3_atRound_13 (nI_ne0 h0 hln) (pk_rem hk31 h0 hln) ?_
    refine j_cVi S (n := 1) (rest := []) (k_X3_at X.l Z X.A hAX σ r (by omega) (nI (k % (σ.row r).length))) ⟨_, _, _, _, rfl, gX3_atRound_X3_at, rfl, rfl, by decide +kernel, ⟨Nat.le_of_ble_eq_true rfl, Nat.le_of_ble_eq_true rfl⟩⟩ (rd_row (by omega)) rfl rfl (Nat.le_of_ble_eq_true rfl) rfl dX3_atRound_14 (fun v9 hv9 => ?_)
    subst hv9
    refine j_goto S 21 dX3_atRound_17 (by decide) ?_
    exact j_ireturn S hRT hXA hQ hXk hXn dX3_atRound_21 rfl (atI_nI _ (Nat.lt_of_le_of_lt (Nat.mod_le _ _) hk31)) (fun H h => h)

set_option maxRecDepth 100000 in
set_option maxHeartbeats 4000000 in
theorem k_X3_last (l : Launch) (Z : Zx) (A : Nat → Prop) (hA : AdOk Z A) (σ : St) (r : Nat) (hr : r < 30) : Km l Z A yX3_last wsX3_last { frames := 1, cells := 0, slots := 0, locals := 21 } (Wd Z σ) [.ref (Z.ad (ro r))] (Qi (Wd Z σ) A (fun v => v = (σ.row r).getD ((σ.row r).length - 1) 0)) := by
  refine Km.of (cc := cX3_last) (maxL := 1) (ret := (some .int)) (by decide) rfl (Nat.le_of_ble_eq_true rfl) hA ?_
  intro X hXl S hAX hRT hXA hQ hXk hXn
  show J X 1 (Wd Z σ) 0 [some (.ref (Z.ad (ro r)))] []
  refine J.caps (fun hcap => ?_)
  have hln : (σ.row r).length < 2 ^ 31 := Nat.lt_of_le_of_lt (hcap r (by omega)) (cap_lt r)
  refine j_aload_n S dX3_last_0 rfl ?_
  refine j_aload_n S dX3_last_1 rfl ?_
  refine j_get S (C := RX3) (T := TX3) (N := 2) (by decide +kernel) (rd_row (by omega)) rfl (v := .int (nI (σ.row r).length)) 1 (by decide) (by decide +kernel) rfl rfl dX3_last_2 ?_
  refine j_iconst S 1 dX3_last_5 (by decide) ?_
  refine j_isub S ((nI (σ.row r).length) - 1) dX3_last_6 rfl ?_
  refine j_cVi S (n := 1) (rest := []) (k_X3_at X.l Z X.A hAX σ r (by omega) ((nI (σ.row r).length) - 1)) ⟨_, _, _, _, rfl, gX3_last_X3_at, rfl, rfl, by decide +kernel, ⟨Nat.le_of_ble_eq_true rfl, Nat.le_of_ble_eq_true rfl⟩⟩ (rd_row (by omega)) rfl rfl (Nat.le_of_ble_eq_true rfl) rfl dX3_last_7 (fun v9 hv9 => ?_)
  subst hv9
  exact j_ireturn S hRT hXA hQ hXk hXn dX3_last_10 rfl (by cases h0 : σ.row r with | nil => decide | cons a t => rw [List.length_cons, nI_pred, atI_nI _ (by rw [h0, List.length_cons] at hln; omega)]; rfl) (fun H h => h)

set_option maxRecDepth 100000 in
set_option maxHeartbeats 4000000 in
theorem k_X3_hasPeriod (l : Launch) (Z : Zx) (A : Nat → Prop) (hA : AdOk Z A) (σ : St) (r : Nat) (hr : r < 30) (p : Nat) (hp : p < 2 ^ 31) : Km l Z A yX3_hasPeriod wsX3_hasPeriod { frames := 1, cells := 0, slots := 0, locals := 21 } (Wd Z σ) [.ref (Z.ad (ro r)), .int (nI p)] (Qi (Wd Z σ) A (fun v => v = b2i (hasPer (σ.row r) p))) := by
  refine Km.of (cc := cX3_hasPeriod) (maxL := 3) (ret := (some .boolean)) (by decide) rfl (Nat.le_of_ble_eq_true rfl) hA ?_
  intro X hXl S hAX hRT hXA hQ hXk hXn
  show J X 3 (Wd Z σ) 0 [some (.ref (Z.ad (ro r))), some (.int (nI p)), none] []
  refine J.caps (fun hcap => ?_)
  have hln : (σ.row r).length < 2 ^ 31 := Nat.lt_of_le_of_lt (hcap r (by omega)) (cap_lt r)
  have loop : ∀ (f i : Nat), i + f = p + ((σ.row r).length - p) → p ≤ i → hasPer (σ.row r) p = allF (fun i => (σ.row r).getD i 0 == (σ.row r).getD (i - p) 0) f i → J X 3 (Wd Z σ) 2 [some (.ref (Z.ad (ro r))), some (.int (nI p)), some (.int (nI i))] [] := by
    intro f
    induction f with
    | zero =>
      intro i hi hpi he
      refine j_iload_n S dX3_hasPeriod_2 rfl ?_
      refine j_aload_n S dX3_hasPeriod_3 rfl ?_
      refine j_get S (C := RX3) (T := TX3) (N := 2) (by decide +kernel) (rd_row (by omega)) rfl (v := .int (nI (σ.row r).length)) 1 (by decide) (by decide +kernel) rfl rfl dX3_hasPeriod_4 ?_
      refine j_icmp_ge S 33 dX3_hasPeriod_7 (by decide) (fun _ => ?_) (fun h9 => absurd (by rw [nI_leI hln (by omega)]; omega) h9)
      refine j_iconst S 1 dX3_hasPeriod_33 (by decide) ?_
      exact j_ireturn S hRT hXA hQ hXk hXn dX3_hasPeriod_34 rfl (by rw [he]; rfl) (fun H h => h)
    | succ f ih =>
      intro i hi hpi he
      refine j_iload_n S dX3_hasPeriod_2 rfl ?_
      refine j_aload_n S dX3_hasPeriod_3 rfl ?_
      refine j_get S (C := RX3) (T := TX3) (N := 2) (by decide +kernel) (rd_row (by omega)) rfl (v := .int (nI (σ.row r).length)) 1 (by decide) (by decide +kernel) rfl rfl dX3_hasPeriod_4 ?_
      refine j_icmp_ge S 33 dX3_hasPeriod_7 (by decide) (fun h9 => absurd h9 (by rw [nI_leI hln (by omega)]; omega)) (fun _ => ?_)
      refine j_aload_n S dX3_hasPeriod_10 rfl ?_
      refine j_iload_n S dX3_hasPeriod_11 rfl ?_
      refine j_cVi S (n := 1) (rest := []) (k_X3_at X.l Z X.A hAX σ r (by omega) (nI i)) ⟨_, _, _, _, rfl, gX3_hasPeriod_X3_at, rfl, rfl, by decide +kernel, ⟨Nat.le_of_ble_eq_true rfl, Nat.le_of_ble_eq_true rfl⟩⟩ (rd_row (by omega)) rfl rfl (Nat.le_of_ble_eq_true rfl) rfl dX3_hasPeriod_12 (fun v9 hv9 => ?_)
      subst hv9
      refine j_aload_n S dX3_hasPeriod_15 rfl ?_
      refine j_iload_n S dX3_hasPeriod_16 rfl ?_
      refine j_iload_n S dX3_hasPeriod_17 rfl ?_
      refine j_isub S (nI (i - p)) dX3_hasPeriod_18 (pk_sub hpi) ?_
      refine j_cVi S (n := 1) (rest := [.int (atI (σ.row r) (nI i))]) (k_X3_at X.l Z X.A hAX σ r (by omega) (nI (i - p))) ⟨_, _, _, _, rfl, gX3_hasPeriod_X3_at, rfl, rfl, by decide +kernel, ⟨Nat.le_of_ble_eq_true rfl, Nat.le_of_ble_eq_true rfl⟩⟩ (rd_row (by omega)) rfl rfl (Nat.le_of_ble_eq_true rfl) rfl dX3_hasPeriod_19 (fun v9 hv9 => ?_)
      subst hv9
      rw [atI_nI _ (by omega), atI_nI _ (by omega)]
      refine j_icmp_eq S 27 dX3_hasPeriod_22 (by decide) (fun h => ?_) (fun h => ?_)
      · skip
        refine j_iinc S (nI (i + 1)) [some (.ref (Z.ad (ro r))), some (.int (nI p)), some (.int (nI (i + 1)))] dX3_hasPeriod_27 rfl (nI_1 i) (by decide) rfl rfl ?_
        refine j_goto S 2 dX3_hasPeriod_30 (by decide) ?_
        exact ih (i + 1) (by omega) (by omega) (by rw [he, allF, beq_iff_eq.mpr h]; rfl)
      · skip
        refine j_iconst S 0 dX3_hasPeriod_25 (by decide) ?_
        exact j_ireturn S hRT hXA hQ hXk hXn dX3_hasPeriod_26 rfl (by rw [he, allF, beq_eq_false_iff_ne.mpr h]; rfl) (fun H h => h)
  refine j_iload_n S dX3_hasPeriod_0 rfl ?_
  refine j_istore_n S [some (.ref (Z.ad (ro r))), some (.int (nI p)), some (.int (nI p))] dX3_hasPeriod_1 (by decide) rfl rfl ?_
  exact loop ((σ.row r).length - p) p (by omega) (Nat.le_refl _) rfl

set_option maxRecDepth 100000 in
set_option maxHeartbeats 4000000 in
theorem k_X3_leastPeriod (l : Launch) (Z : Zx) (A : Nat → Prop) (hA : AdOk Z A) (σ : St) (r : Nat) (hr : r < 30) : Km l Z A yX3_leastPeriod wsX3_leastPeriod { frames := 2, cells := 0, slots := 0, locals := 43 } (Wd Z σ) [.ref (Z.ad (ro r))] (Qi (Wd Z σ) A (fun v => v = periodI (σ.row r))) := by
  refine Km.of (cc := cX3_leastPeriod) (maxL := 2) (ret := (some .int)) (by decide) rfl (Nat.le_of_ble_eq_true rfl) hA ?_
  intro X hXl S hAX hRT hXA hQ hXk hXn
  show J X 2 (Wd Z σ) 0 [some (.ref (Z.ad (ro r))), none] []
  refine J.caps (fun hcap => ?_)
  have hln : (σ.row r).length < 2 ^ 31 := Nat.lt_of_le_of_lt (hcap r (by omega)) (cap_lt r)
  have loop : ∀ (f i : Nat), i + f = 1 + ((σ.row r).length - 1) → 1 ≤ i → periodI (σ.row r) = findI (fun p => hasPer (σ.row r) p) (nI (σ.row r).length) f i → J X 2 (Wd Z σ) 2 [some (.ref (Z.ad (ro r))), some (.int (nI i))] [] := by
    intro f
    induction f with
    | zero =>
      intro i hi h1i he
      refine j_iload_n S dX3_leastPeriod_2 rfl ?_
      refine j_aload_n S dX3_leastPeriod_3 rfl ?_
      refine j_get S (C := RX3) (T := TX3) (N := 2) (by decide +kernel) (rd_row (by omega)) rfl (v := .int (nI (σ.row r).length)) 1 (by decide) (by decide +kernel) rfl rfl dX3_leastPeriod_4 ?_
      refine j_icmp_ge S 26 dX3_leastPeriod_7 (by decide) (fun _ => ?_) (fun h9 => absurd (by rw [nI_leI hln (by omega)]; omega) h9)
      refine j_aload_n S dX3_leastPeriod_26 rfl ?_
      refine j_get S (C := RX3) (T := TX3) (N := 2) (by decide +kernel) (rd_row (by omega)) rfl (v := .int (nI (σ.row r).length)) 1 (by decide) (by decide +kernel) rfl rfl dX3_leastPeriod_27 ?_
      exact j_ireturn S hRT hXA hQ hXk hXn dX3_leastPeriod_30 rfl he.symm (fun H h => h)
    | succ f ih =>
      intro i hi h1i he
      refine j_iload_n S dX3_leastPeriod_2 rfl ?_
      refine j_aload_n S dX3_leastPeriod_3 rfl ?_
      refine j_get S (C := RX3) (T := TX3) (N := 2) (by decide +kernel) (rd_row (by omega)) rfl (v := .int (nI (σ.row r).length)) 1 (by decide) (by decide +kernel) rfl rfl dX3_leastPeriod_4 ?_
      refine j_icmp_ge S 26 dX3_leastPeriod_7 (by decide) (fun h9 => absurd h9 (by rw [nI_leI hln (by omega)]; omega)) (fun _ => ?_)
      refine j_aload_n S dX3_leastPeriod_10 rfl ?_
      refine j_iload_n S dX3_leastPeriod_11 rfl ?_
      refine j_cVi S (n := 1) (rest := []) (k_X3_hasPeriod X.l Z X.A hAX σ r (by omega) i (by omega)) ⟨_, _, _, _, rfl, gX3_leastPeriod_X3_hasPeriod, rfl, rfl, by decide +kernel, ⟨Nat.le_of_ble_eq_true rfl, Nat.le_of_ble_eq_true rfl⟩⟩ (rd_row (by omega)) rfl rfl (Nat.le_of_ble_eq_true rfl) rfl dX3_leastPeriod_12 (fun v9 hv9 => ?_)
      subst hv9
      refine j_if_eq S 20 dX3_leastPeriod_15 (by decide) (fun h => ?_) (fun h => ?_)
      · skip
        refine j_iinc S (nI (i + 1)) [some (.ref (Z.ad (ro r))), some (.int (nI (i + 1)))] dX3_leastPeriod_20 rfl (nI_1 i) (by decide) rfl rfl ?_
        refine j_goto S 2 dX3_leastPeriod_23 (by decide) ?_
        exact ih (i + 1) (by omega) (by omega) (by rw [he, findI, if_neg (by rw [b2i_0.mp h]; decide)])
      · skip
        refine j_iload_n S dX3_leastPeriod_18 rfl ?_
        exact j_ireturn S hRT hXA hQ hXk hXn dX3_leastPeriod_19 rfl (by rw [he, findI, if_pos (b2i_n0.mp h)]) (fun H h => h)
  refine j_iconst S 1 dX3_leastPeriod_0 (by decide) ?_
  refine j_istore_n S [some (.ref (Z.ad (ro r))), some (.int 1)] dX3_leastPeriod_1 (by decide) rfl rfl ?_
  exact loop ((σ.row r).length - 1) 1 (by omega) (Nat.le_refl _) rfl

set_option maxRecDepth 100000 in
set_option maxHeartbeats 4000000 in
theorem k_X3_firstPlaceOf (l : Launch) (Z : Zx) (A : Nat → Prop) (hA : AdOk Z A) (σ : St) (r : Nat) (hr : r < 30) (v : Int32) : Km l Z A yX3_firstPlaceOf wsX3_firstPlaceOf { frames := 1, cells := 0, slots := 0, locals := 21 } (Wd Z σ) [.ref (Z.ad (ro r)), .int v] (Qi (Wd Z σ) A (fun x => x = firstPl (σ.row r) v)) := by
  refine Km.of (cc := cX3_firstPlaceOf) (maxL := 3) (ret := (some .int)) (by decide) rfl (Nat.le_of_ble_eq_true rfl) hA ?_
  intro X hXl S hAX hRT hXA hQ hXk hXn
  show J X 3 (Wd Z σ) 0 [some (.ref (Z.ad (ro r))), some (.int v), none] []
  refine J.caps (fun hcap => ?_)
  have hln : (σ.row r).length < 2 ^ 31 := Nat.lt_of_le_of_lt (hcap r (by omega)) (cap_lt r)
  have loop : ∀ (f i : Nat), i + f = (σ.row r).length → firstPl (σ.row r) v = findI (fun i => (σ.row r).getD i 0 == v) (-1) f i → J X 3 (Wd Z σ) 2 [some (.ref (Z.ad (ro r))), some (.int v), some (.int (nI i))] [] := by
    intro f
    induction f with
    | zero =>
      intro i hi he
      refine j_iload_n S dX3_firstPlaceOf_2 rfl ?_
      refine j_aload_n S dX3_firstPlaceOf_3 rfl ?_
      refine j_get S (C := RX3) (T := TX3) (N := 2) (by decide +kernel) (rd_row (by omega)) rfl (v := .int (nI (σ.row r).length)) 1 (by decide) (by decide +kernel) rfl rfl dX3_firstPlaceOf_4 ?_
      refine j_icmp_ge S 27 dX3_firstPlaceOf_7 (by decide) (fun _ => ?_) (fun h9 => absurd (by rw [nI_leI hln (by omega)]; omega) h9)
      refine j_iconst S (-1) dX3_firstPlaceOf_27 (by decide) ?_
      exact j_ireturn S hRT hXA hQ hXk hXn dX3_firstPlaceOf_28 rfl he.symm (fun H h => h)
    | succ f ih =>
      intro i hi he
      refine j_iload_n S dX3_firstPlaceOf_2 rfl ?_
      refine j_aload_n S dX3_firstPlaceOf_3 rfl ?_
      refine j_get S (C := RX3) (T := TX3) (N := 2) (by decide +kernel) (rd_row (by omega)) rfl (v := .int (nI (σ.row r).length)) 1 (by decide) (by decide +kernel) rfl rfl dX3_firstPlaceOf_4 ?_
      refine j_icmp_ge S 27 dX3_firstPlaceOf_7 (by decide) (fun h9 => absurd h9 (by rw [nI_leI hln (by omega)]; omega)) (fun _ => ?_)
      refine j_aload_n S dX3_firstPlaceOf_10 rfl ?_
      refine j_iload_n S dX3_firstPlaceOf_11 rfl ?_
      refine j_cVi S (n := 1) (rest := []) (k_X3_at X.l Z X.A hAX σ r (by omega) (nI i)) ⟨_, _, _, _, rfl, gX3_firstPlaceOf_X3_at, rfl, rfl, by decide +kernel, ⟨Nat.le_of_ble_eq_true rfl, Nat.le_of_ble_eq_true rfl⟩⟩ (rd_row (by omega)) rfl rfl (Nat.le_of_ble_eq_true rfl) rfl dX3_firstPlaceOf_12 (fun v9 hv9 => ?_)
      subst hv9
      refine j_iload_n S dX3_firstPlaceOf_15 rfl ?_
      rw [atI_nI _ (by omega)]
      refine j_icmp_ne S 21 dX3_firstPlaceOf_16 (by decide) (fun h => ?_) (fun h => ?_)
      · skip
        refine j_iinc S (nI (i + 1)) [some (.ref (Z.ad (ro r))), some (.int v), some (.int (nI (i + 1)))] dX3_firstPlaceOf_21 rfl (nI_1 i) (by decide) rfl rfl ?_
        refine j_goto S 2 dX3_firstPlaceOf_24 (by decide) ?_
        exact ih (i + 1) (by omega) (by rw [he, findI, if_neg (by rw [beq_iff_eq]; exact h)])
      · skip
        refine j_iload_n S dX3_firstPlaceOf_19 rfl ?_
        exact j_ireturn S hRT hXA hQ hXk hXn dX3_firstPlaceOf_20 rfl (by rw [he, findI, if_pos (by rw [beq_iff_eq]; exact h)]) (fun H h => h)
  refine j_iconst S 0 dX3_firstPlaceOf_0 (by decide) ?_
  refine j_istore_n S [some (.ref (Z.ad (ro r))), some (.int v), some (.int 0)] dX3_firstPlaceOf_1 (by decide) rfl rfl ?_
  exact loop (σ.row r).length 0 (by omega) rfl

set_option maxRecDepth 100000 in
set_option maxHeartbeats 4000000 in
theorem k_X3_countDistinct (l : Launch) (Z : Zx) (A : Nat → Prop) (hA : AdOk Z A) (σ : St) (r : Nat) (hr : r < 30) : Km l Z A yX3_countDistinct wsX3_countDistinct { frames := 2, cells := 0, slots := 0, locals := 43 } (Wd Z σ) [.ref (Z.ad (ro r))] (Qi (Wd Z σ) A (fun v => v = distinctI (σ.row r))) := by
  refine Km.of (cc := cX3_countDistinct) (maxL := 3) (ret := (some .int)) (by decide) rfl (Nat.le_of_ble_eq_true rfl) hA ?_
  intro X hXl S hAX hRT hXA hQ hXk hXn
  show J X 3 (Wd Z σ) 0 [some (.ref (Z.ad (ro r))), none, none] []
  refine J.caps (fun hcap => ?_)
  have hln : (σ.row r).length < 2 ^ 31 := Nat.lt_of_le_of_lt (hcap r (by omega)) (cap_lt r)
  have loop : ∀ (f i : Nat), i + f = (σ.row r).length → J X 3 (Wd Z σ) 4 [some (.ref (Z.ad (ro r))), some (.int (foldN (fun a i => if firstPl (σ.row r) ((σ.row r).getD i 0) = nI i then a + 1 else a) i)), some (.int (nI i))] [] := by
    intro f
    induction f with
    | zero =>
      intro i hi
      refine j_iload_n S dX3_countDistinct_4 rfl ?_
      refine j_aload_n S dX3_countDistinct_5 rfl ?_
      refine j_get S (C := RX3) (T := TX3) (N := 2) (by decide +kernel) (rd_row (by omega)) rfl (v := .int (nI (σ.row r).length)) 1 (by decide) (by decide +kernel) rfl rfl dX3_countDistinct_6 ?_
      refine j_icmp_ge S 34 dX3_countDistinct_9 (by decide) (fun _ => ?_) (fun h9 => absurd (by rw [nI_leI hln (by omega)]; omega) h9)
      refine j_iload_n S dX3_countDistinct_34 rfl ?_
      obtain rfl : i = (σ.row r).length := by omega
      exact j_ireturn S hRT hXA hQ hXk hXn dX3_countDistinct_35 rfl rfl (fun H h => h)
    | succ f ih =>
      intro i hi
      refine j_iload_n S dX3_countDistinct_4 rfl ?_
      refine j_aload_n S dX3_countDistinct_5 rfl ?_
      refine j_get S (C := RX3) (T := TX3) (N := 2) (by decide +kernel) (rd_row (by omega)) rfl (v := .int (nI (σ.row r).length)) 1 (by decide) (by decide +kernel) rfl rfl dX3_countDistinct_6 ?_
      refine j_icmp_ge S 34 dX3_countDistinct_9 (by decide) (fun h9 => absurd h9 (by rw [nI_leI hln (by omega)]; omega)) (fun _ => ?_)
      refine j_aload_n S dX3_countDistinct_12 rfl ?_
      refine j_aload_n S dX3_countDistinct_13 rfl ?_
      refine j_iload_n S dX3_countDistinct_14 rfl ?_
      refine j_cVi S (n := 1) (rest := [.ref (Z.ad (ro r))]) (k_X3_at X.l Z X.A hAX σ r (by omega) (nI i)) ⟨_, _, _, _, rfl, gX3_countDistinct_X3_at, rfl, rfl, by decide +kernel, ⟨Nat.le_of_ble_eq_true rfl, Nat.le_of_ble_eq_true rfl⟩⟩ (rd_row (by omega)) rfl rfl (Nat.le_of_ble_eq_true rfl) rfl dX3_countDistinct_15 (fun v9 hv9 => ?_)
      subst hv9
      refine j_cVi S (n := 1) (rest := []) (k_X3_firstPlaceOf X.l Z X.A hAX σ r (by omega) (atI (σ.row r) (nI i))) ⟨_, _, _, _, rfl, gX3_countDistinct_X3_firstPlaceOf, rfl, rfl, by decide +kernel, ⟨Nat.le_of_ble_eq_true rfl, Nat.le_of_ble_eq_true rfl⟩⟩ (rd_row (by omega)) rfl rfl (Nat.le_of_ble_eq_true rfl) rfl dX3_countDistinct_18 (fun v9 hv9 => ?_)
      subst hv9
      refine j_iload_n S dX3_countDistinct_21 rfl ?_
      rw [atI_nI _ (by omega)]
      refine j_icmp_ne S 28 dX3_countDistinct_22 (by decide) (fun h => ?_) (fun h => ?_)
      · skip
        refine j_iinc S (nI (i + 1)) [some (.ref (Z.ad (ro r))), some (.int (foldN (fun a i => if firstPl (σ.row r) ((σ.row r).getD i 0) = nI i then a + 1 else a) i)), some (.int (nI (i + 1)))] dX3_countDistinct_28 rfl (nI_1 i) (by decide) rfl rfl ?_
        refine j_goto S 4 dX3_countDistinct_31 (by decide) ?_
        have e9 : foldN (fun a i => if firstPl (σ.row r) ((σ.row r).getD i 0) = nI i then a + 1 else a) i = foldN (fun a i => if firstPl (σ.row r) ((σ.row r).getD i 0) = nI i then a + 1 else a) (i + 1) := (if_neg h).symm
        rw [e9]
        exact ih (i + 1) (by omega)
      · skip
        refine j_iinc S (foldN (fun a i => if firstPl (σ.row r) ((σ.row r).getD i 0) = nI i then a + 1 else a) (i + 1)) [some (.ref (Z.ad (ro r))), some (.int (foldN (fun a i => if firstPl (σ.row r) ((σ.row r).getD i 0) = nI i then a + 1 else a) (i + 1))), some (.int (nI i))] dX3_countDistinct_25 rfl (if_pos h).symm (by decide) rfl rfl ?_
        refine j_iinc S (nI (i + 1)) [some (.ref (Z.ad (ro r))), some (.int (foldN (fun a i => if firstPl (σ.row r) ((σ.row r).getD i 0) = nI i then a + 1 else a) (i + 1))), some (.int (nI (i + 1)))] dX3_countDistinct_28 rfl (nI_1 i) (by decide) rfl rfl ?_
        refine j_goto S 4 dX3_countDistinct_31 (by decide) ?_
        exact ih (i + 1) (by omega)
  refine j_iconst S 0 dX3_countDistinct_0 (by decide) ?_
  refine j_istore_n S [some (.ref (Z.ad (ro r))), some (.int 0), none] dX3_countDistinct_1 (by decide) rfl rfl ?_
  refine j_iconst S 0 dX3_countDistinct_2 (by decide) ?_
  refine j_istore_n S [some (.ref (Z.ad (ro r))), some (.int 0), some (.int 0)] dX3_countDistinct_3 (by decide) rfl rfl ?_
  exact loop (σ.row r).length 0 (by omega)

set_option maxRecDepth 100000 in
set_option maxHeartbeats 4000000 in
theorem k_J6_bitCount_0f7a4 (l : Launch) (Z : Zx) (A : Nat → Prop) (hA : AdOk Z A) (σ : St) (x : Int32) : Km l Z A yJ6_bitCount_0f7a4 wsJ6_bitCount_0f7a4 { frames := 0, cells := 0, slots := 0, locals := 0 } (Wd Z σ) [.int x] (Qi (Wd Z σ) A (fun v => v = bitC x)) := by
  refine Km.of (cc := cJ6_bitCount_0f7a4) (maxL := 1) (ret := (some .int)) (by decide) rfl (Nat.le_of_ble_eq_true rfl) hA ?_
  intro X hXl S hAX hRT hXA hQ hXk hXn
  show J X 1 (Wd Z σ) 0 [some (.int x)] []
  refine j_iload_n S dJ6_bitCount_0f7a4_0 rfl ?_
  refine j_iload_n S dJ6_bitCount_0f7a4_1 rfl ?_
  refine j_iconst S 1 dJ6_bitCount_0f7a4_2 (by decide) ?_
  refine j_iushr S (ush x 1) dJ6_bitCount_0f7a4_3 rfl ?_
  refine j_ldcw S (v := 1431655765) (by decide +kernel) dJ6_bitCount_0f7a4_4 ?_
  refine j_iand S ((ush x 1) &&& 1431655765) dJ6_bitCount_0f7a4_7 rfl ?_
  refine j_isub S (bitC1 x) dJ6_bitCount_0f7a4_8 rfl ?_
  refine j_istore_n S [some (.int (bitC1 x))] dJ6_bitCount_0f7a4_9 (by decide) rfl rfl ?_
  refine j_iload_n S dJ6_bitCount_0f7a4_10 rfl ?_
  refine j_ldcw S (v := 858993459) (by decide +kernel) dJ6_bitCount_0f7a4_11 ?_
  refine j_iand S ((bitC1 x) &&& 858993459) dJ6_bitCount_0f7a4_14 rfl ?_
  refine j_iload_n S dJ6_bitCount_0f7a4_15 rfl ?_
  refine j_iconst S 2 dJ6_bitCount_0f7a4_16 (by decide) ?_
  refine j_iushr S (ush (bitC1 x) 2) dJ6_bitCount_0f7a4_17 rfl ?_
  refine j_ldcw S (v := 858993459) (by decide +kernel) dJ6_bitCount_0f7a4_18 ?_
  refine j_iand S ((ush (bitC1 x) 2) &&& 858993459) dJ6_bitCount_0f7a4_21 rfl ?_
  refine j_iadd S (bitC2 (bitC1 x)) dJ6_bitCount_0f7a4_22 rfl ?_
  refine j_istore_n S [some (.int (bitC2 (bitC1 x)))] dJ6_bitCount_0f7a4_23 (by decide) rfl rfl ?_
  refine j_iload_n S dJ6_bitCount_0f7a4_24 rfl ?_
  refine j_iload_n S dJ6_bitCount_0f7a4_25 rfl ?_
  refine j_iconst S 4 dJ6_bitCount_0f7a4_26 (by decide) ?_
  refine j_iushr S (ush (bitC2 (bitC1 x)) 4) dJ6_bitCount_0f7a4_27 rfl ?_
  refine j_iadd S ((bitC2 (bitC1 x)) + (ush (bitC2 (bitC1 x)) 4)) dJ6_bitCount_0f7a4_28 rfl ?_
  refine j_ldcw S (v := 252645135) (by decide +kernel) dJ6_bitCount_0f7a4_29 ?_
  refine j_iand S (bitC3 (bitC2 (bitC1 x))) dJ6_bitCount_0f7a4_32 rfl ?_
  refine j_istore_n S [some (.int (bitC3 (bitC2 (bitC1 x))))] dJ6_bitCount_0f7a4_33 (by decide) rfl rfl ?_
  refine j_iload_n S dJ6_bitCount_0f7a4_34 rfl ?_
  refine j_iload_n S dJ6_bitCount_0f7a4_35 rfl ?_
  refine j_bipush S 8 dJ6_bitCount_0f7a4_36 (by decide) ?_
  refine j_iushr S (ush (bitC3 (bitC2 (bitC1 x))) 8) dJ6_bitCount_0f7a4_38 rfl ?_
  refine j_iadd S (bitC4 (bitC3 (bitC2 (bitC1 x)))) dJ6_bitCount_0f7a4_39 rfl ?_
  refine j_istore_n S [some (.int (bitC4 (bitC3 (bitC2 (bitC1 x)))))] dJ6_bitCount_0f7a4_40 (by decide) rfl rfl ?_
  refine j_iload_n S dJ6_bitCount_0f7a4_41 rfl ?_
  refine j_iload_n S dJ6_bitCount_0f7a4_42 rfl ?_
  refine j_bipush S 16 dJ6_bitCount_0f7a4_43 (by decide) ?_
  refine j_iushr S (ush (bitC4 (bitC3 (bitC2 (bitC1 x)))) 16) dJ6_bitCount_0f7a4_45 rfl ?_
  refine j_iadd S (bitC5 (bitC4 (bitC3 (bitC2 (bitC1 x))))) dJ6_bitCount_0f7a4_46 rfl ?_
  refine j_istore_n S [some (.int (bitC5 (bitC4 (bitC3 (bitC2 (bitC1 x))))))] dJ6_bitCount_0f7a4_47 (by decide) rfl rfl ?_
  refine j_iload_n S dJ6_bitCount_0f7a4_48 rfl ?_
  refine j_bipush S 63 dJ6_bitCount_0f7a4_49 (by decide) ?_
  refine j_iand S (bitC x) dJ6_bitCount_0f7a4_51 rfl ?_
  exact j_ireturn S hRT hXA hQ hXk hXn dJ6_bitCount_0f7a4_52 rfl rfl (fun H h => h)

set_option maxRecDepth 100000 in
set_option maxHeartbeats 4000000 in
theorem k_X3_countBits (l : Launch) (Z : Zx) (A : Nat → Prop) (hA : AdOk Z A) (σ : St) (r : Nat) (hr : r < 30) : Km l Z A yX3_countBits wsX3_countBits { frames := 1, cells := 0, slots := 0, locals := 21 } (Wd Z σ) [.ref (Z.ad (ro r))] (Qi (Wd Z σ) A (fun v => v = countBitsI (σ.row r))) := by
  refine Km.of (cc := cX3_countBits) (maxL := 3) (ret := (some .int)) (by decide) rfl (Nat.le_of_ble_eq_true rfl) hA ?_
  intro X hXl S hAX hRT hXA hQ hXk hXn
  show J X 3 (Wd Z σ) 0 [some (.ref (Z.ad (ro r))), none, none] []
  refine J.caps (fun hcap => ?_)
  have hln : (σ.row r).length < 2 ^ 31 := Nat.lt_of_le_of_lt (hcap r (by omega)) (cap_lt r)
  have loop : ∀ (f i : Nat), i + f = (σ.row r).length → J X 3 (Wd Z σ) 4 [some (.ref (Z.ad (ro r))), some (.int (foldN (fun a i => a + bitC ((σ.row r).getD i 0)) i)), some (.int (nI i))] [] := by
    intro f
    induction f with
    | zero =>
      intro i hi
      refine j_iload_n S dX3_countBits_4 rfl ?_
      refine j_aload_n S dX3_countBits_5 rfl ?_
      refine j_get S (C := RX3) (T := TX3) (N := 2) (by decide +kernel) (rd_row (by omega)) rfl (v := .int (nI (σ.row r).length)) 1 (by decide) (by decide +kernel) rfl rfl dX3_countBits_6 ?_
      refine j_icmp_ge S 29 dX3_countBits_9 (by decide) (fun _ => ?_) (fun h9 => absurd (by rw [nI_leI hln (by omega)]; omega) h9)
      refine j_iload_n S dX3_countBits_29 rfl ?_
      obtain rfl : i = (σ.row r).length := by omega
      exact j_ireturn S hRT hXA hQ hXk hXn dX3_countBits_30 rfl rfl (fun H h => h)
    | succ f ih =>
      intro i hi
      refine j_iload_n S dX3_countBits_4 rfl ?_
      refine j_aload_n S dX3_countBits_5 rfl ?_
      refine j_get S (C := RX3) (T := TX3) (N := 2) (by decide +kernel) (rd_row (by omega)) rfl (v := .int (nI (σ.row r).length)) 1 (by decide) (by decide +kernel) rfl rfl dX3_countBits_6 ?_
      refine j_icmp_ge S 29 dX3_countBits_9 (by decide) (fun h9 => absurd h9 (by rw [nI_leI hln (by omega)]; omega)) (fun _ => ?_)
      refine j_iload_n S dX3_countBits_12 rfl ?_
      refine j_aload_n S dX3_countBits_13 rfl ?_
      refine j_iload_n S dX3_countBits_14 rfl ?_
      refine j_cVi S (n := 1) (rest := [.int (foldN (fun a i => a + bitC ((σ.row r).getD i 0)) i)]) (k_X3_at X.l Z X.A hAX σ r (by omega) (nI i)) ⟨_, _, _, _, rfl, gX3_countBits_X3_at, rfl, rfl, by decide +kernel, ⟨Nat.le_of_ble_eq_true rfl, Nat.le_of_ble_eq_true rfl⟩⟩ (rd_row (by omega)) rfl rfl (Nat.le_of_ble_eq_true rfl) rfl dX3_countBits_15 (fun v9 hv9 => ?_)
      subst hv9
      rw [atI_nI _ (by omega)]
      refine j_cSi S (n := 1) (rest := [.int (foldN (fun a i => a + bitC ((σ.row r).getD i 0)) i)]) (k_J6_bitCount_0f7a4 X.l Z X.A hAX σ ((σ.row r).getD i 0)) ⟨_, _, _, _, rfl, gX3_countBits_J6_bitCount_0f7a4, rfl, rfl, by decide +kernel, ⟨Nat.le_of_ble_eq_true rfl, Nat.le_of_ble_eq_true rfl⟩⟩ rfl (Nat.le_of_ble_eq_true rfl) rfl dX3_countBits_18 (fun v9 hv9 => ?_)
      subst hv9
      refine j_iadd S (foldN (fun a i => a + bitC ((σ.row r).getD i 0)) (i + 1)) dX3_countBits_21 rfl ?_
      refine j_istore_n S [some (.ref (Z.ad (ro r))), some (.int (foldN (fun a i => a + bitC ((σ.row r).getD i 0)) (i + 1))), some (.int (nI i))] dX3_countBits_22 (by decide) rfl rfl ?_
      refine j_iinc S (nI (i + 1)) [some (.ref (Z.ad (ro r))), some (.int (foldN (fun a i => a + bitC ((σ.row r).getD i 0)) (i + 1))), some (.int (nI (i + 1)))] dX3_countBits_23 rfl (nI_1 i) (by decide) rfl rfl ?_
      refine j_goto S 4 dX3_countBits_26 (by decide) ?_
      exact ih (i + 1) (by omega)
  refine j_iconst S 0 dX3_countBits_0 (by decide) ?_
  refine j_istore_n S [some (.ref (Z.ad (ro r))), some (.int 0), none] dX3_countBits_1 (by decide) rfl rfl ?_
  refine j_iconst S 0 dX3_countBits_2 (by decide) ?_
  refine j_istore_n S [some (.ref (Z.ad (ro r))), some (.int 0), some (.int 0)] dX3_countBits_3 (by decide) rfl rfl ?_
  exact loop (σ.row r).length 0 (by omega)

set_option maxRecDepth 100000 in
set_option maxHeartbeats 4000000 in
theorem k_X3_countRuns (l : Launch) (Z : Zx) (A : Nat → Prop) (hA : AdOk Z A) (σ : St) (r : Nat) (hr : r < 30) (m : Nat) (hm : m < 2 ^ 31) : Km l Z A yX3_countRuns wsX3_countRuns { frames := 1, cells := 0, slots := 0, locals := 23 } (Wd Z σ) [.ref (Z.ad (ro r)), .int (nI m)] (Qi (Wd Z σ) A (fun v => v = countRunsI (σ.row r) m)) := by
  refine Km.of (cc := cX3_countRuns) (maxL := 4) (ret := (some .int)) (by decide) rfl (Nat.le_of_ble_eq_true rfl) hA ?_
  intro X hXl S hAX hRT hXA hQ hXk hXn
  show J X 4 (Wd Z σ) 0 [some (.ref (Z.ad (ro r))), some (.int (nI m)), none, none] []
  refine J.caps (fun hcap => ?_)
  have hln : (σ.row r).length < 2 ^ 31 := Nat.lt_of_le_of_lt (hcap r (by omega)) (cap_lt r)
  have loop : ∀ (f i : Nat), i + f = (σ.row r).length → J X 4 (Wd Z σ) 4 [some (.ref (Z.ad (ro r))), some (.int (nI m)), some (.int (foldN (fun a i => a + bitC (runS ((σ.row r).getD i 0) m)) i)), some (.int (nI i))] [] := by
    intro f
    induction f with
    | zero =>
      intro i hi
      refine j_iload_n S dX3_countRuns_4 rfl ?_
      refine j_aload_n S dX3_countRuns_5 rfl ?_
      refine j_get S (C := RX3) (T := TX3) (N := 2) (by decide +kernel) (rd_row (by omega)) rfl (v := .int (nI (σ.row r).length)) 1 (by decide) (by decide +kernel) rfl rfl dX3_countRuns_6 ?_
      refine j_icmp_ge S 33 dX3_countRuns_9 (by decide) (fun _ => ?_) (fun h9 => absurd (by rw [nI_leI hln (by omega)]; omega) h9)
      refine j_iload_n S dX3_countRuns_33 rfl ?_
      obtain rfl : i = (σ.row r).length := by omega
      exact j_ireturn S hRT hXA hQ hXk hXn dX3_countRuns_34 rfl rfl (fun H h => h)
    | succ f ih =>
      intro i hi
      refine j_iload_n S dX3_countRuns_4 rfl ?_
      refine j_aload_n S dX3_countRuns_5 rfl ?_
      refine j_get S (C := RX3) (T := TX3) (N := 2) (by decide +kernel) (rd_row (by omega)) rfl (v := .int (nI (σ.row r).length)) 1 (by decide) (by decide +kernel) rfl rfl dX3_countRuns_6 ?_
      refine j_icmp_ge S 33 dX3_countRuns_9 (by decide) (fun h9 => absurd h9 (by rw [nI_leI hln (by omega)]; omega)) (fun _ => ?_)
      refine j_iload_n S dX3_countRuns_12 rfl ?_
      refine j_aload_n S dX3_countRuns_13 rfl ?_
      refine j_iload_n S dX3_countRuns_14 rfl ?_
      refine j_cVi S (n := 1) (rest := [.int (foldN (fun a i => a + bitC (runS ((σ.row r).getD i 0) m)) i)]) (k_X3_at X.l Z X.A hAX σ r (by omega) (nI i)) ⟨_, _, _, _, rfl, gX3_countRuns_X3_at, rfl, rfl, by decide +kernel, ⟨Nat.le_of_ble_eq_true rfl, Nat.le_of_ble_eq_true rfl⟩⟩ (rd_row (by omega)) rfl rfl (Nat.le_of_ble_eq_true rfl) rfl dX3_countRuns_15 (fun v9 hv9 => ?_)
      subst hv9
      rw [atI_nI _ (by omega)]
      refine j_iload_n S dX3_countRuns_18 rfl ?_
      refine j_cNi S (n := 2) (rest := [.int (foldN (fun a i => a + bitC (runS ((σ.row r).getD i 0) m)) i)]) (k_X4_runStarts X.l Z X.A hAX σ ((σ.row r).getD i 0) m hm) ⟨_, _, _, _, _, 6, rfl, gX3_countRuns_X4_runStarts_n57, rfl, rfl, ⟨rfl, by decide +kernel, by decide +kernel⟩, by decide +kernel, ⟨Nat.le_of_ble_eq_true rfl, Nat.le_of_ble_eq_true rfl⟩⟩ rfl (Nat.le_of_ble_eq_true rfl) rfl dX3_countRuns_19 (fun v9 hv9 => ?_)
      subst hv9
      refine j_cSi S (n := 1) (rest := [.int (foldN (fun a i => a + bitC (runS ((σ.row r).getD i 0) m)) i)]) (k_J6_bitCount_0f7a4 X.l Z X.A hAX σ (runS ((σ.row r).getD i 0) m)) ⟨_, _, _, _, rfl, gX3_countRuns_J6_bitCount_0f7a4, rfl, rfl, by decide +kernel, ⟨Nat.le_of_ble_eq_true rfl, Nat.le_of_ble_eq_true rfl⟩⟩ rfl (Nat.le_of_ble_eq_true rfl) rfl dX3_countRuns_22 (fun v9 hv9 => ?_)
      subst hv9
      refine j_iadd S (foldN (fun a i => a + bitC (runS ((σ.row r).getD i 0) m)) (i + 1)) dX3_countRuns_25 rfl ?_
      refine j_istore_n S [some (.ref (Z.ad (ro r))), some (.int (nI m)), some (.int (foldN (fun a i => a + bitC (runS ((σ.row r).getD i 0) m)) (i + 1))), some (.int (nI i))] dX3_countRuns_26 (by decide) rfl rfl ?_
      refine j_iinc S (nI (i + 1)) [some (.ref (Z.ad (ro r))), some (.int (nI m)), some (.int (foldN (fun a i => a + bitC (runS ((σ.row r).getD i 0) m)) (i + 1))), some (.int (nI (i + 1)))] dX3_countRuns_27 rfl (nI_1 i) (by decide) rfl rfl ?_
      refine j_goto S 4 dX3_countRuns_30 (by decide) ?_
      exact ih (i + 1) (by omega)
  refine j_iconst S 0 dX3_countRuns_0 (by decide) ?_
  refine j_istore_n S [some (.ref (Z.ad (ro r))), some (.int (nI m)), some (.int 0), none] dX3_countRuns_1 (by decide) rfl rfl ?_
  refine j_iconst S 0 dX3_countRuns_2 (by decide) ?_
  refine j_istore_n S [some (.ref (Z.ad (ro r))), some (.int (nI m)), some (.int 0), some (.int 0)] dX3_countRuns_3 (by decide) rfl rfl ?_
  exact loop (σ.row r).length 0 (by omega)

set_option maxRecDepth 100000 in
set_option maxHeartbeats 4000000 in
theorem k_X3_firstWithRun (l : Launch) (Z : Zx) (A : Nat → Prop) (hA : AdOk Z A) (σ : St) (r : Nat) (hr : r < 30) (m : Nat) (hm : m < 2 ^ 31) : Km l Z A yX3_firstWithRun wsX3_firstWithRun { frames := 1, cells := 0, slots := 0, locals := 23 } (Wd Z σ) [.ref (Z.ad (ro r)), .int (nI m)] (Qi (Wd Z σ) A (fun v => v = firstRunI (σ.row r) m)) := by
  refine Km.of (cc := cX3_firstWithRun) (maxL := 3) (ret := (some .int)) (by decide) rfl (Nat.le_of_ble_eq_true rfl) hA ?_
  intro X hXl S hAX hRT hXA hQ hXk hXn
  show J X 3 (Wd Z σ) 0 [some (.ref (Z.ad (ro r))), some (.int (nI m)), none] []
  refine J.caps (fun hcap => ?_)
  have hln : (σ.row r).length < 2 ^ 31 := Nat.lt_of_le_of_lt (hcap r (by omega)) (cap_lt r)
  have loop : ∀ (f i : Nat), i + f = (σ.row r).length → firstRunI (σ.row r) m = findI (fun i => !(runS ((σ.row r).getD i 0) m == 0)) (-1) f i → J X 3 (Wd Z σ) 2 [some (.ref (Z.ad (ro r))), some (.int (nI m)), some (.int (nI i))] [] := by
    intro f
    induction f with
    | zero =>
      intro i hi he
      refine j_iload_n S dX3_firstWithRun_2 rfl ?_
      refine j_aload_n S dX3_firstWithRun_3 rfl ?_
      refine j_get S (C := RX3) (T := TX3) (N := 2) (by decide +kernel) (rd_row (by omega)) rfl (v := .int (nI (σ.row r).length)) 1 (by decide) (by decide +kernel) rfl rfl dX3_firstWithRun_4 ?_
      refine j_icmp_ge S 30 dX3_firstWithRun_7 (by decide) (fun _ => ?_) (fun h9 => absurd (by rw [nI_leI hln (by omega)]; omega) h9)
      refine j_iconst S (-1) dX3_firstWithRun_30 (by decide) ?_
      exact j_ireturn S hRT hXA hQ hXk hXn dX3_firstWithRun_31 rfl he.symm (fun H h => h)
    | succ f ih =>
      intro i hi he
      refine j_iload_n S dX3_firstWithRun_2 rfl ?_
      refine j_aload_n S dX3_firstWithRun_3 rfl ?_
      refine j_get S (C := RX3) (T := TX3) (N := 2) (by decide +kernel) (rd_row (by omega)) rfl (v := .int (nI (σ.row r).length)) 1 (by decide) (by decide +kernel) rfl rfl dX3_firstWithRun_4 ?_
      refine j_icmp_ge S 30 dX3_firstWithRun_7 (by decide) (fun h9 => absurd h9 (by rw [nI_leI hln (by omega)]; omega)) (fun _ => ?_)
      refine j_aload_n S dX3_firstWithRun_10 rfl ?_
      refine j_iload_n S dX3_firstWithRun_11 rfl ?_
      refine j_cVi S (n := 1) (rest := []) (k_X3_at X.l Z X.A hAX σ r (by omega) (nI i)) ⟨_, _, _, _, rfl, gX3_firstWithRun_X3_at, rfl, rfl, by decide +kernel, ⟨Nat.le_of_ble_eq_true rfl, Nat.le_of_ble_eq_true rfl⟩⟩ (rd_row (by omega)) rfl rfl (Nat.le_of_ble_eq_true rfl) rfl dX3_firstWithRun_12 (fun v9 hv9 => ?_)
      subst hv9
      rw [atI_nI _ (by omega)]
      refine j_iload_n S dX3_firstWithRun_15 rfl ?_
      refine j_cNi S (n := 2) (rest := []) (k_X4_runStarts X.l Z X.A hAX σ ((σ.row r).getD i 0) m hm) ⟨_, _, _, _, _, 6, rfl, gX3_firstWithRun_X4_runStarts_n57, rfl, rfl, ⟨rfl, by decide +kernel, by decide +kernel⟩, by decide +kernel, ⟨Nat.le_of_ble_eq_true rfl, Nat.le_of_ble_eq_true rfl⟩⟩ rfl (Nat.le_of_ble_eq_true rfl) rfl dX3_firstWithRun_16 (fun v9 hv9 => ?_)
      subst hv9
      refine j_if_eq S 24 dX3_firstWithRun_19 (by decide) (fun h => ?_) (fun h => ?_)
      · skip
        refine j_iinc S (nI (i + 1)) [some (.ref (Z.ad (ro r))), some (.int (nI m)), some (.int (nI (i + 1)))] dX3_firstWithRun_24 rfl (nI_1 i) (by decide) rfl rfl ?_
        refine j_goto S 2 dX3_firstWithRun_27 (by decide) ?_
        exact ih (i + 1) (by omega) (by rw [he, findI, if_neg (by rw [beq_iff_eq.mpr h]; decide)])
      · skip
        refine j_iload_n S dX3_firstWithRun_22 rfl ?_
        exact j_ireturn S hRT hXA hQ hXk hXn dX3_firstWithRun_23 rfl (by rw [he, findI, if_pos (by rw [beq_eq_false_iff_ne.mpr h]; rfl)]) (fun H h => h)
  refine j_iconst S 0 dX3_firstWithRun_0 (by decide) ?_
  refine j_istore_n S [some (.ref (Z.ad (ro r))), some (.int (nI m)), some (.int 0)] dX3_firstWithRun_1 (by decide) rfl rfl ?_
  exact loop (σ.row r).length 0 (by omega) rfl

set_option maxRecDepth 100000 in
set_option maxHeartbeats 4000000 in
theorem k_X3_longestOfRuns (l : Launch) (Z : Zx) (A : Nat → Prop) (hA : AdOk Z A) (σ : St) (r : Nat) (hr : r < 30) : Km l Z A yX3_longestOfRuns wsX3_longestOfRuns { frames := 1, cells := 0, slots := 0, locals := 22 } (Wd Z σ) [.ref (Z.ad (ro r))] (Qi (Wd Z σ) A (fun v => v = longestI (σ.row r))) := by
  refine Km.of (cc := cX3_longestOfRuns) (maxL := 3) (ret := (some .int)) (by decide) rfl (Nat.le_of_ble_eq_true rfl) hA ?_
  intro X hXl S hAX hRT hXA hQ hXk hXn
  show J X 3 (Wd Z σ) 0 [some (.ref (Z.ad (ro r))), none, none] []
  refine J.caps (fun hcap => ?_)
  have hln : (σ.row r).length < 2 ^ 31 := Nat.lt_of_le_of_lt (hcap r (by omega)) (cap_lt r)
  have loop : ∀ (f i : Nat), i + f = (σ.row r).length → J X 3 (Wd Z σ) 4 [some (.ref (Z.ad (ro r))), some (.int (foldN (fun a i => if a < lrunI ((σ.row r).getD i 0) then lrunI ((σ.row r).getD i 0) else a) i)), some (.int (nI i))] [] := by
    intro f
    induction f with
    | zero =>
      intro i hi
      refine j_iload_n S dX3_longestOfRuns_4 rfl ?_
      refine j_aload_n S dX3_longestOfRuns_5 rfl ?_
      refine j_get S (C := RX3) (T := TX3) (N := 2) (by decide +kernel) (rd_row (by omega)) rfl (v := .int (nI (σ.row r).length)) 1 (by decide) (by decide +kernel) rfl rfl dX3_longestOfRuns_6 ?_
      refine j_icmp_ge S 31 dX3_longestOfRuns_9 (by decide) (fun _ => ?_) (fun h9 => absurd (by rw [nI_leI hln (by omega)]; omega) h9)
      refine j_iload_n S dX3_longestOfRuns_31 rfl ?_
      obtain rfl : i = (σ.row r).length := by omega
      exact j_ireturn S hRT hXA hQ hXk hXn dX3_longestOfRuns_32 rfl rfl (fun H h => h)
    | succ f ih =>
      intro i hi
      refine j_iload_n S dX3_longestOfRuns_4 rfl ?_
      refine j_aload_n S dX3_longestOfRuns_5 rfl ?_
      refine j_get S (C := RX3) (T := TX3) (N := 2) (by decide +kernel) (rd_row (by omega)) rfl (v := .int (nI (σ.row r).length)) 1 (by decide) (by decide +kernel) rfl rfl dX3_longestOfRuns_6 ?_
      refine j_icmp_ge S 31 dX3_longestOfRuns_9 (by decide) (fun h9 => absurd h9 (by rw [nI_leI hln (by omega)]; omega)) (fun _ => ?_)
      refine j_iload_n S dX3_longestOfRuns_12 rfl ?_
      refine j_aload_n S dX3_longestOfRuns_13 rfl ?_
      refine j_iload_n S dX3_longestOfRuns_14 rfl ?_
      refine j_cVi S (n := 1) (rest := [.int (foldN (fun a i => if a < lrunI ((σ.row r).getD i 0) then lrunI ((σ.row r).getD i 0) else a) i)]) (k_X3_at X.l Z X.A hAX σ r (by omega) (nI i)) ⟨_, _, _, _, rfl, gX3_longestOfRuns_X3_at, rfl, rfl, by decide +kernel, ⟨Nat.le_of_ble_eq_true rfl, Nat.le_of_ble_eq_true rfl⟩⟩ (rd_row (by omega)) rfl rfl (Nat.le_of_ble_eq_true rfl) rfl dX3_longestOfRuns_15 (fun v9 hv9 => ?_)
      subst hv9
      rw [atI_nI _ (by omega)]
      refine j_cNi S (n := 1) (rest := [.int (foldN (fun a i => if a < lrunI ((σ.row r).getD i 0) then lrunI ((σ.row r).getD i 0) else a) i)]) (k_X4_longestRun X.l Z X.A hAX σ ((σ.row r).getD i 0)) ⟨_, _, _, _, _, 7, rfl, gX3_longestOfRuns_X4_longestRun_n62, rfl, rfl, ⟨rfl, by decide +kernel, by decide +kernel⟩, by decide +kernel, ⟨Nat.le_of_ble_eq_true rfl, Nat.le_of_ble_eq_true rfl⟩⟩ rfl (Nat.le_of_ble_eq_true rfl) rfl dX3_longestOfRuns_18 (fun v9 hv9 => ?_)
      subst hv9
      refine j_max S (foldN (fun a i => if a < lrunI ((σ.row r).getD i 0) then lrunI ((σ.row r).getD i 0) else a) (i + 1)) (by decide +kernel) (by decide +kernel) (by decide +kernel) (by decide +kernel) ⟨Nat.le_of_ble_eq_true rfl, Nat.le_of_ble_eq_true rfl⟩ dX3_longestOfRuns_21 rfl ?_
      refine j_istore_n S [some (.ref (Z.ad (ro r))), some (.int (foldN (fun a i => if a < lrunI ((σ.row r).getD i 0) then lrunI ((σ.row r).getD i 0) else a) (i + 1))), some (.int (nI i))] dX3_longestOfRuns_24 (by decide) rfl rfl ?_
      refine j_iinc S (nI (i + 1)) [some (.ref (Z.ad (ro r))), some (.int (foldN (fun a i => if a < lrunI ((σ.row r).getD i 0) then lrunI ((σ.row r).getD i 0) else a) (i + 1))), some (.int (nI (i + 1)))] dX3_longestOfRuns_25 rfl (nI_1 i) (by decide) rfl rfl ?_
      refine j_goto S 4 dX3_longestOfRuns_28 (by decide) ?_
      exact ih (i + 1) (by omega)
  refine j_iconst S 0 dX3_longestOfRuns_0 (by decide) ?_
  refine j_istore_n S [some (.ref (Z.ad (ro r))), some (.int 0), none] dX3_longestOfRuns_1 (by decide) rfl rfl ?_
  refine j_iconst S 0 dX3_longestOfRuns_2 (by decide) ?_
  refine j_istore_n S [some (.ref (Z.ad (ro r))), some (.int 0), some (.int 0)] dX3_longestOfRuns_3 (by decide) rfl rfl ?_
  exact loop (σ.row r).length 0 (by omega)

set_option maxRecDepth 100000 in
set_option maxHeartbeats 4000000 in
theorem k_X3_turnFrom (l : Launch) (Z : Zx) (A : Nat → Prop) (hA : AdOk Z A) (σ : St) (r : Nat) (hr : r < 30) (k : Nat) (hk31 : k < 2 ^ 30) : Km l Z A yX3_turnFrom wsX3_turnFrom { frames := 1, cells := 0, slots := 0, locals := 22 } (Wd Z σ) [.ref (Z.ad (ro r)), .int (nI k)] (Qv (Wd Z (σ.setRow r (turnI (σ.row r) k))) A) := by
  refine Km.of (cc := cX3_turnFrom) (maxL := 5) (ret := none) (by decide) rfl (Nat.le_of_ble_eq_true rfl) hA ?_
  intro X hXl S hAX hRT hXA hQ hXk hXn
  show J X 5 (Wd Z σ) 0 [some (.ref (Z.ad (ro r))), some (.int (nI k)), none, none, none] []
  refine J.caps (fun hcap => ?_)
  have hln : (σ.row r).length < 2 ^ 31 := Nat.lt_of_le_of_lt (hcap r (by omega)) (cap_lt r)
  have loop : ∀ (f t : Nat) (y : Int32) (σ1 : St), t + f = ((σ.row r).length - k) / 2 → σ1 = σ.setRow r (turnN (σ.row r) k t) → (t < (σ.row r).length → y = nI ((σ.row r).length - 1 - t)) → ((σ.row r).length ≤ t → y < 0) → J X 5 (Wd Z σ1) 9 [some (.ref (Z.ad (ro r))), some (.int (nI k)), some (.int (nI (k + t))), some (.int y), none] [] := by
    intro f
    induction f with
    | zero =>
      intro t y σ1 ht he hy hy0
      refine j_iload_n S dX3_turnFrom_9 rfl ?_
      refine j_iload_n S dX3_turnFrom_10 rfl ?_
      refine j_icmp_ge S 47 dX3_turnFrom_11 (by decide) (fun _ => ?_) (fun h9 => absurd (turn_exit hln hk31 (by omega) hy hy0) h9)
      exact j_return S hRT hXA hQ hXk hXn dX3_turnFrom_47 (fun H h => by rw [he, show t = ((σ.row r).length - k) / 2 by omega] at h; exact h)
    | succ f ih =>
      intro t y σ1 ht he hy hy0
      obtain rfl := hy (by omega)
      have hr1 : σ1.row r = turnN (σ.row r) k t := by rw [he, St.row_self]
      refine j_iload_n S dX3_turnFrom_9 rfl ?_
      refine j_iload_n S dX3_turnFrom_10 rfl ?_
      refine j_icmp_ge S 47 dX3_turnFrom_11 (by decide) (fun h9 => absurd h9 (by rw [nI_leI (by omega) (by omega)]; omega)) (fun _ => ?_)
      refine j_aload_n S dX3_turnFrom_14 rfl ?_
      refine j_iload_n S dX3_turnFrom_15 rfl ?_
      refine j_cVi S (n := 1) (rest := []) (k_X3_at X.l Z X.A hAX σ1 r (by omega) (nI (k + t))) ⟨_, _, _, _, rfl, gX3_turnFrom_X3_at, rfl, rfl, by decide +kernel, ⟨Nat.le_of_ble_eq_true rfl, Nat.le_of_ble_eq_true rfl⟩⟩ (rd_row (by omega)) rfl rfl (Nat.le_of_ble_eq_true rfl) rfl dX3_turnFrom_16 (fun v9 hv9 => ?_)
      subst hv9
      refine j_istore S [some (.ref (Z.ad (ro r))), some (.int (nI k)), some (.int (nI (k + t))), some (.int (nI ((σ.row r).length - 1 - t))), some (.int (atI (σ1.row r) (nI (k + t))))] dX3_turnFrom_19 (by decide) rfl rfl ?_
      refine j_aload_n S dX3_turnFrom_21 rfl ?_
      refine j_iload_n S dX3_turnFrom_22 rfl ?_
      refine j_aload_n S dX3_turnFrom_23 rfl ?_
      refine j_iload_n S dX3_turnFrom_24 rfl ?_
      refine j_cVi S (n := 1) (rest := [.int (nI (k + t)), .ref (Z.ad (ro r))]) (k_X3_at X.l Z X.A hAX σ1 r (by omega) (nI ((σ.row r).length - 1 - t))) ⟨_, _, _, _, rfl, gX3_turnFrom_X3_at, rfl, rfl, by decide +kernel, ⟨Nat.le_of_ble_eq_true rfl, Nat.le_of_ble_eq_true rfl⟩⟩ (rd_row (by omega)) rfl rfl (Nat.le_of_ble_eq_true rfl) rfl dX3_turnFrom_25 (fun v9 hv9 => ?_)
      subst hv9
      refine j_cVv S (n := 2) (rest := []) (k_X3_put X.l Z X.A hAX σ1 r (by omega) (nI (k + t)) (atI (σ1.row r) (nI ((σ.row r).length - 1 - t)))) ⟨_, _, _, _, rfl, gX3_turnFrom_X3_put, rfl, rfl, by decide +kernel, ⟨Nat.le_of_ble_eq_true rfl, Nat.le_of_ble_eq_true rfl⟩⟩ (rd_row (by omega)) rfl rfl (Nat.le_of_ble_eq_true rfl) rfl dX3_turnFrom_28 ?_
      refine j_aload_n S dX3_turnFrom_31 rfl ?_
      refine j_iload_n S dX3_turnFrom_32 rfl ?_
      refine j_iload S dX3_turnFrom_33 rfl ?_
      refine j_cVv S (n := 2) (rest := []) (k_X3_put X.l Z X.A hAX (σ1.setRow r (putI (σ1.row r) (nI (k + t)) (atI (σ1.row r) (nI ((σ.row r).length - 1 - t))))) r (by omega) (nI ((σ.row r).length - 1 - t)) (atI (σ1.row r) (nI (k + t)))) ⟨_, _, _, _, rfl, gX3_turnFrom_X3_put, rfl, rfl, by decide +kernel, ⟨Nat.le_of_ble_eq_true rfl, Nat.le_of_ble_eq_true rfl⟩⟩ (rd_row (by omega)) rfl rfl (Nat.le_of_ble_eq_true rfl) rfl dX3_turnFrom_35 ?_
      refine j_iinc S (nI (k + (t + 1))) [some (.ref (Z.ad (ro r))), some (.int (nI k)), some (.int (nI (k + (t + 1)))), some (.int (nI ((σ.row r).length - 1 - t))), some (.int (atI (σ1.row r) (nI (k + t))))] dX3_turnFrom_38 rfl (nI_1 (k + t)) (by decide) rfl rfl ?_
      refine j_iinc S (nI ((σ.row r).length - 1 - t) + (-1)) [some (.ref (Z.ad (ro r))), some (.int (nI k)), some (.int (nI (k + (t + 1)))), some (.int (nI ((σ.row r).length - 1 - t) + (-1))), some (.int (atI (σ1.row r) (nI (k + t))))] dX3_turnFrom_41 rfl rfl (by decide) rfl rfl ?_
      refine j_goto S 9 dX3_turnFrom_44 (by decide) ?_
      refine J.less [some (.ref (Z.ad (ro r))), some (.int (nI k)), some (.int (nI (k + (t + 1)))), some (.int (nI ((σ.row r).length - 1 - t) + (-1))), none] ⟨rfl, rfl, rfl, rfl, trivial⟩ ?_
      refine ih (t + 1) _ _ (by omega) ?_ (fun q => ?_) (fun q => ?_)
      · rw [St.row_self, St.setRow_twice, hr1, atI_nI _ (by omega), atI_nI _ (by omega), putI_nI _ _ (by omega), putI_nI _ _ (by omega), he, St.setRow_twice]
        rfl
      · rw [show (σ.row r).length - 1 - t = (σ.row r).length - 1 - (t + 1) + 1 by omega]; exact pk_m1 _
      · omega
  refine j_iload_n S dX3_turnFrom_0 rfl ?_
  refine j_istore_n S [some (.ref (Z.ad (ro r))), some (.int (nI k)), some (.int (nI k)), none, none] dX3_turnFrom_1 (by decide) rfl rfl ?_
  refine j_aload_n S dX3_turnFrom_2 rfl ?_
  refine j_get S (C := RX3) (T := TX3) (N := 2) (by decide +kernel) (rd_row (by omega)) rfl (v := .int (nI (σ.row r).length)) 1 (by decide) (by decide +kernel) rfl rfl dX3_turnFrom_3 ?_
  refine j_iconst S 1 dX3_turnFrom_6 (by decide) ?_
  refine j_isub S ((nI (σ.row r).length) - 1) dX3_turnFrom_7 rfl ?_
  refine j_istore_n S [some (.ref (Z.ad (ro r))), some (.int (nI k)), some (.int (nI k)), some (.int ((nI (σ.row r).length) - 1)), none] dX3_turnFrom_8 (by decide) rfl rfl ?_
  exact loop (((σ.row r).length - k) / 2) 0 _ σ (by omega) (by rw [turnN, St.setRow_same]) (fun q => by rw [show (σ.row r).length = (σ.row r).length - 1 + 1 by omega]; exact nI_pred _) (fun q => by rw [show (σ.row r).length = 0 by omega]; decide)
end
section
/-! THE COMPILER's STATE: numbers, outer starts, the group's start, the item's start; what each step does to it -/
abbrev Cst : Type := List Int32 × List Nat × Nat × Option Nat
def optI : Option Nat → Int32
  | none => -1
  | some i => nI i
def St.setC (σ : St) (c : Cst) : St := (fun j => if j = 6 then c.1 else if j = 7 then c.2.1.map nI else σ.1 j, σ.2.1, nI c.2.2.1, optI c.2.2.2)
def CInv (c : Cst) : Prop := c.1.length ≤ 1312 ∧ c.2.2.1 ≤ c.1.length ∧ (∀ i, c.2.2.2 = some i → i ≤ c.1.length) ∧ (∀ o ∈ c.2.1, o ≤ c.1.length) ∧ c.2.1.length ≤ 41
theorem setC_6 (σ : St) (c : Cst) : (σ.setC c).row 6 = c.1 := rfl
theorem setC_7 (σ : St) (c : Cst) : (σ.setC c).row 7 = c.2.1.map nI := rfl
theorem setC_ne (σ : St) (c : Cst) {r : Nat} (h6 : r ≠ 6) (h7 : r ≠ 7) : (σ.setC c).row r = σ.row r := by
  show (if r = 6 then _ else if r = 7 then _ else _) = _
  rw [if_neg h6, if_neg h7]; rfl
theorem setC_row6 (σ : St) (c : Cst) (l : List Int32) : (σ.setC c).setRow 6 l = σ.setC (l, c.2) := by
  refine Prod.ext (funext fun j => ?_) rfl
  show (if j = 6 then l else if j = 6 then _ else _) = (if j = 6 then l else _)
  by_cases h : j = 6
  · rw [if_pos h, if_pos h]
  · rw [if_neg h, if_neg h, if_neg h]
theorem setC_row7 (σ : St) (c : Cst) (o : List Nat) : (σ.setC c).setRow 7 (o.map nI) = σ.setC (c.1, o, c.2.2) := by
  refine Prod.ext (funext fun j => ?_) rfl
  show (if j = 7 then o.map nI else if j = 6 then _ else if j = 7 then _ else _) = (if j = 6 then _ else if j = 7 then _ else _)
  by_cases h : j = 7
  · subst h; rfl
  · rw [if_neg h]
    by_cases h6 : j = 6
    · rw [if_pos h6, if_pos h6]
    · rw [if_neg h6, if_neg h6, if_neg h, if_neg h]
theorem setC_gs (σ : St) (c : Cst) (g : Nat) : (σ.setC c).setGs (nI g) = σ.setC (c.1, c.2.1, g, c.2.2.2) := rfl
theorem setC_is (σ : St) (c : Cst) (i : Option Nat) : (σ.setC c).setIs (optI i) = σ.setC (c.1, c.2.1, c.2.2.1, i) := rfl
theorem setC_start (σ : St) : (((σ.setRow 6 []).setRow 7 []).setGs 0).setIs (-1) = σ.setC ([], [], 0, none) := by
  refine Prod.ext (funext fun j => ?_) rfl
  show (if j = 7 then ([] : List Int32) else if j = 6 then [] else σ.1 j) = (if j = 6 then [] else if j = 7 then [] else σ.1 j)
  by_cases h : j = 7
  · subst h; rfl
  · rw [if_neg h]
    by_cases h6 : j = 6
    · rw [if_pos h6, if_pos h6]
    · rw [if_neg h6, if_neg h6, if_neg h]
def roomC (c : Cst) (m : Nat) : Bool := decide (c.1.length - c.2.2.1 + m ≤ 32)
def beginC (c : Cst) : Cst := (c.1, c.2.1, c.2.2.1, some c.1.length)
def addC (c : Cst) (v : Int32) : Cst := (addI 1312 c.1 v, c.2)
def openC (c : Cst) : Cst := (c.1, if c.2.1.length < 41 then c.2.1 ++ [c.2.2.1] else c.2.1, c.1.length, none)
def closeC (c : Cst) : Cst := (c.1, c.2.1.take (c.2.1.length - 1), c.2.1.getD (c.2.1.length - 1) 0, some c.2.2.1)
def numberC (c : Cst) (v : Int32) : Int32 × Cst := if roomC c 1 = true then (0, addC (beginC c) v) else (5, c)
def closeG (c : Cst) : Int32 × Cst := if c.2.1.length = 0 then (2, c) else (if roomC (closeC c) 0 = true then 0 else 5, closeC c)
def addAllC (c : Cst) (l : List Int32) : Cst := (addAllI 1312 c.1 l, c.2)
/-- what the blocks are: numbers, fault -/
abbrev Blk : Type := Nat → List Int32 × Int32
def blockC (B : Blk) (own : Nat) (c : Cst) (b : Nat) : Int32 × Cst :=
  if 4 ≤ own ∧ own ≤ b then (4, c) else if (B b).2 = 0 then (if roomC c (B b).1.length = true then (0, addAllC (beginC c) (B b).1) else (5, c)) else (6, c)
def mirN (l : List Int32) (top : Nat) : Nat → List Int32
  | 0 => l
  | t + 1 => addI 1312 (mirN l top t) ((mirN l top t).getD (top - t) 0)
def mirrorC (c : Cst) : Int32 × Cst := if roomC c (c.1.length - 2 - c.2.2.1) = true then (0, (mirN c.1 (c.1.length - 2) (c.1.length - 2 - c.2.2.1), c.2.1, c.2.2.1, some c.1.length)) else (5, c)
def raiseN (l : List Int32) (i : Nat) (d : Int32) : Nat → List Int32
  | 0 => l
  | t + 1 => (raiseN l i d t).set (i + t) (((raiseN l i d t).getD (i + t) 0 + d) &&& 7)
def raiseC (c : Cst) (i : Nat) (d : Int32) : Cst := (raiseN c.1 i d (c.1.length - i), c.2)
def repN (l : List Int32) (i : Nat) : Nat → List Int32
  | 0 => l
  | t + 1 => addI 1312 (repN l i t) ((repN l i t).getD (i + t) 0)
def repeatC (c : Cst) (i k : Nat) : Int32 × Cst := if roomC c ((c.1.length - i) * k) = true then (0, (repN c.1 i ((c.1.length - i) * k), c.2)) else (5, c)
def changeC (c : Cst) (k : Nat) : Int32 × Cst := match c.2.2.2 with
  | none => (1, c)
  | some i => if k = 30 then (0, (turnI c.1 i, c.2)) else if k = 31 then mirrorC c else if k = 32 then (0, raiseC c i 1) else if k = 33 then (0, raiseC c i (-1)) else repeatC c i (k - 21)
def readC (B : Blk) (own : Nat) (c : Cst) (k : Nat) : Int32 × Cst :=
  if k ≤ 7 then numberC c (nI k) else if k = 10 then (0, openC c) else if k = 11 then closeG c else if 44 ≤ k then blockC B own c (k - 40) else changeC c k
def tokN (k : Nat) : Prop := k ≤ 7 ∨ k = 10 ∨ k = 11 ∨ (22 ≤ k ∧ k ≤ 33) ∨ (44 ≤ k ∧ k ≤ 49)
def tokOk (t : Int32) : Prop := ∃ k : Nat, tokN k ∧ t = nI k
theorem tokN.lt {k : Nat} (h : tokN k) : k < 50 := by unfold tokN at h; omega
def runF (B : Blk) (own : Nat) : List Int32 → Nat → Cst → List Int32 × Int32 × Int32
  | [], k, c => if c.2.1.length = 0 then (addAllI 32 [] c.1, 0, -1) else ([], 3, nI k)
  | t :: ts, k, c => if (readC B own c t.toNatClampNeg).1 = 0 then runF B own ts (k + 1) (readC B own c t.toNatClampNeg).2 else ([], (readC B own c t.toNatClampNeg).1, nI k)
def runC (B : Blk) (own : Nat) (toks : List Int32) : List Int32 × Int32 × Int32 := runF B own toks 0 ([], [], 0, none)
theorem addI_len {c : Nat} {l : List Int32} {v : Int32} (h : l.length ≤ c) : l.length ≤ (addI c l v).length ∧ (addI c l v).length ≤ c := by
  unfold addI
  split
  · rw [List.length_append]; simp; omega
  · omega
theorem addAllI_ge {c : Nat} {l src : List Int32} (h : l.length ≤ c) : l.length ≤ (addAllI c l src).length := by
  unfold addAllI
  rw [List.length_take, List.length_append]
  omega
theorem mirN_len {l : List Int32} (top : Nat) (h : l.length ≤ 1312) : ∀ t, l.length ≤ (mirN l top t).length ∧ (mirN l top t).length ≤ 1312
  | 0 => ⟨Nat.le_refl _, h⟩
  | t + 1 => by
    have h1 := mirN_len top h t
    have h2 := addI_len (v := (mirN l top t).getD (top - t) 0) h1.2
    rw [mirN]
    omega
theorem repN_len {l : List Int32} (i : Nat) (h : l.length ≤ 1312) : ∀ t, l.length ≤ (repN l i t).length ∧ (repN l i t).length ≤ 1312
  | 0 => ⟨Nat.le_refl _, h⟩
  | t + 1 => by
    have h1 := repN_len i h t
    have h2 := addI_len (v := (repN l i t).getD (i + t) 0) h1.2
    rw [repN]
    omega
theorem raiseN_len (l : List Int32) (i : Nat) (d : Int32) : ∀ t, (raiseN l i d t).length = l.length
  | 0 => rfl
  | t + 1 => by rw [raiseN, List.length_set, raiseN_len l i d t]
/-- more numbers, the same marks -/
theorem CInv.grow {c : Cst} (h : CInv c) {l : List Int32} {it : Option Nat} (h1 : c.1.length ≤ l.length) (h2 : l.length ≤ 1312) (hi : ∀ i, it = some i → i ≤ l.length) : CInv (l, c.2.1, c.2.2.1, it) :=
  ⟨h2, Nat.le_trans h.2.1 h1, hi, fun o ho => Nat.le_trans (h.2.2.2.1 o ho) h1, h.2.2.2.2⟩
theorem CInv.begin {c : Cst} (h : CInv c) : CInv (beginC c) := h.grow (Nat.le_refl _) h.1 (fun i e => by cases e; exact Nat.le_refl _)
theorem CInv.add {c : Cst} (h : CInv c) (v : Int32) : CInv (addC c v) := by
  have h1 := addI_len (v := v) h.1
  exact h.grow (it := c.2.2.2) h1.1 h1.2 (fun i e => Nat.le_trans (h.2.2.1 i e) h1.1)
theorem CInv.addAll {c : Cst} (h : CInv c) (l : List Int32) : CInv (addAllC c l) :=
  h.grow (it := c.2.2.2) (addAllI_ge h.1) (addAllI_len _ _ _) (fun i e => Nat.le_trans (h.2.2.1 i e) (addAllI_ge h.1))
theorem CInv.opn {c : Cst} (h : CInv c) : CInv (openC c) := by
  refine ⟨h.1, Nat.le_refl _, fun i e => (by cases e), fun o ho => ?_, ?_⟩
  · unfold openC at ho
    dsimp only at ho
    split at ho
    · rcases List.mem_append.mp ho with q | q
      · exact h.2.2.2.1 o q
      · rw [List.mem_singleton.mp q]; exact h.2.1
    · exact h.2.2.2.1 o ho
  · unfold openC
    dsimp only
    split
    · rw [List.length_append]; simp; omega
    · exact h.2.2.2.2
theorem getD_mem_or {l : List Nat} {i : Nat} : l.getD i 0 ∈ l ∨ l.getD i 0 = 0 := by
  rw [List.getD_eq_getElem?_getD]
  cases h : l[i]? with
  | none => exact Or.inr rfl
  | some x => exact Or.inl (List.mem_of_getElem? h)
theorem CInv.close {c : Cst} (h : CInv c) : CInv (closeC c) := by
  refine ⟨h.1, ?_, fun i e => ?_, fun o ho => h.2.2.2.1 o (List.mem_of_mem_take ho), ?_⟩
  · rcases getD_mem_or (l := c.2.1) (i := c.2.1.length - 1) with q | q
    · exact h.2.2.2.1 _ q
    · show c.2.1.getD (c.2.1.length - 1) 0 ≤ _
      rw [q]; exact Nat.zero_le _
  · cases e; exact h.2.1
  · show (c.2.1.take (c.2.1.length - 1)).length ≤ 41
    rw [List.length_take]
    have := h.2.2.2.2
    omega
theorem CInv.read {B : Blk} {own : Nat} {c : Cst} (h : CInv c) (k : Nat) : CInv (readC B own c k).2 := by
  unfold readC numberC closeG blockC changeC mirrorC repeatC
  repeat' split
  all_goals first
    | exact h
    | exact h.begin.add _
    | exact h.opn
    | exact h.close
    | exact h.begin.addAll _
    | exact h.grow (it := c.2.2.2) (mirN_len _ h.1 _).1 (mirN_len _ h.1 _).2 (fun i e => Nat.le_trans (h.2.2.1 i e) (mirN_len _ h.1 _).1)
    | exact h.grow (mirN_len _ h.1 _).1 (mirN_len _ h.1 _).2 (fun i e => by cases e; exact (mirN_len _ h.1 _).1)
    | exact h.grow (it := c.2.2.2) (repN_len _ h.1 _).1 (repN_len _ h.1 _).2 (fun i e => Nat.le_trans (h.2.2.1 i e) (repN_len _ h.1 _).1)
    | exact h.grow (it := c.2.2.2) (Nat.le_of_eq (turnN_len _ _ _).symm) (by dsimp only [turnI]; rw [turnN_len]; exact h.1) (fun i e => Nat.le_trans (h.2.2.1 i e) (Nat.le_of_eq (turnN_len _ _ _).symm))
    | exact h.grow (it := c.2.2.2) (Nat.le_of_eq (raiseN_len _ _ _ _).symm) (by rw [raiseN_len]; exact h.1) (fun i e => Nat.le_trans (h.2.2.1 i e) (Nat.le_of_eq (raiseN_len _ _ _ _).symm))
def St.setProg (σ : St) (t : Nat) (num : List Int32) (fa fp : Int32) : St := (up σ.1 (9 + 2 * t) num, up σ.2.1 t (fa, fp), σ.2.2)
theorem setProg_eq (σ : St) (t : Nat) (num : List Int32) (fa fp : Int32) : ((σ.setRow (9 + 2 * t) num).setFa t fa).setFp t fp = σ.setProg t num fa fp := by
  refine Prod.ext rfl (Prod.ext (funext fun j => ?_) rfl)
  show (if j = t then ((if t = t then _ else _ : Int32 × Int32).1, fp) else if j = t then _ else _) = (if j = t then (fa, fp) else _)
  rw [if_pos rfl]
  by_cases h : j = t
  · rw [if_pos h, if_pos h]
  · rw [if_neg h, if_neg h, if_neg h]; rfl
theorem cap_odd {t : Nat} (h : t < 11) : cap (9 + 2 * t) = 32 := by unfold cap; rw [if_neg (by omega), if_neg (by omega), if_neg (by omega), if_neg (by omega), if_neg (by omega)]
theorem cap_even {t : Nat} (h : t < 11) : cap (8 + 2 * t) = 40 := by unfold cap; rw [if_neg (by omega), if_neg (by omega), if_neg (by omega), if_neg (by omega), if_pos (by omega)]
theorem optI_n1 {it : Option Nat} (h : ∀ i, it = some i → i < 2 ^ 31) : optI it = -1 ↔ it = none := by
  cases it with
  | none => exact ⟨fun _ => rfl, fun _ => rfl⟩
  | some i =>
    refine ⟨fun e => ?_, fun e => by cases e⟩
    have h1 := nI_pos (h i rfl)
    rw [show nI i = -1 from e] at h1
    exact absurd (by decide) h1
theorem roomC_t {c : Cst} {m : Nat} (h : CInv c) (hm : m ≤ 20000) : ¬ (32 : Int32) < nI c.1.length - nI c.2.2.1 + nI m ↔ roomC c m = true := by
  have h1 := h.1
  have h2 := h.2.1
  rw [pk_sub h2, nI_add, nI32, nI_ltI (by omega) (by omega)]
  unfold roomC
  rw [decide_eq_true_eq]
  omega
theorem mir_num {n g : Nat} {y : Int32} (hn : n ≤ 1312) (hg : g ≤ n) (h1 : 2 ≤ n → y = nI (n - 2)) (h2 : n < 2 → y < 0) (h3 : n < 2 → y = nI n - 2) : (if (0 : Int32) < y - nI g then y - nI g else 0) = nI (n - 2 - g) := by
  by_cases h : 2 ≤ n
  · rw [h1 h]
    by_cases hg2 : g ≤ n - 2
    · rw [pk_sub hg2]
      by_cases h0 : n - 2 - g = 0
      · rw [h0, if_neg (by decide)]; rfl
      · rw [if_pos (by rw [← nI_0]; exact (nI_ltI (by omega) (by omega)).mpr (by omega))]
    · rw [if_neg (fun q => Int32.lt_irrefl (Int32.lt_trans q (pk_sneg (by omega) (by omega)))), show n - 2 - g = 0 by omega]; rfl
  · have hn2 : n < 2 := by omega
    rw [h3 hn2, show n - 2 - g = 0 by omega]
    have hc : (n = 0 ∧ g = 0) ∨ (n = 1 ∧ g = 0) ∨ (n = 1 ∧ g = 1) := by omega
    rcases hc with ⟨rfl, rfl⟩ | ⟨rfl, rfl⟩ | ⟨rfl, rfl⟩ <;> decide
end
section
set_option maxRecDepth 100000 in
set_option maxHeartbeats 4000000 in
theorem k_X2_accept (l : Launch) (Z : Zx) (A : Nat → Prop) (hA : AdOk Z A) (σ : St) (t q : Nat) (ht : t < 11) (hq : q < 30) (hne : 9 + 2 * t ≠ q) : Km l Z A yX2_accept wsX2_accept { frames := 3, cells := 0, slots := 0, locals := 64 } (Wd Z σ) [.ref (Z.ad (po t)), .ref (Z.ad (ro q))] (Qv (Wd Z (σ.setProg t (addAllI 32 [] (σ.row q)) 0 (-1))) A) := by
  refine Km.of (cc := cX2_accept) (maxL := 2) (ret := none) (by decide) rfl (Nat.le_of_ble_eq_true rfl) hA ?_
  intro X hXl S hAX hRT hXA hQ hXk hXn
  show J X 2 (Wd Z σ) 0 [some (.ref (Z.ad (po t))), some (.ref (Z.ad (ro q)))] []
  refine j_aload_n S dX2_accept_0 rfl ?_
  refine j_get S (C := RX2) (T := TX2) (N := 4) (by decide +kernel) (rd_prog (by omega)) rfl (v := .ref (Z.ad (ro (9 + 2 * t)))) 1 (by decide) (by decide +kernel) rfl rfl dX2_accept_1 ?_
  refine j_aload_n S dX2_accept_4 rfl ?_
  refine j_cVv S (n := 1) (rest := []) (k_X3_copyFrom X.l Z X.A hAX σ (9 + 2 * t) q (by omega) (by omega) (by omega)) ⟨_, _, _, _, rfl, gX2_accept_X3_copyFrom, rfl, rfl, by decide +kernel, ⟨Nat.le_of_ble_eq_true rfl, Nat.le_of_ble_eq_true rfl⟩⟩ (rd_row (by omega)) rfl rfl (Nat.le_of_ble_eq_true rfl) rfl dX2_accept_5 ?_
  refine j_aload_n S dX2_accept_8 rfl ?_
  refine j_iconst S 0 dX2_accept_9 (by decide) ?_
  refine j_putFault S hAX ht (by decide +kernel) (by decide +kernel) dX2_accept_10 ?_
  refine j_aload_n S dX2_accept_13 rfl ?_
  refine j_iconst S (-1) dX2_accept_14 (by decide) ?_
  refine j_putPlace S hAX ht (by decide +kernel) (by decide +kernel) dX2_accept_15 ?_
  exact j_return S hRT hXA hQ hXk hXn dX2_accept_18 (fun H h => by rw [setProg_eq, cap_odd ht] at h; exact h)

set_option maxRecDepth 100000 in
set_option maxHeartbeats 4000000 in
theorem k_X2_refuse (l : Launch) (Z : Zx) (A : Nat → Prop) (hA : AdOk Z A) (σ : St) (t : Nat) (ht : t < 11) (u v : Int32) : Km l Z A yX2_refuse wsX2_refuse { frames := 1, cells := 0, slots := 0, locals := 20 } (Wd Z σ) [.ref (Z.ad (po t)), .int u, .int v] (Qv (Wd Z (σ.setProg t [] u v)) A) := by
  refine Km.of (cc := cX2_refuse) (maxL := 3) (ret := none) (by decide) rfl (Nat.le_of_ble_eq_true rfl) hA ?_
  intro X hXl S hAX hRT hXA hQ hXk hXn
  show J X 3 (Wd Z σ) 0 [some (.ref (Z.ad (po t))), some (.int u), some (.int v)] []
  refine j_aload_n S dX2_refuse_0 rfl ?_
  refine j_get S (C := RX2) (T := TX2) (N := 4) (by decide +kernel) (rd_prog (by omega)) rfl (v := .ref (Z.ad (ro (9 + 2 * t)))) 1 (by decide) (by decide +kernel) rfl rfl dX2_refuse_1 ?_
  refine j_cVv S (n := 0) (rest := []) (k_X3_clear X.l Z X.A hAX σ (9 + 2 * t) (by omega)) ⟨_, _, _, _, rfl, gX2_refuse_X3_clear, rfl, rfl, by decide +kernel, ⟨Nat.le_of_ble_eq_true rfl, Nat.le_of_ble_eq_true rfl⟩⟩ (rd_row (by omega)) rfl rfl (Nat.le_of_ble_eq_true rfl) rfl dX2_refuse_4 ?_
  refine j_aload_n S dX2_refuse_7 rfl ?_
  refine j_iload_n S dX2_refuse_8 rfl ?_
  refine j_putFault S hAX ht (by decide +kernel) (by decide +kernel) dX2_refuse_9 ?_
  refine j_aload_n S dX2_refuse_12 rfl ?_
  refine j_iload_n S dX2_refuse_13 rfl ?_
  refine j_putPlace S hAX ht (by decide +kernel) (by decide +kernel) dX2_refuse_14 ?_
  exact j_return S hRT hXA hQ hXk hXn dX2_refuse_17 (fun H h => by rw [setProg_eq] at h; exact h)

set_option maxRecDepth 100000 in
set_option maxHeartbeats 4000000 in
theorem k_X1_hasRoom (l : Launch) (Z : Zx) (A : Nat → Prop) (hA : AdOk Z A) (σ : St) (c : Cst) (hI : CInv c) (m : Nat) (hm : m ≤ 20000) : Km l Z A yX1_hasRoom wsX1_hasRoom { frames := 0, cells := 0, slots := 0, locals := 0 } (Wd Z (σ.setC c)) [.ref (Z.ad 2), .int (nI m)] (Qi (Wd Z (σ.setC c)) A (fun v => v = b2i (roomC c m))) := by
  refine Km.of (cc := cX1_hasRoom) (maxL := 2) (ret := (some .boolean)) (by decide) rfl (Nat.le_of_ble_eq_true rfl) hA ?_
  intro X hXl S hAX hRT hXA hQ hXk hXn
  show J X 2 (Wd Z (σ.setC c)) 0 [some (.ref (Z.ad 2)), some (.int (nI m))] []
  obtain ⟨hI1, hI2, hI3, hI4, hI5⟩ := id hI
  refine j_aload_n S dX1_hasRoom_0 rfl ?_
  refine j_get S (C := RX1) (T := TX1) (N := 4) (by decide +kernel) rd_comp rfl (v := .ref (Z.ad (ro 6))) 0 (by decide) (by decide +kernel) rfl rfl dX1_hasRoom_1 ?_
  refine j_getN S (C := RX3) (T := TX3) (N := 2) (by decide +kernel) (rd_row (by omega)) rfl (v := .int (nI c.1.length)) 1 (by decide) 9 rfl rfl rfl dX1_hasRoom_4 ?_
  refine j_aload_n S dX1_hasRoom_7 rfl ?_
  refine j_get S (C := RX1) (T := TX1) (N := 4) (by decide +kernel) rd_comp rfl (v := .int (nI c.2.2.1)) 2 (by decide) (by decide +kernel) rfl rfl dX1_hasRoom_8 ?_
  refine j_isub S ((nI c.1.length) - (nI c.2.2.1)) dX1_hasRoom_11 rfl ?_
  refine j_iload_n S dX1_hasRoom_12 rfl ?_
  refine j_iadd S (((nI c.1.length) - (nI c.2.2.1)) + (nI m)) dX1_hasRoom_13 rfl ?_
  refine j_bipush S 32 dX1_hasRoom_14 (by decide) ?_
  refine j_icmp_gt S 23 dX1_hasRoom_16 (by decide) (fun h => ?_) (fun h => ?_)
  · skip
    refine j_iconst S 0 dX1_hasRoom_23 (by decide) ?_
    exact j_ireturn S hRT hXA hQ hXk hXn dX1_hasRoom_24 rfl (by rw [show roomC c m = false from by cases hb : roomC c m with | false => rfl | true => exact absurd h ((roomC_t hI hm).mpr hb)]; rfl) (fun H h => h)
  · skip
    refine j_iconst S 1 dX1_hasRoom_19 (by decide) ?_
    refine j_goto S 24 dX1_hasRoom_20 (by decide) ?_
    exact j_ireturn S hRT hXA hQ hXk hXn dX1_hasRoom_24 rfl (by rw [(roomC_t hI hm).mp h]; rfl) (fun H h => h)

set_option maxRecDepth 100000 in
set_option maxHeartbeats 4000000 in
theorem k_X1_beginItem (l : Launch) (Z : Zx) (A : Nat → Prop) (hA : AdOk Z A) (σ : St) (c : Cst) (hI : CInv c) : Km l Z A yX1_beginItem wsX1_beginItem { frames := 0, cells := 0, slots := 0, locals := 0 } (Wd Z (σ.setC c)) [.ref (Z.ad 2)] (Qv (Wd Z (σ.setC (beginC c))) A) := by
  refine Km.of (cc := cX1_beginItem) (maxL := 1) (ret := none) (by decide) rfl (Nat.le_of_ble_eq_true rfl) hA ?_
  intro X hXl S hAX hRT hXA hQ hXk hXn
  show J X 1 (Wd Z (σ.setC c)) 0 [some (.ref (Z.ad 2))] []
  obtain ⟨hI1, hI2, hI3, hI4, hI5⟩ := id hI
  refine j_aload_n S dX1_beginItem_0 rfl ?_
  refine j_aload_n S dX1_beginItem_1 rfl ?_
  refine j_get S (C := RX1) (T := TX1) (N := 4) (by decide +kernel) rd_comp rfl (v := .ref (Z.ad (ro 6))) 0 (by decide) (by decide +kernel) rfl rfl dX1_beginItem_2 ?_
  refine j_getN S (C := RX3) (T := TX3) (N := 2) (by decide +kernel) (rd_row (by omega)) rfl (v := .int (nI c.1.length)) 1 (by decide) 9 rfl rfl rfl dX1_beginItem_5 ?_
  refine j_putIs S hAX (by decide +kernel) (by decide +kernel) dX1_beginItem_8 ?_
  rw [show nI c.1.length = optI (some c.1.length) from rfl, setC_is]
  exact j_return S hRT hXA hQ hXk hXn dX1_beginItem_11 (fun H h => h)

theorem open_add (σ : St) (c : Cst) : (σ.setC c).setRow 7 (addI (cap 7) (c.2.1.map nI) (nI c.2.2.1)) = σ.setC (c.1, if c.2.1.length < 41 then c.2.1 ++ [c.2.2.1] else c.2.1, c.2.2) := by
  have e : addI (cap 7) (c.2.1.map nI) (nI c.2.2.1) = (if c.2.1.length < 41 then c.2.1 ++ [c.2.2.1] else c.2.1).map nI := by
    unfold addI
    rw [List.length_map, show cap 7 = 41 from rfl]
    split
    · rw [List.map_append]; rfl
    · rfl
  rw [e, setC_row7]
theorem close_cut (σ : St) (c : Cst) (h : c.2.1.length < 2 ^ 31) (h0 : 0 < c.2.1.length) : (σ.setC c).setRow 7 (cutI (c.2.1.map nI) (nI c.2.1.length - 1)) = σ.setC (c.1, c.2.1.take (c.2.1.length - 1), c.2.2) := by
  obtain ⟨n, hn⟩ : ∃ n, c.2.1.length = n + 1 := ⟨c.2.1.length - 1, by omega⟩
  rw [hn, nI_pred, cutI_nI _ (by omega), ← List.map_take, setC_row7]
  rfl
theorem last_map (l : List Nat) : (l.map nI).getD ((l.map nI).length - 1) 0 = nI (l.getD (l.length - 1) 0) := by
  rw [List.length_map, List.getD_eq_getElem?_getD, List.getD_eq_getElem?_getD, List.getElem?_map]
  cases l[l.length - 1]? <;> rfl

set_option maxRecDepth 100000 in
set_option maxHeartbeats 4000000 in
theorem k_X1_openGroup (l : Launch) (Z : Zx) (A : Nat → Prop) (hA : AdOk Z A) (σ : St) (c : Cst) (hI : CInv c) : Km l Z A yX1_openGroup wsX1_openGroup { frames := 1, cells := 0, slots := 0, locals := 21 } (Wd Z (σ.setC c)) [.ref (Z.ad 2)] (Qv (Wd Z (σ.setC (openC c))) A) := by
  refine Km.of (cc := cX1_openGroup) (maxL := 1) (ret := none) (by decide) rfl (Nat.le_of_ble_eq_true rfl) hA ?_
  intro X hXl S hAX hRT hXA hQ hXk hXn
  show J X 1 (Wd Z (σ.setC c)) 0 [some (.ref (Z.ad 2))] []
  obtain ⟨hI1, hI2, hI3, hI4, hI5⟩ := id hI
  refine j_aload_n S dX1_openGroup_0 rfl ?_
  refine j_get S (C := RX1) (T := TX1) (N := 4) (by decide +kernel) rd_comp rfl (v := .ref (Z.ad (ro 7))) 1 (by decide) (by decide +kernel) rfl rfl dX1_openGroup_1 ?_
  refine j_aload_n S dX1_openGroup_4 rfl ?_
  refine j_get S (C := RX1) (T := TX1) (N := 4) (by decide +kernel) rd_comp rfl (v := .int (nI c.2.2.1)) 2 (by decide) (by decide +kernel) rfl rfl dX1_openGroup_5 ?_
  refine j_cVv S (n := 1) (rest := []) (k_X3_add X.l Z X.A hAX (σ.setC c) 7 (by omega) (nI c.2.2.1)) ⟨_, _, _, _, rfl, gX1_openGroup_X3_add, rfl, rfl, by decide +kernel, ⟨Nat.le_of_ble_eq_true rfl, Nat.le_of_ble_eq_true rfl⟩⟩ (rd_row (by omega)) rfl rfl (Nat.le_of_ble_eq_true rfl) rfl dX1_openGroup_8 ?_
  rw [setC_7, open_add]
  refine j_aload_n S dX1_openGroup_11 rfl ?_
  refine j_aload_n S dX1_openGroup_12 rfl ?_
  refine j_get S (C := RX1) (T := TX1) (N := 4) (by decide +kernel) rd_comp rfl (v := .ref (Z.ad (ro 6))) 0 (by decide) (by decide +kernel) rfl rfl dX1_openGroup_13 ?_
  refine j_getN S (C := RX3) (T := TX3) (N := 2) (by decide +kernel) (rd_row (by omega)) rfl (v := .int (nI c.1.length)) 1 (by decide) 9 rfl rfl rfl dX1_openGroup_16 ?_
  refine j_putGs S hAX (by decide +kernel) (by decide +kernel) dX1_openGroup_19 ?_
  rw [setC_gs]
  refine j_aload_n S dX1_openGroup_22 rfl ?_
  refine j_iconst S (-1) dX1_openGroup_23 (by decide) ?_
  refine j_putIs S hAX (by decide +kernel) (by decide +kernel) dX1_openGroup_24 ?_
  rw [show (-1 : Int32) = optI none from rfl, setC_is]
  exact j_return S hRT hXA hQ hXk hXn dX1_openGroup_27 (fun H h => h)

set_option maxRecDepth 100000 in
set_option maxHeartbeats 4000000 in
theorem k_X1_closeGroup (l : Launch) (Z : Zx) (A : Nat → Prop) (hA : AdOk Z A) (σ : St) (c : Cst) (hI : CInv c) : Km l Z A yX1_closeGroup wsX1_closeGroup { frames := 2, cells := 0, slots := 0, locals := 42 } (Wd Z (σ.setC c)) [.ref (Z.ad 2)] (Qi (Wd Z (σ.setC (closeG c).2)) A (fun v => v = (closeG c).1)) := by
  refine Km.of (cc := cX1_closeGroup) (maxL := 1) (ret := (some .int)) (by decide) rfl (Nat.le_of_ble_eq_true rfl) hA ?_
  intro X hXl S hAX hRT hXA hQ hXk hXn
  show J X 1 (Wd Z (σ.setC c)) 0 [some (.ref (Z.ad 2))] []
  obtain ⟨hI1, hI2, hI3, hI4, hI5⟩ := id hI
  refine j_aload_n S dX1_closeGroup_0 rfl ?_
  refine j_get S (C := RX1) (T := TX1) (N := 4) (by decide +kernel) rd_comp rfl (v := .ref (Z.ad (ro 7))) 1 (by decide) (by decide +kernel) rfl rfl dX1_closeGroup_1 ?_
  refine j_getN S (C := RX3) (T := TX3) (N := 2) (by decide +kernel) (rd_row (by omega)) rfl (v := .int (nI (c.2.1.map nI).length)) 1 (by decide) 9 rfl rfl rfl dX1_closeGroup_4 ?_
  rw [List.length_map]
  refine j_if_ne S 12 dX1_closeGroup_7 (by decide) (fun h => ?_) (fun h => ?_)
  · skip
    have h0 : 0 < c.2.1.length := by rcases Nat.eq_zero_or_pos c.2.1.length with q | q; exact absurd (by rw [q]; rfl) h; exact q
    have e9 : closeG c = (if roomC (closeC c) 0 = true then 0 else 5, closeC c) := if_neg (by omega)
    refine j_aload_n S dX1_closeGroup_12 rfl ?_
    refine j_aload_n S dX1_closeGroup_13 rfl ?_
    refine j_get S (C := RX1) (T := TX1) (N := 4) (by decide +kernel) rd_comp rfl (v := .int (nI c.2.2.1)) 2 (by decide) (by decide +kernel) rfl rfl dX1_closeGroup_14 ?_
    refine j_putIs S hAX (by decide +kernel) (by decide +kernel) dX1_closeGroup_17 ?_
    rw [show nI c.2.2.1 = optI (some c.2.2.1) from rfl, setC_is]
    refine j_aload_n S dX1_closeGroup_20 rfl ?_
    refine j_aload_n S dX1_closeGroup_21 rfl ?_
    refine j_get S (C := RX1) (T := TX1) (N := 4) (by decide +kernel) rd_comp rfl (v := .ref (Z.ad (ro 7))) 1 (by decide) (by decide +kernel) rfl rfl dX1_closeGroup_22 ?_
    refine j_cVi S (n := 0) (rest := [.ref (Z.ad 2)]) (k_X3_last X.l Z X.A hAX (σ.setC (c.1, c.2.1, c.2.2.1, some c.2.2.1)) 7 (by omega)) ⟨_, _, _, _, rfl, gX1_closeGroup_X3_last, rfl, rfl, by decide +kernel, ⟨Nat.le_of_ble_eq_true rfl, Nat.le_of_ble_eq_true rfl⟩⟩ (rd_row (by omega)) rfl rfl (Nat.le_of_ble_eq_true rfl) rfl dX1_closeGroup_25 (fun v9 hv9 => ?_)
    subst hv9
    rw [show ((σ.setC (c.1, c.2.1, c.2.2.1, some c.2.2.1)).row 7) = c.2.1.map nI from rfl, last_map]
    refine j_putGs S hAX (by decide +kernel) (by decide +kernel) dX1_closeGroup_28 ?_
    rw [setC_gs]
    refine j_aload_n S dX1_closeGroup_31 rfl ?_
    refine j_get S (C := RX1) (T := TX1) (N := 4) (by decide +kernel) rd_comp rfl (v := .ref (Z.ad (ro 7))) 1 (by decide) (by decide +kernel) rfl rfl dX1_closeGroup_32 ?_
    refine j_aload_n S dX1_closeGroup_35 rfl ?_
    refine j_get S (C := RX1) (T := TX1) (N := 4) (by decide +kernel) rd_comp rfl (v := .ref (Z.ad (ro 7))) 1 (by decide) (by decide +kernel) rfl rfl dX1_closeGroup_36 ?_
    refine j_getN S (C := RX3) (T := TX3) (N := 2) (by decide +kernel) (rd_row (by omega)) rfl (v := .int (nI (c.2.1.map nI).length)) 1 (by decide) 9 rfl rfl rfl dX1_closeGroup_39 ?_
    refine j_iconst S 1 dX1_closeGroup_42 (by decide) ?_
    refine j_isub S ((nI (c.2.1.map nI).length) - 1) dX1_closeGroup_43 rfl ?_
    refine j_cVv S (n := 1) (rest := []) (k_X3_cutTo X.l Z X.A hAX (σ.setC (c.1, c.2.1, c.2.1.getD (c.2.1.length - 1) 0, some c.2.2.1)) 7 (by omega) ((nI (c.2.1.map nI).length) - 1)) ⟨_, _, _, _, rfl, gX1_closeGroup_X3_cutTo, rfl, rfl, by decide +kernel, ⟨Nat.le_of_ble_eq_true rfl, Nat.le_of_ble_eq_true rfl⟩⟩ (rd_row (by omega)) rfl rfl (Nat.le_of_ble_eq_true rfl) rfl dX1_closeGroup_44 ?_
    rw [List.length_map]
    have e8 := close_cut σ (c.1, c.2.1, c.2.1.getD (c.2.1.length - 1) 0, some c.2.2.1) (by dsimp only; omega) h0
    dsimp only at e8
    rw [show (σ.setC (c.1, c.2.1, c.2.1.getD (c.2.1.length - 1) 0, some c.2.2.1)).row 7 = c.2.1.map nI from rfl, e8]
    refine J.mono (w' := Wd Z (σ.setC (closeC c))) (fun H h9 => h9) ?_
    refine j_aload_n S dX1_closeGroup_47 rfl ?_
    refine j_iconst S 0 dX1_closeGroup_48 (by decide) ?_
    refine j_cVi S (n := 1) (rest := []) (k_X1_hasRoom X.l Z X.A hAX σ (closeC c) hI.close 0 (by omega)) ⟨_, _, _, _, rfl, gX1_closeGroup_X1_hasRoom, rfl, rfl, by decide +kernel, ⟨Nat.le_of_ble_eq_true rfl, Nat.le_of_ble_eq_true rfl⟩⟩ rd_comp rfl rfl (Nat.le_of_ble_eq_true rfl) rfl dX1_closeGroup_49 (fun v9 hv9 => ?_)
    subst hv9
    refine j_if_eq S 59 dX1_closeGroup_52 (by decide) (fun h2 => ?_) (fun h2 => ?_)
    · skip
      refine j_iconst S 5 dX1_closeGroup_59 (by decide) ?_
      exact j_ireturn S hRT hXA hQ hXk hXn dX1_closeGroup_60 rfl (by rw [e9, if_neg (by rw [b2i_0.mp h2]; decide)]) (fun H h => by rw [e9]; exact h)
    · skip
      refine j_iconst S 0 dX1_closeGroup_55 (by decide) ?_
      refine j_goto S 60 dX1_closeGroup_56 (by decide) ?_
      exact j_ireturn S hRT hXA hQ hXk hXn dX1_closeGroup_60 rfl (by rw [e9, if_pos (b2i_n0.mp h2)]) (fun H h => by rw [e9]; exact h)
  · skip
    have h0 : c.2.1.length = 0 := (nI_eq (by omega) (by omega)).mp h
    refine j_iconst S 2 dX1_closeGroup_10 (by decide) ?_
    exact j_ireturn S hRT hXA hQ hXk hXn dX1_closeGroup_11 rfl (by unfold closeG; rw [if_pos h0]) (fun H h => by unfold closeG; rw [if_pos h0]; exact h)

set_option maxRecDepth 100000 in
set_option maxHeartbeats 4000000 in
theorem k_X1_addNumber (l : Launch) (Z : Zx) (A : Nat → Prop) (hA : AdOk Z A) (σ : St) (c : Cst) (hI : CInv c) (t : Int32) : Km l Z A yX1_addNumber wsX1_addNumber { frames := 1, cells := 0, slots := 0, locals := 21 } (Wd Z (σ.setC c)) [.ref (Z.ad 2), .int t] (Qi (Wd Z (σ.setC (numberC c t).2)) A (fun v => v = (numberC c t).1)) := by
  refine Km.of (cc := cX1_addNumber) (maxL := 2) (ret := (some .int)) (by decide) rfl (Nat.le_of_ble_eq_true rfl) hA ?_
  intro X hXl S hAX hRT hXA hQ hXk hXn
  show J X 2 (Wd Z (σ.setC c)) 0 [some (.ref (Z.ad 2)), some (.int t)] []
  obtain ⟨hI1, hI2, hI3, hI4, hI5⟩ := id hI
  refine j_aload_n S dX1_addNumber_0 rfl ?_
  refine j_iconst S 1 dX1_addNumber_1 (by decide) ?_
  refine j_cVi S (n := 1) (rest := []) (k_X1_hasRoom X.l Z X.A hAX σ c hI 1 (by omega)) ⟨_, _, _, _, rfl, gX1_addNumber_X1_hasRoom, rfl, rfl, by decide +kernel, ⟨Nat.le_of_ble_eq_true rfl, Nat.le_of_ble_eq_true rfl⟩⟩ rd_comp rfl rfl (Nat.le_of_ble_eq_true rfl) rfl dX1_addNumber_2 (fun v9 hv9 => ?_)
  subst hv9
  refine j_if_ne S 10 dX1_addNumber_5 (by decide) (fun h => ?_) (fun h => ?_)
  · skip
    have e9 : numberC c t = (0, addC (beginC c) t) := if_pos (b2i_n0.mp h)
    refine j_aload_n S dX1_addNumber_10 rfl ?_
    refine j_cVv S (n := 0) (rest := []) (k_X1_beginItem X.l Z X.A hAX σ c hI) ⟨_, _, _, _, rfl, gX1_addNumber_X1_beginItem, rfl, rfl, by decide +kernel, ⟨Nat.le_of_ble_eq_true rfl, Nat.le_of_ble_eq_true rfl⟩⟩ rd_comp rfl rfl (Nat.le_of_ble_eq_true rfl) rfl dX1_addNumber_11 ?_
    refine j_aload_n S dX1_addNumber_14 rfl ?_
    refine j_get S (C := RX1) (T := TX1) (N := 4) (by decide +kernel) rd_comp rfl (v := .ref (Z.ad (ro 6))) 0 (by decide) (by decide +kernel) rfl rfl dX1_addNumber_15 ?_
    refine j_iload_n S dX1_addNumber_18 rfl ?_
    refine j_cVv S (n := 1) (rest := []) (k_X3_add X.l Z X.A hAX (σ.setC (beginC c)) 6 (by omega) t) ⟨_, _, _, _, rfl, gX1_addNumber_X3_add, rfl, rfl, by decide +kernel, ⟨Nat.le_of_ble_eq_true rfl, Nat.le_of_ble_eq_true rfl⟩⟩ (rd_row (by omega)) rfl rfl (Nat.le_of_ble_eq_true rfl) rfl dX1_addNumber_19 ?_
    rw [setC_row6]
    refine j_iconst S 0 dX1_addNumber_22 (by decide) ?_
    exact j_ireturn S hRT hXA hQ hXk hXn dX1_addNumber_23 rfl (by rw [e9]) (fun H h => by rw [e9]; exact h)
  · skip
    have e9 : numberC c t = (5, c) := if_neg (by rw [b2i_0.mp h]; decide)
    refine j_iconst S 5 dX1_addNumber_8 (by decide) ?_
    exact j_ireturn S hRT hXA hQ hXk hXn dX1_addNumber_9 rfl (by rw [e9]) (fun H h => by rw [e9]; exact h)
end
section
def blkOf (σ : St) : Blk := fun b => (σ.row (9 + 2 * b), σ.fa b)
theorem i4 : (4 : Int32) = nI 4 := rfl
theorem i2 : (2 : Int32) = nI 2 := rfl
theorem optI_some {c : Cst} {i : Nat} (h : c.2.2.2 = some i) : optI c.2.2.2 = nI i := by rw [h]; rfl

set_option maxRecDepth 100000 in
set_option maxHeartbeats 4000000 in
theorem k_X1_addBlock (l : Launch) (Z : Zx) (A : Nat → Prop) (hA : AdOk Z A) (σ : St) (c : Cst) (hI : CInv c) (o b : Nat) (ho : o < 10) (hb : b < 10) : Km l Z A yX1_addBlock wsX1_addBlock { frames := 2, cells := 0, slots := 0, locals := 43 } (Wd Z (σ.setC c)) [.ref (Z.ad 2), .ref (Z.ad 1), .int (nI o), .int (nI b)] (Qi (Wd Z (σ.setC (blockC (blkOf σ) o c b).2)) A (fun v => v = (blockC (blkOf σ) o c b).1)) := by
  refine Km.of (cc := cX1_addBlock) (maxL := 6) (ret := (some .int)) (by decide) rfl (Nat.le_of_ble_eq_true rfl) hA ?_
  intro X hXl S hAX hRT hXA hQ hXk hXn
  show J X 6 (Wd Z (σ.setC c)) 0 [some (.ref (Z.ad 2)), some (.ref (Z.ad 1)), some (.int (nI o)), some (.int (nI b)), none, none] []
  obtain ⟨hI1, hI2, hI3, hI4, hI5⟩ := id hI
  have main : ¬ (4 ≤ o ∧ o ≤ b) → J X 6 (Wd Z (σ.setC c)) 34 [some (.ref (Z.ad 2)), some (.ref (Z.ad 1)), some (.int (nI o)), some (.int (nI b)), some (.int 0), none] [] := by
    intro hob
    refine J.caps (fun hcap => ?_)
    have hl9 : (σ.row (9 + 2 * b)).length ≤ 32 := by have := hcap (9 + 2 * b) (by omega); rw [setC_ne σ c (by omega) (by omega), cap_odd (by omega)] at this; exact this
    refine j_aload_n S dX1_addBlock_34 rfl ?_
    refine j_iload_n S dX1_addBlock_35 rfl ?_
    refine j_aaload S (v := Z.ad (po b)) rd_progs (vp_in_nI hb (by omega)) (by show some (Z.ad (po (nI b).toNatClampNeg)) = _; rw [nI_clamp (by omega)]) dX1_addBlock_36 ?_
    refine j_astore S [some (.ref (Z.ad 2)), some (.ref (Z.ad 1)), some (.int (nI o)), some (.int (nI b)), some (.int 0), some (.ref (Z.ad (po b)))] dX1_addBlock_37 (by decide) rfl rfl ?_
    refine j_aload S dX1_addBlock_39 rfl ?_
    refine j_getN S (C := RX2) (T := TX2) (N := 4) (by decide +kernel) (rd_prog (by omega)) rfl (v := .int ((σ.setC c).fa b)) 2 (by decide) 10 rfl rfl rfl dX1_addBlock_41 ?_
    refine j_if_eq S 50 dX1_addBlock_44 (by decide) (fun h => ?_) (fun h => ?_)
    · skip
      refine j_aload_n S dX1_addBlock_50 rfl ?_
      refine j_aload S dX1_addBlock_51 rfl ?_
      refine j_getN S (C := RX2) (T := TX2) (N := 4) (by decide +kernel) (rd_prog (by omega)) rfl (v := .ref (Z.ad (ro (9 + 2 * b)))) 1 (by decide) 11 rfl rfl rfl dX1_addBlock_53 ?_
      refine j_getN S (C := RX3) (T := TX3) (N := 2) (by decide +kernel) (rd_row (by omega)) rfl (v := .int (nI ((σ.setC c).row (9 + 2 * b)).length)) 1 (by decide) 9 rfl rfl rfl dX1_addBlock_56 ?_
      rw [setC_ne σ c (by omega) (by omega)]
      refine j_cVi S (n := 1) (rest := []) (k_X1_hasRoom X.l Z X.A hAX σ c hI (σ.row (9 + 2 * b)).length (by omega)) ⟨_, _, _, _, rfl, gX1_addBlock_X1_hasRoom, rfl, rfl, by decide +kernel, ⟨Nat.le_of_ble_eq_true rfl, Nat.le_of_ble_eq_true rfl⟩⟩ rd_comp rfl rfl (Nat.le_of_ble_eq_true rfl) rfl dX1_addBlock_59 (fun v9 hv9 => ?_)
      subst hv9
      refine j_if_ne S 67 dX1_addBlock_62 (by decide) (fun h2 => ?_) (fun h2 => ?_)
      · skip
        have e9 : blockC (blkOf σ) o c b = (0, addAllC (beginC c) (σ.row (9 + 2 * b))) := by unfold blockC; rw [if_neg hob, if_pos (show (blkOf σ b).2 = 0 from h), if_pos (show roomC c (blkOf σ b).1.length = true from b2i_n0.mp h2)]; rfl
        refine j_aload_n S dX1_addBlock_67 rfl ?_
        refine j_cVv S (n := 0) (rest := []) (k_X1_beginItem X.l Z X.A hAX σ c hI) ⟨_, _, _, _, rfl, gX1_addBlock_X1_beginItem, rfl, rfl, by decide +kernel, ⟨Nat.le_of_ble_eq_true rfl, Nat.le_of_ble_eq_true rfl⟩⟩ rd_comp rfl rfl (Nat.le_of_ble_eq_true rfl) rfl dX1_addBlock_68 ?_
        refine j_aload_n S dX1_addBlock_71 rfl ?_
        refine j_get S (C := RX1) (T := TX1) (N := 4) (by decide +kernel) rd_comp rfl (v := .ref (Z.ad (ro 6))) 0 (by decide) (by decide +kernel) rfl rfl dX1_addBlock_72 ?_
        refine j_aload S dX1_addBlock_75 rfl ?_
        refine j_getN S (C := RX2) (T := TX2) (N := 4) (by decide +kernel) (rd_prog (by omega)) rfl (v := .ref (Z.ad (ro (9 + 2 * b)))) 1 (by decide) 11 rfl rfl rfl dX1_addBlock_77 ?_
        refine j_cVv S (n := 1) (rest := []) (k_X3_addAll X.l Z X.A hAX (σ.setC (beginC c)) 6 (9 + 2 * b) (by omega) (by omega) (by omega)) ⟨_, _, _, _, rfl, gX1_addBlock_X3_addAll, rfl, rfl, by decide +kernel, ⟨Nat.le_of_ble_eq_true rfl, Nat.le_of_ble_eq_true rfl⟩⟩ (rd_row (by omega)) rfl rfl (Nat.le_of_ble_eq_true rfl) rfl dX1_addBlock_80 ?_
        rw [setC_ne σ (beginC c) (r := 9 + 2 * b) (by omega) (by omega), setC_row6]
        refine j_iconst S 0 dX1_addBlock_83 (by decide) ?_
        exact j_ireturn S hRT hXA hQ hXk hXn dX1_addBlock_84 rfl (by rw [e9]) (fun H h9 => by rw [e9]; exact h9)
      · skip
        have e9 : blockC (blkOf σ) o c b = (5, c) := by unfold blockC; rw [if_neg hob, if_pos (show (blkOf σ b).2 = 0 from h), if_neg (by rw [show roomC c (blkOf σ b).1.length = false from b2i_0.mp h2]; decide)]
        refine j_iconst S 5 dX1_addBlock_65 (by decide) ?_
        exact j_ireturn S hRT hXA hQ hXk hXn dX1_addBlock_66 rfl (by rw [e9]) (fun H h9 => by rw [e9]; exact h9)
    · skip
      have e9 : blockC (blkOf σ) o c b = (6, c) := by unfold blockC; rw [if_neg hob, if_neg (show ¬ (blkOf σ b).2 = 0 from h)]
      refine j_bipush S 6 dX1_addBlock_47 (by decide) ?_
      exact j_ireturn S hRT hXA hQ hXk hXn dX1_addBlock_49 rfl (by rw [e9]) (fun H h9 => by rw [e9]; exact h9)
  refine j_iload_n S dX1_addBlock_0 rfl ?_
  refine j_if_lt S 10 dX1_addBlock_1 (by decide) (fun h9 => absurd h9 (nI_pos (by omega))) (fun _ => ?_)
  refine j_iload_n S dX1_addBlock_4 rfl ?_
  refine j_aload_n S dX1_addBlock_5 rfl ?_
  refine j_alen S (v := 10) (t0 := 1) rd_progs rfl rfl dX1_addBlock_6 ?_
  refine j_icmp_lt S 14 dX1_addBlock_7 (by decide) (fun _ => ?_) (fun h9 => absurd (by rw [show (10 : Int32) = nI 10 from rfl, nI_ltI (by omega) (by omega)]; exact hb) h9)
  refine j_iconst S 0 dX1_addBlock_14 (by decide) ?_
  refine j_istore S [some (.ref (Z.ad 2)), some (.ref (Z.ad 1)), some (.int (nI o)), some (.int (nI b)), some (.int 0), none] dX1_addBlock_15 (by decide) rfl rfl ?_
  refine j_iload S dX1_addBlock_17 rfl ?_
  refine j_if_ne S 32 dX1_addBlock_19 (by decide) (fun h9 => absurd rfl h9) (fun _ => ?_)
  refine j_iload_n S dX1_addBlock_22 rfl ?_
  refine j_iconst S 4 dX1_addBlock_23 (by decide) ?_
  refine j_icmp_lt S 34 dX1_addBlock_24 (by decide) (fun h => ?_) (fun h => ?_)
  · skip
    exact main (by rw [i4, nI_ltI (by omega) (by omega)] at h; omega)
  · skip
    rw [i4, nI_ltI (by omega) (by omega)] at h
    refine j_iload_n S dX1_addBlock_27 rfl ?_
    refine j_iload_n S dX1_addBlock_28 rfl ?_
    refine j_icmp_lt S 34 dX1_addBlock_29 (by decide) (fun h2 => ?_) (fun h2 => ?_)
    · skip
      exact main (by rw [nI_ltI (by omega) (by omega)] at h2; omega)
    · skip
      rw [nI_ltI (by omega) (by omega)] at h2
      have e9 : blockC (blkOf σ) o c b = (4, c) := if_pos ⟨by omega, by omega⟩
      refine j_iconst S 4 dX1_addBlock_32 (by decide) ?_
      exact j_ireturn S hRT hXA hQ hXk hXn dX1_addBlock_33 rfl (by rw [e9]) (fun H h9 => by rw [e9]; exact h9)

theorem mir_exit {n g t : Nat} {y : Int32} (hn : n < 2 ^ 20) (hg : g ≤ n) (ht : t = n - 2 - g) (hy : 2 ≤ n → t ≤ n - 2 → y = nI (n - 2 - t)) (hy0 : n < 2 → y < 0) : y ≤ nI g := by
  rcases Nat.lt_or_ge n 2 with q | q
  · exact Int32.le_of_lt (Int32.lt_of_lt_of_le (hy0 q) (nI_pos' (by omega)))
  · rw [hy q (by omega), nI_leI (by omega) (by omega)]
    omega

set_option maxRecDepth 100000 in
set_option maxHeartbeats 4000000 in
theorem k_X1_addMirror (l : Launch) (Z : Zx) (A : Nat → Prop) (hA : AdOk Z A) (σ : St) (c : Cst) (hI : CInv c) : Km l Z A yX1_addMirror wsX1_addMirror { frames := 1, cells := 0, slots := 0, locals := 21 } (Wd Z (σ.setC c)) [.ref (Z.ad 2)] (Qi (Wd Z (σ.setC (mirrorC c).2)) A (fun v => v = (mirrorC c).1)) := by
  refine Km.of (cc := cX1_addMirror) (maxL := 3) (ret := (some .int)) (by decide) rfl (Nat.le_of_ble_eq_true rfl) hA ?_
  intro X hXl S hAX hRT hXA hQ hXk hXn
  show J X 3 (Wd Z (σ.setC c)) 0 [some (.ref (Z.ad 2)), none, none] []
  obtain ⟨hI1, hI2, hI3, hI4, hI5⟩ := id hI
  have loop : roomC c (c.1.length - 2 - c.2.2.1) = true → ∀ (f t : Nat) (y0 y : Int32), t + f = (c.1.length - 2 - c.2.2.1) → (2 ≤ c.1.length → t ≤ c.1.length - 2 → y = nI (c.1.length - 2 - t)) → (c.1.length < 2 → y < 0) → J X 3 (Wd Z (σ.setC (mirN c.1 (c.1.length - 2) t, c.2.1, c.2.2.1, some c.1.length))) 35 [some (.ref (Z.ad 2)), some (.int y0), some (.int y)] [] := by
    intro hroom
    have e9 : mirrorC c = (0, (mirN c.1 (c.1.length - 2) (c.1.length - 2 - c.2.2.1), c.2.1, c.2.2.1, some c.1.length)) := if_pos hroom
    intro f
    induction f with
    | zero =>
      intro t y0 y ht hy hy0
      refine j_iload_n S dX1_addMirror_35 rfl ?_
      refine j_aload_n S dX1_addMirror_36 rfl ?_
      refine j_get S (C := RX1) (T := TX1) (N := 4) (by decide +kernel) rd_comp rfl (v := .int (nI c.2.2.1)) 2 (by decide) (by decide +kernel) rfl rfl dX1_addMirror_37 ?_
      refine j_icmp_le S 64 dX1_addMirror_40 (by decide) (fun _ => ?_) (fun h9 => absurd (mir_exit (by omega) hI2 (by omega) hy hy0) h9)
      refine j_iconst S 0 dX1_addMirror_64 (by decide) ?_
      exact j_ireturn S hRT hXA hQ hXk hXn dX1_addMirror_65 rfl (by rw [e9]) (fun H h9 => by rw [e9]; rw [show t = (c.1.length - 2 - c.2.2.1) by omega] at h9; exact h9)
    | succ f ih =>
      intro t y0 y ht hy hy0
      obtain rfl := hy (by omega) (by omega)
      refine j_iload_n S dX1_addMirror_35 rfl ?_
      refine j_aload_n S dX1_addMirror_36 rfl ?_
      refine j_get S (C := RX1) (T := TX1) (N := 4) (by decide +kernel) rd_comp rfl (v := .int (nI c.2.2.1)) 2 (by decide) (by decide +kernel) rfl rfl dX1_addMirror_37 ?_
      refine j_icmp_le S 64 dX1_addMirror_40 (by decide) (fun h9 => absurd h9 (by rw [nI_leI (by omega) (by omega)]; omega)) (fun _ => ?_)
      refine j_aload_n S dX1_addMirror_43 rfl ?_
      refine j_get S (C := RX1) (T := TX1) (N := 4) (by decide +kernel) rd_comp rfl (v := .ref (Z.ad (ro 6))) 0 (by decide) (by decide +kernel) rfl rfl dX1_addMirror_44 ?_
      refine j_aload_n S dX1_addMirror_47 rfl ?_
      refine j_get S (C := RX1) (T := TX1) (N := 4) (by decide +kernel) rd_comp rfl (v := .ref (Z.ad (ro 6))) 0 (by decide) (by decide +kernel) rfl rfl dX1_addMirror_48 ?_
      refine j_iload_n S dX1_addMirror_51 rfl ?_
      refine j_cVi S (n := 1) (rest := [.ref (Z.ad (ro 6))]) (k_X3_at X.l Z X.A hAX (σ.setC (mirN c.1 (c.1.length - 2) t, c.2.1, c.2.2.1, some c.1.length)) 6 (by omega) (nI (c.1.length - 2 - t))) ⟨_, _, _, _, rfl, gX1_addMirror_X3_at, rfl, rfl, by decide +kernel, ⟨Nat.le_of_ble_eq_true rfl, Nat.le_of_ble_eq_true rfl⟩⟩ (rd_row (by omega)) rfl rfl (Nat.le_of_ble_eq_true rfl) rfl dX1_addMirror_52 (fun v9 hv9 => ?_)
      subst hv9
      refine j_cVv S (n := 1) (rest := []) (k_X3_add X.l Z X.A hAX (σ.setC (mirN c.1 (c.1.length - 2) t, c.2.1, c.2.2.1, some c.1.length)) 6 (by omega) (atI (mirN c.1 (c.1.length - 2) t) (nI (c.1.length - 2 - t)))) ⟨_, _, _, _, rfl, gX1_addMirror_X3_add, rfl, rfl, by decide +kernel, ⟨Nat.le_of_ble_eq_true rfl, Nat.le_of_ble_eq_true rfl⟩⟩ (rd_row (by omega)) rfl rfl (Nat.le_of_ble_eq_true rfl) rfl dX1_addMirror_55 ?_
      refine j_iinc S (nI (c.1.length - 2 - t) + (-1)) [some (.ref (Z.ad 2)), some (.int y0), some (.int (nI (c.1.length - 2 - t) + (-1)))] dX1_addMirror_58 rfl rfl (by decide) rfl rfl ?_
      refine j_goto S 35 dX1_addMirror_61 (by decide) ?_
      refine J.mono (w' := Wd Z (σ.setC (mirN c.1 (c.1.length - 2) (t + 1), c.2.1, c.2.2.1, some c.1.length))) (fun H h9 => by rw [setC_6, setC_row6, atI_nI _ (by omega)] at h9; exact h9) ?_
      refine ih (t + 1) _ _ (by omega) (fun q1 q2 => ?_) (fun q => by omega)
      rw [show c.1.length - 2 - t = c.1.length - 2 - (t + 1) + 1 by omega]; exact pk_m1 _
  refine j_aload_n S dX1_addMirror_0 rfl ?_
  refine j_get S (C := RX1) (T := TX1) (N := 4) (by decide +kernel) rd_comp rfl (v := .ref (Z.ad (ro 6))) 0 (by decide) (by decide +kernel) rfl rfl dX1_addMirror_1 ?_
  refine j_getN S (C := RX3) (T := TX3) (N := 2) (by decide +kernel) (rd_row (by omega)) rfl (v := .int (nI c.1.length)) 1 (by decide) 9 rfl rfl rfl dX1_addMirror_4 ?_
  refine j_iconst S 2 dX1_addMirror_7 (by decide) ?_
  refine j_isub S ((nI c.1.length) - 2) dX1_addMirror_8 rfl ?_
  refine j_istore_n S [some (.ref (Z.ad 2)), some (.int ((nI c.1.length) - 2)), none] dX1_addMirror_9 (by decide) rfl rfl ?_
  refine j_aload_n S dX1_addMirror_10 rfl ?_
  refine j_iconst S 0 dX1_addMirror_11 (by decide) ?_
  refine j_iload_n S dX1_addMirror_12 rfl ?_
  refine j_aload_n S dX1_addMirror_13 rfl ?_
  refine j_get S (C := RX1) (T := TX1) (N := 4) (by decide +kernel) rd_comp rfl (v := .int (nI c.2.2.1)) 2 (by decide) (by decide +kernel) rfl rfl dX1_addMirror_14 ?_
  refine j_isub S (((nI c.1.length) - 2) - (nI c.2.2.1)) dX1_addMirror_17 rfl ?_
  refine j_max S (nI (c.1.length - 2 - c.2.2.1)) (by decide +kernel) (by decide +kernel) (by decide +kernel) (by decide +kernel) ⟨Nat.le_of_ble_eq_true rfl, Nat.le_of_ble_eq_true rfl⟩ dX1_addMirror_18 (mir_num hI1 hI2 (fun q => by rw [i2]; exact pk_sub q) (fun q => by rw [i2]; exact pk_sneg (by omega) q) (fun _ => rfl)) ?_
  refine j_cVi S (n := 1) (rest := []) (k_X1_hasRoom X.l Z X.A hAX σ c hI (c.1.length - 2 - c.2.2.1) (by omega)) ⟨_, _, _, _, rfl, gX1_addMirror_X1_hasRoom, rfl, rfl, by decide +kernel, ⟨Nat.le_of_ble_eq_true rfl, Nat.le_of_ble_eq_true rfl⟩⟩ rd_comp rfl rfl (Nat.le_of_ble_eq_true rfl) rfl dX1_addMirror_21 (fun v9 hv9 => ?_)
  subst hv9
  refine j_if_ne S 29 dX1_addMirror_24 (by decide) (fun h => ?_) (fun h => ?_)
  · skip
    refine j_aload_n S dX1_addMirror_29 rfl ?_
    refine j_cVv S (n := 0) (rest := []) (k_X1_beginItem X.l Z X.A hAX σ c hI) ⟨_, _, _, _, rfl, gX1_addMirror_X1_beginItem, rfl, rfl, by decide +kernel, ⟨Nat.le_of_ble_eq_true rfl, Nat.le_of_ble_eq_true rfl⟩⟩ rd_comp rfl rfl (Nat.le_of_ble_eq_true rfl) rfl dX1_addMirror_30 ?_
    refine j_iload_n S dX1_addMirror_33 rfl ?_
    refine j_istore_n S [some (.ref (Z.ad 2)), some (.int ((nI c.1.length) - 2)), some (.int ((nI c.1.length) - 2))] dX1_addMirror_34 (by decide) rfl rfl ?_
    exact loop (b2i_n0.mp h) (c.1.length - 2 - c.2.2.1) 0 _ _ (by omega) (fun q _ => by rw [i2, Nat.sub_zero]; exact pk_sub q) (fun q => by rw [i2]; exact pk_sneg (by omega) q)
  · skip
    have e9 : mirrorC c = (5, c) := if_neg (by rw [b2i_0.mp h]; decide)
    refine j_iconst S 5 dX1_addMirror_27 (by decide) ?_
    exact j_ireturn S hRT hXA hQ hXk hXn dX1_addMirror_28 rfl (by rw [e9]) (fun H h9 => by rw [e9]; exact h9)

set_option maxRecDepth 100000 in
set_option maxHeartbeats 4000000 in
theorem k_X1_repeatItem (l : Launch) (Z : Zx) (A : Nat → Prop) (hA : AdOk Z A) (σ : St) (num : List Int32) (outs : List Nat) (g i : Nat) (hI : CInv (num, outs, g, some i)) (k : Nat) (hk8 : k ≤ 12) : Km l Z A yX1_repeatItem wsX1_repeatItem { frames := 1, cells := 0, slots := 0, locals := 21 } (Wd Z (σ.setC (num, outs, g, some i))) [.ref (Z.ad 2), .int (nI k)] (Qi (Wd Z (σ.setC (repeatC (num, outs, g, some i) i k).2)) A (fun v => v = (repeatC (num, outs, g, some i) i k).1)) := by
  refine Km.of (cc := cX1_repeatItem) (maxL := 4) (ret := (some .int)) (by decide) rfl (Nat.le_of_ble_eq_true rfl) hA ?_
  intro X hXl S hAX hRT hXA hQ hXk hXn
  show J X 4 (Wd Z (σ.setC (num, outs, g, some i))) 0 [some (.ref (Z.ad 2)), some (.int (nI k)), none, none] []
  have hI1 : num.length ≤ 1312 := hI.1
  have hI2 : g ≤ num.length := hI.2.1
  have hI3 : i ≤ num.length := hI.2.2.1 i rfl
  have hM : ((num.length - i) * k) ≤ 20000 := Nat.le_trans (Nat.mul_le_mul (show num.length - i ≤ 1312 by omega) hk8) (by decide)
  have loop : roomC (num, outs, g, some i) ((num.length - i) * k) = true → ∀ (f t : Nat), t + f = ((num.length - i) * k) → J X 4 (Wd Z (σ.setC (repN num i t, outs, g, some i))) 27 [some (.ref (Z.ad 2)), some (.int (nI k)), some (.int (nI ((num.length - i) * k))), some (.int (nI t))] [] := by
    intro hroom
    have e9 : repeatC (num, outs, g, some i) i k = (0, (repN num i ((num.length - i) * k), outs, g, some i)) := if_pos hroom
    intro f
    induction f with
    | zero =>
      intro t ht
      refine j_iload_n S dX1_repeatItem_27 rfl ?_
      refine j_iload_n S dX1_repeatItem_28 rfl ?_
      refine j_icmp_ge S 58 dX1_repeatItem_29 (by decide) (fun _ => ?_) (fun h9 => absurd (by rw [nI_leI (by omega) (by omega)]; omega) h9)
      refine j_iconst S 0 dX1_repeatItem_58 (by decide) ?_
      exact j_ireturn S hRT hXA hQ hXk hXn dX1_repeatItem_59 rfl (by rw [e9]) (fun H h9 => by rw [e9]; rw [show t = ((num.length - i) * k) by omega] at h9; exact h9)
    | succ f ih =>
      intro t ht
      refine j_iload_n S dX1_repeatItem_27 rfl ?_
      refine j_iload_n S dX1_repeatItem_28 rfl ?_
      refine j_icmp_ge S 58 dX1_repeatItem_29 (by decide) (fun h9 => absurd h9 (by rw [nI_leI (by omega) (by omega)]; omega)) (fun _ => ?_)
      refine j_aload_n S dX1_repeatItem_32 rfl ?_
      refine j_get S (C := RX1) (T := TX1) (N := 4) (by decide +kernel) rd_comp rfl (v := .ref (Z.ad (ro 6))) 0 (by decide) (by decide +kernel) rfl rfl dX1_repeatItem_33 ?_
      refine j_aload_n S dX1_repeatItem_36 rfl ?_
      refine j_get S (C := RX1) (T := TX1) (N := 4) (by decide +kernel) rd_comp rfl (v := .ref (Z.ad (ro 6))) 0 (by decide) (by decide +kernel) rfl rfl dX1_repeatItem_37 ?_
      refine j_aload_n S dX1_repeatItem_40 rfl ?_
      refine j_get S (C := RX1) (T := TX1) (N := 4) (by decide +kernel) rd_comp rfl (v := .int (nI i)) 3 (by decide) (by decide +kernel) rfl rfl dX1_repeatItem_41 ?_
      refine j_iload_n S dX1_repeatItem_44 rfl ?_
      refine j_iadd S (nI (i + t)) dX1_repeatItem_45 (nI_add i t) ?_
      refine j_cVi S (n := 1) (rest := [.ref (Z.ad (ro 6))]) (k_X3_at X.l Z X.A hAX (σ.setC (repN num i t, outs, g, some i)) 6 (by omega) (nI (i + t))) ⟨_, _, _, _, rfl, gX1_repeatItem_X3_at, rfl, rfl, by decide +kernel, ⟨Nat.le_of_ble_eq_true rfl, Nat.le_of_ble_eq_true rfl⟩⟩ (rd_row (by omega)) rfl rfl (Nat.le_of_ble_eq_true rfl) rfl dX1_repeatItem_46 (fun v9 hv9 => ?_)
      subst hv9
      refine j_cVv S (n := 1) (rest := []) (k_X3_add X.l Z X.A hAX (σ.setC (repN num i t, outs, g, some i)) 6 (by omega) (atI (repN num i t) (nI (i + t)))) ⟨_, _, _, _, rfl, gX1_repeatItem_X3_add, rfl, rfl, by decide +kernel, ⟨Nat.le_of_ble_eq_true rfl, Nat.le_of_ble_eq_true rfl⟩⟩ (rd_row (by omega)) rfl rfl (Nat.le_of_ble_eq_true rfl) rfl dX1_repeatItem_49 ?_
      refine j_iinc S (nI (t + 1)) [some (.ref (Z.ad 2)), some (.int (nI k)), some (.int (nI ((num.length - i) * k))), some (.int (nI (t + 1)))] dX1_repeatItem_52 rfl (nI_1 t) (by decide) rfl rfl ?_
      refine j_goto S 27 dX1_repeatItem_55 (by decide) ?_
      refine J.mono (w' := Wd Z (σ.setC (repN num i (t + 1), outs, g, some i))) (fun H h9 => by rw [setC_6, setC_row6, atI_nI _ (by omega)] at h9; exact h9) ?_
      exact ih (t + 1) (by omega)
  refine j_aload_n S dX1_repeatItem_0 rfl ?_
  refine j_get S (C := RX1) (T := TX1) (N := 4) (by decide +kernel) rd_comp rfl (v := .ref (Z.ad (ro 6))) 0 (by decide) (by decide +kernel) rfl rfl dX1_repeatItem_1 ?_
  refine j_getN S (C := RX3) (T := TX3) (N := 2) (by decide +kernel) (rd_row (by omega)) rfl (v := .int (nI num.length)) 1 (by decide) 9 rfl rfl rfl dX1_repeatItem_4 ?_
  refine j_aload_n S dX1_repeatItem_7 rfl ?_
  refine j_get S (C := RX1) (T := TX1) (N := 4) (by decide +kernel) rd_comp rfl (v := .int (nI i)) 3 (by decide) (by decide +kernel) rfl rfl dX1_repeatItem_8 ?_
  refine j_isub S (nI (num.length - i)) dX1_repeatItem_11 (pk_sub hI3) ?_
  refine j_iload_n S dX1_repeatItem_12 rfl ?_
  refine j_imul S (nI ((num.length - i) * k)) dX1_repeatItem_13 (pk_mul _ _) ?_
  refine j_istore_n S [some (.ref (Z.ad 2)), some (.int (nI k)), some (.int (nI ((num.length - i) * k))), none] dX1_repeatItem_14 (by decide) rfl rfl ?_
  refine j_aload_n S dX1_repeatItem_15 rfl ?_
  refine j_iload_n S dX1_repeatItem_16 rfl ?_
  refine j_cVi S (n := 1) (rest := []) (k_X1_hasRoom X.l Z X.A hAX σ (num, outs, g, some i) hI ((num.length - i) * k) hM) ⟨_, _, _, _, rfl, gX1_repeatItem_X1_hasRoom, rfl, rfl, by decide +kernel, ⟨Nat.le_of_ble_eq_true rfl, Nat.le_of_ble_eq_true rfl⟩⟩ rd_comp rfl rfl (Nat.le_of_ble_eq_true rfl) rfl dX1_repeatItem_17 (fun v9 hv9 => ?_)
  subst hv9
  refine j_if_ne S 25 dX1_repeatItem_20 (by decide) (fun h => ?_) (fun h => ?_)
  · skip
    refine j_iconst S 0 dX1_repeatItem_25 (by decide) ?_
    refine j_istore_n S [some (.ref (Z.ad 2)), some (.int (nI k)), some (.int (nI ((num.length - i) * k))), some (.int 0)] dX1_repeatItem_26 (by decide) rfl rfl ?_
    exact loop (b2i_n0.mp h) ((num.length - i) * k) 0 (by omega)
  · skip
    have e9 : repeatC (num, outs, g, some i) i k = (5, (num, outs, g, some i)) := if_neg (by rw [show roomC (num, outs, g, some i) ((num.length - i) * k) = false from b2i_0.mp h]; decide)
    refine j_iconst S 5 dX1_repeatItem_23 (by decide) ?_
    exact j_ireturn S hRT hXA hQ hXk hXn dX1_repeatItem_24 rfl (by rw [e9]) (fun H h9 => by rw [e9]; exact h9)

set_option maxRecDepth 100000 in
set_option maxHeartbeats 4000000 in
theorem k_X1_raiseItem (l : Launch) (Z : Zx) (A : Nat → Prop) (hA : AdOk Z A) (σ : St) (num : List Int32) (outs : List Nat) (g i : Nat) (hI : CInv (num, outs, g, some i)) (d : Int32) : Km l Z A yX1_raiseItem wsX1_raiseItem { frames := 1, cells := 0, slots := 0, locals := 22 } (Wd Z (σ.setC (num, outs, g, some i))) [.ref (Z.ad 2), .int d] (Qv (Wd Z (σ.setC (raiseC (num, outs, g, some i) i d))) A) := by
  refine Km.of (cc := cX1_raiseItem) (maxL := 3) (ret := none) (by decide) rfl (Nat.le_of_ble_eq_true rfl) hA ?_
  intro X hXl S hAX hRT hXA hQ hXk hXn
  show J X 3 (Wd Z (σ.setC (num, outs, g, some i))) 0 [some (.ref (Z.ad 2)), some (.int d), none] []
  have hI1 : num.length ≤ 1312 := hI.1
  have hI2 : g ≤ num.length := hI.2.1
  have hI3 : i ≤ num.length := hI.2.2.1 i rfl
  have loop : ∀ (f t : Nat), t + f = num.length - i → J X 3 (Wd Z (σ.setC (raiseN num i d t, outs, g, some i))) 5 [some (.ref (Z.ad 2)), some (.int d), some (.int (nI (i + t)))] [] := by
    intro f
    induction f with
    | zero =>
      intro t ht
      refine j_iload_n S dX1_raiseItem_5 rfl ?_
      refine j_aload_n S dX1_raiseItem_6 rfl ?_
      refine j_get S (C := RX1) (T := TX1) (N := 4) (by decide +kernel) rd_comp rfl (v := .ref (Z.ad (ro 6))) 0 (by decide) (by decide +kernel) rfl rfl dX1_raiseItem_7 ?_
      refine j_getN S (C := RX3) (T := TX3) (N := 2) (by decide +kernel) (rd_row (by omega)) rfl (v := .int (nI (raiseN num i d t).length)) 1 (by decide) 9 rfl rfl rfl dX1_raiseItem_10 ?_
      rw [raiseN_len]
      refine j_icmp_ge S 43 dX1_raiseItem_13 (by decide) (fun _ => ?_) (fun h9 => absurd (by rw [nI_leI (by omega) (by omega)]; omega) h9)
      exact j_return S hRT hXA hQ hXk hXn dX1_raiseItem_43 (fun H h9 => by rw [show t = num.length - i by omega] at h9; exact h9)
    | succ f ih =>
      intro t ht
      refine j_iload_n S dX1_raiseItem_5 rfl ?_
      refine j_aload_n S dX1_raiseItem_6 rfl ?_
      refine j_get S (C := RX1) (T := TX1) (N := 4) (by decide +kernel) rd_comp rfl (v := .ref (Z.ad (ro 6))) 0 (by decide) (by decide +kernel) rfl rfl dX1_raiseItem_7 ?_
      refine j_getN S (C := RX3) (T := TX3) (N := 2) (by decide +kernel) (rd_row (by omega)) rfl (v := .int (nI (raiseN num i d t).length)) 1 (by decide) 9 rfl rfl rfl dX1_raiseItem_10 ?_
      rw [raiseN_len]
      refine j_icmp_ge S 43 dX1_raiseItem_13 (by decide) (fun h9 => absurd h9 (by rw [nI_leI (by omega) (by omega)]; omega)) (fun _ => ?_)
      refine j_aload_n S dX1_raiseItem_16 rfl ?_
      refine j_get S (C := RX1) (T := TX1) (N := 4) (by decide +kernel) rd_comp rfl (v := .ref (Z.ad (ro 6))) 0 (by decide) (by decide +kernel) rfl rfl dX1_raiseItem_17 ?_
      refine j_iload_n S dX1_raiseItem_20 rfl ?_
      refine j_aload_n S dX1_raiseItem_21 rfl ?_
      refine j_get S (C := RX1) (T := TX1) (N := 4) (by decide +kernel) rd_comp rfl (v := .ref (Z.ad (ro 6))) 0 (by decide) (by decide +kernel) rfl rfl dX1_raiseItem_22 ?_
      refine j_iload_n S dX1_raiseItem_25 rfl ?_
      refine j_cVi S (n := 1) (rest := [.int (nI (i + t)), .ref (Z.ad (ro 6))]) (k_X3_at X.l Z X.A hAX (σ.setC (raiseN num i d t, outs, g, some i)) 6 (by omega) (nI (i + t))) ⟨_, _, _, _, rfl, gX1_raiseItem_X3_at, rfl, rfl, by decide +kernel, ⟨Nat.le_of_ble_eq_true rfl, Nat.le_of_ble_eq_true rfl⟩⟩ (rd_row (by omega)) rfl rfl (Nat.le_of_ble_eq_true rfl) rfl dX1_raiseItem_26 (fun v9 hv9 => ?_)
      subst hv9
      refine j_iload_n S dX1_raiseItem_29 rfl ?_
      refine j_iadd S ((atI (raiseN num i d t) (nI (i + t))) + d) dX1_raiseItem_30 rfl ?_
      refine j_bipush S 7 dX1_raiseItem_31 (by decide) ?_
      refine j_iand S (((atI (raiseN num i d t) (nI (i + t))) + d) &&& 7) dX1_raiseItem_33 rfl ?_
      refine j_cVv S (n := 2) (rest := []) (k_X3_put X.l Z X.A hAX (σ.setC (raiseN num i d t, outs, g, some i)) 6 (by omega) (nI (i + t)) (((atI (raiseN num i d t) (nI (i + t))) + d) &&& 7)) ⟨_, _, _, _, rfl, gX1_raiseItem_X3_put, rfl, rfl, by decide +kernel, ⟨Nat.le_of_ble_eq_true rfl, Nat.le_of_ble_eq_true rfl⟩⟩ (rd_row (by omega)) rfl rfl (Nat.le_of_ble_eq_true rfl) rfl dX1_raiseItem_34 ?_
      refine j_iinc S (nI (i + (t + 1))) [some (.ref (Z.ad 2)), some (.int d), some (.int (nI (i + (t + 1))))] dX1_raiseItem_37 rfl (nI_1 (i + t)) (by decide) rfl rfl ?_
      refine j_goto S 5 dX1_raiseItem_40 (by decide) ?_
      refine J.mono (w' := Wd Z (σ.setC (raiseN num i d (t + 1), outs, g, some i))) (fun H h9 => by rw [setC_6, setC_row6, putI_nI _ _ (by omega), atI_nI _ (by omega)] at h9; exact h9) ?_
      exact ih (t + 1) (by omega)
  refine j_aload_n S dX1_raiseItem_0 rfl ?_
  refine j_get S (C := RX1) (T := TX1) (N := 4) (by decide +kernel) rd_comp rfl (v := .int (nI i)) 3 (by decide) (by decide +kernel) rfl rfl dX1_raiseItem_1 ?_
  refine j_istore_n S [some (.ref (Z.ad 2)), some (.int d), some (.int (nI i))] dX1_raiseItem_4 (by decide) rfl rfl ?_
  exact loop (num.length - i) 0 (by omega)

set_option maxRecDepth 100000 in
set_option maxHeartbeats 4000000 in
theorem k_X1_changeItem (l : Launch) (Z : Zx) (A : Nat → Prop) (hA : AdOk Z A) (σ : St) (c : Cst) (hI : CInv c) (k : Nat) (hk1 : 22 ≤ k) (hk2 : k ≤ 33) : Km l Z A yX1_changeItem wsX1_changeItem { frames := 2, cells := 0, slots := 0, locals := 46 } (Wd Z (σ.setC c)) [.ref (Z.ad 2), .int (nI k)] (Qi (Wd Z (σ.setC (changeC c k).2)) A (fun v => v = (changeC c k).1)) := by
  refine Km.of (cc := cX1_changeItem) (maxL := 2) (ret := (some .int)) (by decide) rfl (Nat.le_of_ble_eq_true rfl) hA ?_
  intro X hXl S hAX hRT hXA hQ hXk hXn
  show J X 2 (Wd Z (σ.setC c)) 0 [some (.ref (Z.ad 2)), some (.int (nI k))] []
  obtain ⟨num, outs, g, it⟩ := c
  cases it with
  | none =>
    refine j_aload_n S dX1_changeItem_0 rfl ?_
    refine j_get S (C := RX1) (T := TX1) (N := 4) (by decide +kernel) rd_comp rfl (v := .int (optI none)) 3 (by decide) (by decide +kernel) rfl rfl dX1_changeItem_1 ?_
    refine j_iconst S (-1) dX1_changeItem_4 (by decide) ?_
    refine j_icmp_ne S 10 dX1_changeItem_5 (by decide) (fun h9 => absurd rfl h9) (fun _ => ?_)
    refine j_iconst S 1 dX1_changeItem_8 (by decide) ?_
    exact j_ireturn S hRT hXA hQ hXk hXn dX1_changeItem_9 rfl rfl (fun H h => h)
  | some i =>
    have hI1 : num.length ≤ 1312 := hI.1
    have hI2 : g ≤ num.length := hI.2.1
    have hI3 : i ≤ num.length := hI.2.2.1 i rfl
    refine j_aload_n S dX1_changeItem_0 rfl ?_
    refine j_get S (C := RX1) (T := TX1) (N := 4) (by decide +kernel) rd_comp rfl (v := .int (nI i)) 3 (by decide) (by decide +kernel) rfl rfl dX1_changeItem_1 ?_
    refine j_iconst S (-1) dX1_changeItem_4 (by decide) ?_
    refine j_icmp_ne S 10 dX1_changeItem_5 (by decide) (fun _ => ?_) (fun h9 => absurd h9 (show ¬ nI i = -1 from fun q => absurd (by rw [q]; decide) (nI_pos (n := i) (by omega))))
    refine j_iload_n S dX1_changeItem_10 rfl ?_
    by_cases h30 : k = 30
    · subst h30
      refine j_table S 40 dX1_changeItem_11 (by decide) (by decide) rfl (by decide) ?_
      refine j_aload_n S dX1_changeItem_40 rfl ?_
      refine j_get S (C := RX1) (T := TX1) (N := 4) (by decide +kernel) rd_comp rfl (v := .ref (Z.ad (ro 6))) 0 (by decide) (by decide +kernel) rfl rfl dX1_changeItem_41 ?_
      refine j_aload_n S dX1_changeItem_44 rfl ?_
      refine j_get S (C := RX1) (T := TX1) (N := 4) (by decide +kernel) rd_comp rfl (v := .int (nI i)) 3 (by decide) (by decide +kernel) rfl rfl dX1_changeItem_45 ?_
      refine j_cVv S (n := 1) (rest := []) (k_X3_turnFrom X.l Z X.A hAX (σ.setC (num, outs, g, some i)) 6 (by omega) i (by omega)) ⟨_, _, _, _, rfl, gX1_changeItem_X3_turnFrom, rfl, rfl, by decide +kernel, ⟨Nat.le_of_ble_eq_true rfl, Nat.le_of_ble_eq_true rfl⟩⟩ (rd_row (by omega)) rfl rfl (Nat.le_of_ble_eq_true rfl) rfl dX1_changeItem_48 ?_
      refine j_iconst S 0 dX1_changeItem_51 (by decide) ?_
      exact j_ireturn S hRT hXA hQ hXk hXn dX1_changeItem_52 rfl rfl (fun H h9 => by rw [setC_6, setC_row6] at h9; exact h9)
    by_cases h31 : k = 31
    · subst h31
      refine j_table S 53 dX1_changeItem_11 (by decide) (by decide) rfl (by decide) ?_
      refine j_aload_n S dX1_changeItem_53 rfl ?_
      refine j_cVi S (n := 0) (rest := []) (k_X1_addMirror X.l Z X.A hAX σ (num, outs, g, some i) hI) ⟨_, _, _, _, rfl, gX1_changeItem_X1_addMirror, rfl, rfl, by decide +kernel, ⟨Nat.le_of_ble_eq_true rfl, Nat.le_of_ble_eq_true rfl⟩⟩ rd_comp rfl rfl (Nat.le_of_ble_eq_true rfl) rfl dX1_changeItem_54 (fun v9 hv9 => ?_)
      subst hv9
      exact j_ireturn S hRT hXA hQ hXk hXn dX1_changeItem_57 rfl rfl (fun H h => h)
    by_cases h32 : k = 32
    · subst h32
      refine j_table S 58 dX1_changeItem_11 (by decide) (by decide) rfl (by decide) ?_
      refine j_aload_n S dX1_changeItem_58 rfl ?_
      refine j_iconst S 1 dX1_changeItem_59 (by decide) ?_
      refine j_cVv S (n := 1) (rest := []) (k_X1_raiseItem X.l Z X.A hAX σ num outs g i hI 1) ⟨_, _, _, _, rfl, gX1_changeItem_X1_raiseItem, rfl, rfl, by decide +kernel, ⟨Nat.le_of_ble_eq_true rfl, Nat.le_of_ble_eq_true rfl⟩⟩ rd_comp rfl rfl (Nat.le_of_ble_eq_true rfl) rfl dX1_changeItem_60 ?_
      refine j_iconst S 0 dX1_changeItem_63 (by decide) ?_
      exact j_ireturn S hRT hXA hQ hXk hXn dX1_changeItem_64 rfl rfl (fun H h => h)
    by_cases h33 : k = 33
    · subst h33
      refine j_table S 65 dX1_changeItem_11 (by decide) (by decide) rfl (by decide) ?_
      refine j_aload_n S dX1_changeItem_65 rfl ?_
      refine j_iconst S (-1) dX1_changeItem_66 (by decide) ?_
      refine j_cVv S (n := 1) (rest := []) (k_X1_raiseItem X.l Z X.A hAX σ num outs g i hI (-1)) ⟨_, _, _, _, rfl, gX1_changeItem_X1_raiseItem, rfl, rfl, by decide +kernel, ⟨Nat.le_of_ble_eq_true rfl, Nat.le_of_ble_eq_true rfl⟩⟩ rd_comp rfl rfl (Nat.le_of_ble_eq_true rfl) rfl dX1_changeItem_67 ?_
      refine j_iconst S 0 dX1_changeItem_70 (by decide) ?_
      exact j_ireturn S hRT hXA hQ hXk hXn dX1_changeItem_71 rfl rfl (fun H h => h)
    have hto : (nI k).toInt = k := nI_toInt (by omega)
    refine j_tableOut S 72 dX1_changeItem_11 (by rw [hto]; omega) (by decide) ?_
    refine j_aload_n S dX1_changeItem_72 rfl ?_
    refine j_iload_n S dX1_changeItem_73 rfl ?_
    refine j_bipush S 22 dX1_changeItem_74 (by decide) ?_
    refine j_isub S (nI (k - 22)) dX1_changeItem_76 (by rw [show (22 : Int32) = nI 22 from rfl]; exact pk_sub (by omega)) ?_
    refine j_iconst S 1 dX1_changeItem_77 (by decide) ?_
    refine j_iadd S (nI (k - 21)) dX1_changeItem_78 (by rw [nI_1, show k - 22 + 1 = k - 21 by omega]) ?_
    refine j_cVi S (n := 1) (rest := []) (k_X1_repeatItem X.l Z X.A hAX σ num outs g i hI (k - 21) (by omega)) ⟨_, _, _, _, rfl, gX1_changeItem_X1_repeatItem, rfl, rfl, by decide +kernel, ⟨Nat.le_of_ble_eq_true rfl, Nat.le_of_ble_eq_true rfl⟩⟩ rd_comp rfl rfl (Nat.le_of_ble_eq_true rfl) rfl dX1_changeItem_79 (fun v9 hv9 => ?_)
    subst hv9
    have e9 : changeC (num, outs, g, some i) k = repeatC (num, outs, g, some i) i (k - 21) := by unfold changeC; dsimp only; rw [if_neg h30, if_neg h31, if_neg h32, if_neg h33]
    exact j_ireturn S hRT hXA hQ hXk hXn dX1_changeItem_82 rfl (by rw [e9]) (fun H h9 => by rw [e9]; exact h9)

set_option maxRecDepth 100000 in
set_option maxHeartbeats 4000000 in
theorem k_X1_read (l : Launch) (Z : Zx) (A : Nat → Prop) (hA : AdOk Z A) (σ : St) (c : Cst) (hI : CInv c) (o k : Nat) (ho : o < 10) (hk : tokN k) : Km l Z A yX1_read wsX1_read { frames := 3, cells := 0, slots := 0, locals := 68 } (Wd Z (σ.setC c)) [.ref (Z.ad 2), .ref (Z.ad 1), .int (nI o), .int (nI k)] (Qi (Wd Z (σ.setC (readC (blkOf σ) o c k).2)) A (fun v => v = (readC (blkOf σ) o c k).1)) := by
  refine Km.of (cc := cX1_read) (maxL := 4) (ret := (some .int)) (by decide) rfl (Nat.le_of_ble_eq_true rfl) hA ?_
  intro X hXl S hAX hRT hXA hQ hXk hXn
  show J X 4 (Wd Z (σ.setC c)) 0 [some (.ref (Z.ad 2)), some (.ref (Z.ad 1)), some (.int (nI o)), some (.int (nI k))] []
  obtain ⟨hI1, hI2, hI3, hI4, hI5⟩ := id hI
  have hk50 := hk.lt
  unfold tokN at hk
  refine j_iload_n S dX1_read_0 rfl ?_
  refine j_bipush S 7 dX1_read_1 (by decide) ?_
  refine j_icmp_gt S 12 dX1_read_3 (by decide) (fun h => ?_) (fun h => ?_)
  · skip
    rw [show (7 : Int32) = nI 7 from rfl, nI_ltI (by omega) (by omega)] at h
    refine j_iload_n S dX1_read_12 rfl ?_
    refine j_bipush S 10 dX1_read_13 (by decide) ?_
    refine j_icmp_ne S 24 dX1_read_15 (by decide) (fun h2 => ?_) (fun h2 => ?_)
    · skip
      rw [show (10 : Int32) = nI 10 from rfl, nI_eq (by omega) (by omega)] at h2
      refine j_iload_n S dX1_read_24 rfl ?_
      refine j_bipush S 11 dX1_read_25 (by decide) ?_
      refine j_icmp_ne S 35 dX1_read_27 (by decide) (fun h3 => ?_) (fun h3 => ?_)
      · skip
        rw [show (11 : Int32) = nI 11 from rfl, nI_eq (by omega) (by omega)] at h3
        refine j_iload_n S dX1_read_35 rfl ?_
        refine j_bipush S 44 dX1_read_36 (by decide) ?_
        refine j_icmp_lt S 52 dX1_read_38 (by decide) (fun h4 => ?_) (fun h4 => ?_)
        · skip
          rw [show (44 : Int32) = nI 44 from rfl, nI_ltI (by omega) (by omega)] at h4
          have e9 : readC (blkOf σ) o c k = changeC c k := by unfold readC; rw [if_neg (by omega), if_neg h2, if_neg h3, if_neg (by omega)]
          refine j_aload_n S dX1_read_52 rfl ?_
          refine j_iload_n S dX1_read_53 rfl ?_
          refine j_cVi S (n := 1) (rest := []) (k_X1_changeItem X.l Z X.A hAX σ c hI k (by omega) (by omega)) ⟨_, _, _, _, rfl, gX1_read_X1_changeItem, rfl, rfl, by decide +kernel, ⟨Nat.le_of_ble_eq_true rfl, Nat.le_of_ble_eq_true rfl⟩⟩ rd_comp rfl rfl (Nat.le_of_ble_eq_true rfl) rfl dX1_read_54 (fun v9 hv9 => ?_)
          subst hv9
          exact j_ireturn S hRT hXA hQ hXk hXn dX1_read_57 rfl (by rw [e9]) (fun H h9 => by rw [e9]; exact h9)
        · skip
          rw [show (44 : Int32) = nI 44 from rfl, nI_ltI (by omega) (by omega)] at h4
          have e9 : readC (blkOf σ) o c k = blockC (blkOf σ) o c (k - 40) := by unfold readC; rw [if_neg (by omega), if_neg h2, if_neg h3, if_pos (by omega)]
          refine j_aload_n S dX1_read_41 rfl ?_
          refine j_aload_n S dX1_read_42 rfl ?_
          refine j_iload_n S dX1_read_43 rfl ?_
          refine j_iload_n S dX1_read_44 rfl ?_
          refine j_bipush S 40 dX1_read_45 (by decide) ?_
          refine j_isub S (nI (k - 40)) dX1_read_47 (by rw [show (40 : Int32) = nI 40 from rfl]; exact pk_sub (by omega)) ?_
          refine j_cVi S (n := 3) (rest := []) (k_X1_addBlock X.l Z X.A hAX σ c hI o (k - 40) ho (by omega)) ⟨_, _, _, _, rfl, gX1_read_X1_addBlock, rfl, rfl, by decide +kernel, ⟨Nat.le_of_ble_eq_true rfl, Nat.le_of_ble_eq_true rfl⟩⟩ rd_comp rfl rfl (Nat.le_of_ble_eq_true rfl) rfl dX1_read_48 (fun v9 hv9 => ?_)
          subst hv9
          exact j_ireturn S hRT hXA hQ hXk hXn dX1_read_51 rfl (by rw [e9]) (fun H h9 => by rw [e9]; exact h9)
      · skip
        rw [show (11 : Int32) = nI 11 from rfl, nI_eq (by omega) (by omega)] at h3
        have e9 : readC (blkOf σ) o c k = closeG c := by unfold readC; rw [if_neg (by omega), if_neg h2, if_pos h3]
        refine j_aload_n S dX1_read_30 rfl ?_
        refine j_cVi S (n := 0) (rest := []) (k_X1_closeGroup X.l Z X.A hAX σ c hI) ⟨_, _, _, _, rfl, gX1_read_X1_closeGroup, rfl, rfl, by decide +kernel, ⟨Nat.le_of_ble_eq_true rfl, Nat.le_of_ble_eq_true rfl⟩⟩ rd_comp rfl rfl (Nat.le_of_ble_eq_true rfl) rfl dX1_read_31 (fun v9 hv9 => ?_)
        subst hv9
        exact j_ireturn S hRT hXA hQ hXk hXn dX1_read_34 rfl (by rw [e9]) (fun H h9 => by rw [e9]; exact h9)
    · skip
      rw [show (10 : Int32) = nI 10 from rfl, nI_eq (by omega) (by omega)] at h2
      have e9 : readC (blkOf σ) o c k = (0, openC c) := by unfold readC; rw [if_neg (by omega), if_pos h2]
      refine j_aload_n S dX1_read_18 rfl ?_
      refine j_cVv S (n := 0) (rest := []) (k_X1_openGroup X.l Z X.A hAX σ c hI) ⟨_, _, _, _, rfl, gX1_read_X1_openGroup, rfl, rfl, by decide +kernel, ⟨Nat.le_of_ble_eq_true rfl, Nat.le_of_ble_eq_true rfl⟩⟩ rd_comp rfl rfl (Nat.le_of_ble_eq_true rfl) rfl dX1_read_19 ?_
      refine j_iconst S 0 dX1_read_22 (by decide) ?_
      exact j_ireturn S hRT hXA hQ hXk hXn dX1_read_23 rfl (by rw [e9]) (fun H h9 => by rw [e9]; exact h9)
  · skip
    rw [show (7 : Int32) = nI 7 from rfl, nI_ltI (by omega) (by omega)] at h
    have e9 : readC (blkOf σ) o c k = numberC c (nI k) := if_pos (by omega)
    refine j_aload_n S dX1_read_6 rfl ?_
    refine j_iload_n S dX1_read_7 rfl ?_
    refine j_cVi S (n := 1) (rest := []) (k_X1_addNumber X.l Z X.A hAX σ c hI (nI k)) ⟨_, _, _, _, rfl, gX1_read_X1_addNumber, rfl, rfl, by decide +kernel, ⟨Nat.le_of_ble_eq_true rfl, Nat.le_of_ble_eq_true rfl⟩⟩ rd_comp rfl rfl (Nat.le_of_ble_eq_true rfl) rfl dX1_read_8 (fun v9 hv9 => ?_)
    subst hv9
    exact j_ireturn S hRT hXA hQ hXk hXn dX1_read_11 rfl (by rw [e9]) (fun H h9 => by rw [e9]; exact h9)
end
section
set_option maxRecDepth 100000 in
set_option maxHeartbeats 4000000 in
theorem k_X1_compile (l : Launch) (Z : Zx) (A : Nat → Prop) (hA : AdOk Z A) (σ : St) (o t : Nat) (ho : o < 10) (ht : t < 11) (htok : ∀ x ∈ (σ.row (8 + 2 * t)), tokOk x) : Km l Z A yX1_compile wsX1_compile { frames := 4, cells := 0, slots := 0, locals := 91 } (Wd Z σ) [.ref (Z.ad 2), .ref (Z.ad 1), .int (nI o), .ref (Z.ad (po t))] (Qv (fun H => ∃ c : Cst, Wd Z ((σ.setC c).setProg t (runC (blkOf σ) o (σ.row (8 + 2 * t))).1 (runC (blkOf σ) o (σ.row (8 + 2 * t))).2.1 (runC (blkOf σ) o (σ.row (8 + 2 * t))).2.2) H) A) := by
  refine Km.of (cc := cX1_compile) (maxL := 6) (ret := none) (by decide) rfl (Nat.le_of_ble_eq_true rfl) hA ?_
  intro X hXl S hAX hRT hXA hQ hXk hXn
  show J X 6 (Wd Z σ) 0 [some (.ref (Z.ad 2)), some (.ref (Z.ad 1)), some (.int (nI o)), some (.ref (Z.ad (po t))), none, none] []
  refine J.caps (fun hcap => ?_)
  have hlt : (σ.row (8 + 2 * t)).length ≤ 40 := by have := hcap (8 + 2 * t) (by omega); rw [cap_even ht] at this; exact this
  have loop : ∀ (f i : Nat) (c : Cst), i + f = (σ.row (8 + 2 * t)).length → CInv c → (runC (blkOf σ) o (σ.row (8 + 2 * t))) = runF (blkOf σ) o ((σ.row (8 + 2 * t)).drop i) i c → J X 6 (Wd Z (σ.setC c)) 27 [some (.ref (Z.ad 2)), some (.ref (Z.ad 1)), some (.int (nI o)), some (.ref (Z.ad (po t))), some (.int (nI i)), none] [] := by
    intro f
    induction f with
    | zero =>
      intro i c hi hI he
      have hI5 := hI.2.2.2.2
      refine j_iload S dX1_compile_27 rfl ?_
      refine j_aload_n S dX1_compile_29 rfl ?_
      refine j_getN S (C := RX2) (T := TX2) (N := 4) (by decide +kernel) (rd_prog (by omega)) rfl (v := .ref (Z.ad (ro (8 + 2 * t)))) 0 (by decide) 8 rfl rfl rfl dX1_compile_30 ?_
      refine j_getN S (C := RX3) (T := TX3) (N := 2) (by decide +kernel) (rd_row (by omega)) rfl (v := .int (nI ((σ.setC c).row (8 + 2 * t)).length)) 1 (by decide) 9 rfl rfl rfl dX1_compile_33 ?_
      rw [setC_ne σ c (r := 8 + 2 * t) (by omega) (by omega)]
      refine j_icmp_ge S 76 dX1_compile_36 (by decide) (fun _ => ?_) (fun h9 => absurd (by rw [nI_leI (by omega) (by omega)]; omega) h9)
      rw [List.drop_eq_nil_of_le (by omega), runF] at he
      refine j_aload_n S dX1_compile_76 rfl ?_
      refine j_get S (C := RX1) (T := TX1) (N := 4) (by decide +kernel) rd_comp rfl (v := .ref (Z.ad (ro 7))) 1 (by decide) (by decide +kernel) rfl rfl dX1_compile_77 ?_
      refine j_getN S (C := RX3) (T := TX3) (N := 2) (by decide +kernel) (rd_row (by omega)) rfl (v := .int (nI (c.2.1.map nI).length)) 1 (by decide) 9 rfl rfl rfl dX1_compile_80 ?_
      rw [List.length_map]
      refine j_if_le S 101 dX1_compile_83 (by decide) (fun h => ?_) (fun h => ?_)
      · skip
        rw [← nI_0, nI_leI (by omega) (by omega)] at h
        rw [if_pos (by omega)] at he
        refine j_aload_n S dX1_compile_101 rfl ?_
        refine j_aload_n S dX1_compile_102 rfl ?_
        refine j_get S (C := RX1) (T := TX1) (N := 4) (by decide +kernel) rd_comp rfl (v := .ref (Z.ad (ro 6))) 0 (by decide) (by decide +kernel) rfl rfl dX1_compile_103 ?_
        refine j_cVv S (n := 1) (rest := []) (k_X2_accept X.l Z X.A hAX (σ.setC c) t 6 (by omega) (by omega) (by omega)) ⟨_, _, _, _, rfl, gX1_compile_X2_accept, rfl, rfl, by decide +kernel, ⟨Nat.le_of_ble_eq_true rfl, Nat.le_of_ble_eq_true rfl⟩⟩ (rd_prog (by omega)) rfl rfl (Nat.le_of_ble_eq_true rfl) rfl dX1_compile_106 ?_
        exact j_return S hRT hXA hQ hXk hXn dX1_compile_109 (fun H h9 => ⟨c, by rw [he]; exact h9⟩)
      · skip
        rw [← nI_0, nI_leI (by omega) (by omega)] at h
        rw [if_neg (by omega)] at he
        refine j_aload_n S dX1_compile_86 rfl ?_
        refine j_iconst S 3 dX1_compile_87 (by decide) ?_
        refine j_aload_n S dX1_compile_88 rfl ?_
        refine j_getN S (C := RX2) (T := TX2) (N := 4) (by decide +kernel) (rd_prog (by omega)) rfl (v := .ref (Z.ad (ro (8 + 2 * t)))) 0 (by decide) 8 rfl rfl rfl dX1_compile_89 ?_
        refine j_getN S (C := RX3) (T := TX3) (N := 2) (by decide +kernel) (rd_row (by omega)) rfl (v := .int (nI ((σ.setC c).row (8 + 2 * t)).length)) 1 (by decide) 9 rfl rfl rfl dX1_compile_92 ?_
        refine j_cVv S (n := 2) (rest := []) (k_X2_refuse X.l Z X.A hAX (σ.setC c) t (by omega) 3 (nI ((σ.setC c).row (8 + 2 * t)).length)) ⟨_, _, _, _, rfl, gX1_compile_X2_refuse, rfl, rfl, by decide +kernel, ⟨Nat.le_of_ble_eq_true rfl, Nat.le_of_ble_eq_true rfl⟩⟩ (rd_prog (by omega)) rfl rfl (Nat.le_of_ble_eq_true rfl) rfl dX1_compile_95 ?_
        refine j_goto S 109 dX1_compile_98 (by decide) ?_
        exact j_return S hRT hXA hQ hXk hXn dX1_compile_109 (fun H h9 => ⟨c, by rw [he]; rw [setC_ne σ c (r := 8 + 2 * t) (by omega) (by omega), show (σ.row (8 + 2 * t)).length = i by omega] at h9; exact h9⟩)
    | succ f ih =>
      intro i c hi hI he
      obtain ⟨k, hk, hkt⟩ := htok ((σ.row (8 + 2 * t)).getD i 0) (by rw [List.getD_eq_getElem?_getD, List.getElem?_eq_getElem (by omega)]; exact List.getElem_mem _)
      have hk50 := hk.lt
      rw [List.drop_eq_getElem_cons (by omega), runF, show (σ.row (8 + 2 * t))[i] = nI k from by rw [← hkt, List.getD_eq_getElem?_getD, List.getElem?_eq_getElem (by omega)]; rfl, nI_clamp (by omega)] at he
      refine j_iload S dX1_compile_27 rfl ?_
      refine j_aload_n S dX1_compile_29 rfl ?_
      refine j_getN S (C := RX2) (T := TX2) (N := 4) (by decide +kernel) (rd_prog (by omega)) rfl (v := .ref (Z.ad (ro (8 + 2 * t)))) 0 (by decide) 8 rfl rfl rfl dX1_compile_30 ?_
      refine j_getN S (C := RX3) (T := TX3) (N := 2) (by decide +kernel) (rd_row (by omega)) rfl (v := .int (nI ((σ.setC c).row (8 + 2 * t)).length)) 1 (by decide) 9 rfl rfl rfl dX1_compile_33 ?_
      rw [setC_ne σ c (r := 8 + 2 * t) (by omega) (by omega)]
      refine j_icmp_ge S 76 dX1_compile_36 (by decide) (fun h9 => absurd h9 (by rw [nI_leI (by omega) (by omega)]; omega)) (fun _ => ?_)
      refine j_aload_n S dX1_compile_39 rfl ?_
      refine j_aload_n S dX1_compile_40 rfl ?_
      refine j_iload_n S dX1_compile_41 rfl ?_
      refine j_aload_n S dX1_compile_42 rfl ?_
      refine j_getN S (C := RX2) (T := TX2) (N := 4) (by decide +kernel) (rd_prog (by omega)) rfl (v := .ref (Z.ad (ro (8 + 2 * t)))) 0 (by decide) 8 rfl rfl rfl dX1_compile_43 ?_
      refine j_iload S dX1_compile_46 rfl ?_
      refine j_cVi S (n := 1) (rest := [.int (nI o), .ref (Z.ad 1), .ref (Z.ad 2)]) (k_X3_at X.l Z X.A hAX (σ.setC c) (8 + 2 * t) (by omega) (nI i)) ⟨_, _, _, _, rfl, gX1_compile_X3_at, rfl, rfl, by decide +kernel, ⟨Nat.le_of_ble_eq_true rfl, Nat.le_of_ble_eq_true rfl⟩⟩ (rd_row (by omega)) rfl rfl (Nat.le_of_ble_eq_true rfl) rfl dX1_compile_48 (fun v9 hv9 => ?_)
      subst hv9
      rw [setC_ne σ c (r := 8 + 2 * t) (by omega) (by omega), atI_nI _ (by omega), hkt]
      refine j_cVi S (n := 3) (rest := []) (k_X1_read X.l Z X.A hAX σ c hI o k ho hk) ⟨_, _, _, _, rfl, gX1_compile_X1_read, rfl, rfl, by decide +kernel, ⟨Nat.le_of_ble_eq_true rfl, Nat.le_of_ble_eq_true rfl⟩⟩ rd_comp rfl rfl (Nat.le_of_ble_eq_true rfl) rfl dX1_compile_51 (fun v9 hv9 => ?_)
      subst hv9
      refine j_istore S [some (.ref (Z.ad 2)), some (.ref (Z.ad 1)), some (.int (nI o)), some (.ref (Z.ad (po t))), some (.int (nI i)), some (.int ((readC (blkOf σ) o c k).1))] dX1_compile_54 (by decide) rfl rfl ?_
      refine j_iload S dX1_compile_56 rfl ?_
      refine j_if_eq S 70 dX1_compile_58 (by decide) (fun h => ?_) (fun h => ?_)
      · skip
        rw [if_pos h] at he
        refine j_iinc S (nI (i + 1)) [some (.ref (Z.ad 2)), some (.ref (Z.ad 1)), some (.int (nI o)), some (.ref (Z.ad (po t))), some (.int (nI (i + 1))), some (.int ((readC (blkOf σ) o c k).1))] dX1_compile_70 rfl (nI_1 i) (by decide) rfl rfl ?_
        refine j_goto S 27 dX1_compile_73 (by decide) ?_
        refine J.less [some (.ref (Z.ad 2)), some (.ref (Z.ad 1)), some (.int (nI o)), some (.ref (Z.ad (po t))), some (.int (nI (i + 1))), none] ⟨rfl, rfl, rfl, rfl, rfl, trivial⟩ ?_
        exact ih (i + 1) _ (by omega) (hI.read k) he
      · skip
        rw [if_neg h] at he
        refine j_aload_n S dX1_compile_61 rfl ?_
        refine j_iload S dX1_compile_62 rfl ?_
        refine j_iload S dX1_compile_64 rfl ?_
        refine j_cVv S (n := 2) (rest := []) (k_X2_refuse X.l Z X.A hAX (σ.setC (readC (blkOf σ) o c k).2) t (by omega) ((readC (blkOf σ) o c k).1) (nI i)) ⟨_, _, _, _, rfl, gX1_compile_X2_refuse, rfl, rfl, by decide +kernel, ⟨Nat.le_of_ble_eq_true rfl, Nat.le_of_ble_eq_true rfl⟩⟩ (rd_prog (by omega)) rfl rfl (Nat.le_of_ble_eq_true rfl) rfl dX1_compile_66 ?_
        exact j_return S hRT hXA hQ hXk hXn dX1_compile_69 (fun H h9 => ⟨(readC (blkOf σ) o c k).2, by rw [he]; exact h9⟩)
  refine j_aload_n S dX1_compile_0 rfl ?_
  refine j_get S (C := RX1) (T := TX1) (N := 4) (by decide +kernel) rd_comp rfl (v := .ref (Z.ad (ro 6))) 0 (by decide) (by decide +kernel) rfl rfl dX1_compile_1 ?_
  refine j_cVv S (n := 0) (rest := []) (k_X3_clear X.l Z X.A hAX σ 6 (by omega)) ⟨_, _, _, _, rfl, gX1_compile_X3_clear, rfl, rfl, by decide +kernel, ⟨Nat.le_of_ble_eq_true rfl, Nat.le_of_ble_eq_true rfl⟩⟩ (rd_row (by omega)) rfl rfl (Nat.le_of_ble_eq_true rfl) rfl dX1_compile_4 ?_
  refine j_aload_n S dX1_compile_7 rfl ?_
  refine j_get S (C := RX1) (T := TX1) (N := 4) (by decide +kernel) rd_comp rfl (v := .ref (Z.ad (ro 7))) 1 (by decide) (by decide +kernel) rfl rfl dX1_compile_8 ?_
  refine j_cVv S (n := 0) (rest := []) (k_X3_clear X.l Z X.A hAX (σ.setRow 6 []) 7 (by omega)) ⟨_, _, _, _, rfl, gX1_compile_X3_clear, rfl, rfl, by decide +kernel, ⟨Nat.le_of_ble_eq_true rfl, Nat.le_of_ble_eq_true rfl⟩⟩ (rd_row (by omega)) rfl rfl (Nat.le_of_ble_eq_true rfl) rfl dX1_compile_11 ?_
  refine j_aload_n S dX1_compile_14 rfl ?_
  refine j_iconst S 0 dX1_compile_15 (by decide) ?_
  refine j_putGs S hAX (by decide +kernel) (by decide +kernel) dX1_compile_16 ?_
  refine j_aload_n S dX1_compile_19 rfl ?_
  refine j_iconst S (-1) dX1_compile_20 (by decide) ?_
  refine j_putIs S hAX (by decide +kernel) (by decide +kernel) dX1_compile_21 ?_
  rw [setC_start]
  refine j_iconst S 0 dX1_compile_24 (by decide) ?_
  refine j_istore S [some (.ref (Z.ad 2)), some (.ref (Z.ad 1)), some (.int (nI o)), some (.ref (Z.ad (po t))), some (.int 0), none] dX1_compile_25 (by decide) rfl rfl ?_
  exact loop (σ.row (8 + 2 * t)).length 0 ([], [], 0, none) (by omega) ⟨Nat.zero_le _, Nat.zero_le _, fun _ h => (by cases h), fun _ h => absurd h List.not_mem_nil, Nat.zero_le _⟩ rfl
end
section
/-! THE CLOTH: what weaving makes, and what is asked of it -/
def upB (ti th tr : List Int32) (x y : Nat) : Bool := bitI (atI ti (tr.getD y 0)) (th.getD x 0)
def inE (ti th tr l : List Int32) (y : Nat) : Nat → List Int32
  | 0 => l
  | x + 1 => if upB ti th tr x y = true then (inE ti th tr l y x).set x ((inE ti th tr l y x).getD x 0 ||| shl 1 (nI y)) else inE ti th tr l y x
def wE (ti th tr : List Int32) : Nat → List Int32
  | 0 => List.replicate th.length 0
  | y + 1 => inE ti th tr (wE ti th tr y) y th.length
def dnF (ti th tr : List Int32) (y : Nat) : Nat → Int32
  | 0 => 0
  | x + 1 => if upB ti th tr x y = true then dnF ti th tr y x else dnF ti th tr y x ||| shl 1 (nI x)
def wP (ti th tr : List Int32) : Nat → List Int32
  | 0 => []
  | y + 1 => wP ti th tr y ++ [dnF ti th tr y th.length]
theorem inE_len (ti th tr l : List Int32) (y : Nat) : ∀ x, (inE ti th tr l y x).length = l.length
  | 0 => rfl
  | x + 1 => by
    rw [inE]
    split
    · rw [List.length_set, inE_len ti th tr l y x]
    · exact inE_len ti th tr l y x
theorem wE_len (ti th tr : List Int32) : ∀ y, (wE ti th tr y).length = th.length
  | 0 => List.length_replicate
  | y + 1 => by rw [wE, inE_len, wE_len ti th tr y]
theorem wP_len (ti th tr : List Int32) : ∀ y, (wP ti th tr y).length = y
  | 0 => rfl
  | y + 1 => by rw [wP, List.length_append, wP_len ti th tr y]; rfl
def St.setCl (σ : St) (t : Nat) (E P : List Int32) : St := (fun j => if j = 2 + 2 * t then E else if j = 3 + 2 * t then P else σ.1 j, σ.2)
theorem setCl_e (σ : St) (t : Nat) (E P : List Int32) : (σ.setCl t E P).row (2 + 2 * t) = E := if_pos rfl
theorem setCl_p (σ : St) (t : Nat) (E P : List Int32) : (σ.setCl t E P).row (3 + 2 * t) = P := by
  show (if 3 + 2 * t = 2 + 2 * t then E else if 3 + 2 * t = 3 + 2 * t then P else _) = P
  rw [if_neg (by omega), if_pos rfl]
theorem setCl_ne (σ : St) {t r : Nat} (E P : List Int32) (h1 : r ≠ 2 + 2 * t) (h2 : r ≠ 3 + 2 * t) : (σ.setCl t E P).row r = σ.row r := by
  show (if r = 2 + 2 * t then E else if r = 3 + 2 * t then P else _) = _
  rw [if_neg h1, if_neg h2]; rfl
theorem setCl_re (σ : St) (t : Nat) (E P E' : List Int32) : (σ.setCl t E P).setRow (2 + 2 * t) E' = σ.setCl t E' P := by
  refine Prod.ext (funext fun j => ?_) rfl
  show (if j = 2 + 2 * t then E' else if j = 2 + 2 * t then E else _) = (if j = 2 + 2 * t then E' else _)
  by_cases h : j = 2 + 2 * t
  · rw [if_pos h, if_pos h]
  · rw [if_neg h, if_neg h, if_neg h]
theorem setCl_rp (σ : St) (t : Nat) (E P P' : List Int32) : (σ.setCl t E P).setRow (3 + 2 * t) P' = σ.setCl t E P' := by
  refine Prod.ext (funext fun j => ?_) rfl
  show (if j = 3 + 2 * t then P' else if j = 2 + 2 * t then E else if j = 3 + 2 * t then P else _) = (if j = 2 + 2 * t then E else if j = 3 + 2 * t then P' else _)
  by_cases h : j = 3 + 2 * t
  · rw [if_pos h, if_neg (by omega), if_pos h]
  · rw [if_neg h]
    by_cases h2 : j = 2 + 2 * t
    · rw [if_pos h2, if_pos h2]
    · rw [if_neg h2, if_neg h2, if_neg h, if_neg h]
theorem setCl_of (σ : St) (t : Nat) (E : List Int32) : σ.setRow (2 + 2 * t) E = σ.setCl t E (σ.row (3 + 2 * t)) := by
  refine Prod.ext (funext fun j => ?_) rfl
  show (if j = 2 + 2 * t then E else σ.1 j) = (if j = 2 + 2 * t then E else if j = 3 + 2 * t then σ.1 (3 + 2 * t) else σ.1 j)
  by_cases h : j = 2 + 2 * t
  · rw [if_pos h, if_pos h]
  · rw [if_neg h, if_neg h]
    by_cases h2 : j = 3 + 2 * t
    · rw [if_pos h2, h2]
    · rw [if_neg h2]
theorem addI_repl {c i : Nat} (h : i < c) : addI c (List.replicate i 0) 0 = List.replicate (i + 1) 0 := by
  rw [addI_lt (by rw [List.length_replicate]; exact h), List.replicate_succ']
def nxF (l : List Int32) (mem : Int32) (bk : Bool) : Nat → Int32
  | 0 => 0
  | i + 1 => if bitI mem (nI i) = true then nxF l mem bk i ||| (if bk = true then l.getD i 0 ^^^ (-1) else l.getD i 0) else nxF l mem bk i
def nextI (l : List Int32) (mem : Int32) (n : Nat) (bk : Bool) : Int32 := nxF l mem bk l.length &&& fullI (nI n)
def moreI (E P : List Int32) (bk : Bool) (x : Int32) : Int32 := x ||| nextI P (nextI E x P.length bk) E.length bk
def erF (E P : List Int32) (bk : Bool) : Nat → Int32 → Int32
  | 0, x => x
  | f + 1, x => if moreI E P bk x = x then x else erF E P bk f (moreI E P bk x)
def endsR (E P : List Int32) (bk : Bool) : Int32 := erF E P bk 32 1
def picksR (E P : List Int32) (bk : Bool) : Int32 := nextI E (endsR E P bk) P.length bk
def allR (E P : List Int32) (bk : Bool) : Bool := endsR E P bk == fullI (nI E.length) && picksR E P bk == fullI (nI P.length)
def hasF (E P : List Int32) : Bool := decide (0 < E.length ∧ 0 < P.length)
def connI (E P : List Int32) : Bool := hasF E P && (allR E P false && allR E P true)
def isUpI (E : List Int32) (x y : Nat) : Bool := bitI (E.getD x 0) (nI y)
def floatI (E P : List Int32) (x y : Nat) : Int32 := if isUpI E x y = true then aroundI (E.getD x 0) y else aroundI (P.getD y 0) x
def longestC (E P : List Int32) : Int32 := if longestI E < longestI P then longestI P else longestI E
theorem b2i_eq {a b : Int32} : (if a = b then b2i true else b2i false) = b2i (a == b) := by
  by_cases h : a = b
  · rw [if_pos h, beq_iff_eq.mpr h]
  · rw [if_neg h, beq_eq_false_iff_ne.mpr h]
end
section
theorem cap_cl {r : Nat} (h1 : 2 ≤ r) (h2 : r < 6) : cap r = 32 := by unfold cap; rw [if_neg (by omega), if_pos h2]
theorem i0 : (0 : Int32) = nI 0 := rfl

set_option maxRecDepth 100000 in
set_option maxHeartbeats 4000000 in
theorem k_X0_hasFields (l : Launch) (Z : Zx) (A : Nat → Prop) (hA : AdOk Z A) (σ : St) (t : Nat) (ht : t < 2) : Km l Z A yX0_hasFields wsX0_hasFields { frames := 0, cells := 0, slots := 0, locals := 0 } (Wd Z σ) [.ref (Z.ad (co t))] (Qi (Wd Z σ) A (fun v => v = b2i (hasF (σ.row (2 + 2 * t)) (σ.row (3 + 2 * t))))) := by
  refine Km.of (cc := cX0_hasFields) (maxL := 1) (ret := (some .boolean)) (by decide) rfl (Nat.le_of_ble_eq_true rfl) hA ?_
  intro X hXl S hAX hRT hXA hQ hXk hXn
  show J X 1 (Wd Z σ) 0 [some (.ref (Z.ad (co t)))] []
  refine J.caps (fun hcap => ?_)
  have hE : (σ.row (2 + 2 * t)).length ≤ 32 := by have := hcap (2 + 2 * t) (by omega); rw [cap_cl (by omega) (by omega)] at this; exact this
  have hP : (σ.row (3 + 2 * t)).length ≤ 32 := by have := hcap (3 + 2 * t) (by omega); rw [cap_cl (by omega) (by omega)] at this; exact this
  refine j_aload_n S dX0_hasFields_0 rfl ?_
  refine j_get S (C := RX0) (T := TX0) (N := 2) (by decide +kernel) (rd_cloth (by omega)) rfl (v := .ref (Z.ad (ro (2 + 2 * t)))) 0 (by decide) (by decide +kernel) rfl rfl dX0_hasFields_1 ?_
  refine j_getN S (C := RX3) (T := TX3) (N := 2) (by decide +kernel) (rd_row (by omega)) rfl (v := .int (nI (σ.row (2 + 2 * t)).length)) 1 (by decide) 7 rfl rfl rfl dX0_hasFields_4 ?_
  refine j_if_le S 24 dX0_hasFields_7 (by decide) (fun h => ?_) (fun h => ?_)
  · skip
    rw [i0, nI_leI (by omega) (by omega)] at h
    refine j_iconst S 0 dX0_hasFields_24 (by decide) ?_
    exact j_ireturn S hRT hXA hQ hXk hXn dX0_hasFields_25 rfl (by rw [show hasF (σ.row (2 + 2 * t)) (σ.row (3 + 2 * t)) = false from decide_eq_false (by omega)]; rfl) (fun H h => h)
  · skip
    rw [i0, nI_leI (by omega) (by omega)] at h
    refine j_aload_n S dX0_hasFields_10 rfl ?_
    refine j_get S (C := RX0) (T := TX0) (N := 2) (by decide +kernel) (rd_cloth (by omega)) rfl (v := .ref (Z.ad (ro (3 + 2 * t)))) 1 (by decide) (by decide +kernel) rfl rfl dX0_hasFields_11 ?_
    refine j_getN S (C := RX3) (T := TX3) (N := 2) (by decide +kernel) (rd_row (by omega)) rfl (v := .int (nI (σ.row (3 + 2 * t)).length)) 1 (by decide) 7 rfl rfl rfl dX0_hasFields_14 ?_
    refine j_if_le S 24 dX0_hasFields_17 (by decide) (fun h2 => ?_) (fun h2 => ?_)
    · skip
      rw [i0, nI_leI (by omega) (by omega)] at h2
      refine j_iconst S 0 dX0_hasFields_24 (by decide) ?_
      exact j_ireturn S hRT hXA hQ hXk hXn dX0_hasFields_25 rfl (by rw [show hasF (σ.row (2 + 2 * t)) (σ.row (3 + 2 * t)) = false from decide_eq_false (by omega)]; rfl) (fun H h => h)
    · skip
      rw [i0, nI_leI (by omega) (by omega)] at h2
      refine j_iconst S 1 dX0_hasFields_20 (by decide) ?_
      refine j_goto S 25 dX0_hasFields_21 (by decide) ?_
      exact j_ireturn S hRT hXA hQ hXk hXn dX0_hasFields_25 rfl (by rw [show hasF (σ.row (2 + 2 * t)) (σ.row (3 + 2 * t)) = true from decide_eq_true (by omega)]; rfl) (fun H h => h)

set_option maxRecDepth 100000 in
set_option maxHeartbeats 4000000 in
theorem k_X0_isUp (l : Launch) (Z : Zx) (A : Nat → Prop) (hA : AdOk Z A) (σ : St) (t : Nat) (ht : t < 2) (x y : Nat) (hx : x < 2 ^ 31) : Km l Z A yX0_isUp wsX0_isUp { frames := 1, cells := 0, slots := 0, locals := 21 } (Wd Z σ) [.ref (Z.ad (co t)), .int (nI x), .int (nI y)] (Qi (Wd Z σ) A (fun v => v = b2i (isUpI (σ.row (2 + 2 * t)) x y))) := by
  refine Km.of (cc := cX0_isUp) (maxL := 3) (ret := (some .boolean)) (by decide) rfl (Nat.le_of_ble_eq_true rfl) hA ?_
  intro X hXl S hAX hRT hXA hQ hXk hXn
  show J X 3 (Wd Z σ) 0 [some (.ref (Z.ad (co t))), some (.int (nI x)), some (.int (nI y))] []
  refine j_aload_n S dX0_isUp_0 rfl ?_
  refine j_get S (C := RX0) (T := TX0) (N := 2) (by decide +kernel) (rd_cloth (by omega)) rfl (v := .ref (Z.ad (ro (2 + 2 * t)))) 0 (by decide) (by decide +kernel) rfl rfl dX0_isUp_1 ?_
  refine j_iload_n S dX0_isUp_4 rfl ?_
  refine j_cVi S (n := 1) (rest := []) (k_X3_at X.l Z X.A hAX σ (2 + 2 * t) (by omega) (nI x)) ⟨_, _, _, _, rfl, gX0_isUp_X3_at, rfl, rfl, by decide +kernel, ⟨Nat.le_of_ble_eq_true rfl, Nat.le_of_ble_eq_true rfl⟩⟩ (rd_row (by omega)) rfl rfl (Nat.le_of_ble_eq_true rfl) rfl dX0_isUp_5 (fun v9 hv9 => ?_)
  subst hv9
  rw [atI_nI _ (by omega)]
  refine j_iload_n S dX0_isUp_8 rfl ?_
  refine j_cNi S (n := 2) (rest := []) (k_X4_hasBit X.l Z X.A hAX σ ((σ.row (2 + 2 * t)).getD x 0) (nI y)) ⟨_, _, _, _, _, 3, rfl, gX0_isUp_X4_hasBit_n37, rfl, rfl, ⟨rfl, by decide +kernel, by decide +kernel⟩, by decide +kernel, ⟨Nat.le_of_ble_eq_true rfl, Nat.le_of_ble_eq_true rfl⟩⟩ rfl (Nat.le_of_ble_eq_true rfl) rfl dX0_isUp_9 (fun v9 hv9 => ?_)
  subst hv9
  exact j_ireturn S hRT hXA hQ hXk hXn dX0_isUp_12 (b2i_nar _) rfl (fun H h => h)

set_option maxRecDepth 100000 in
set_option maxHeartbeats 4000000 in
theorem k_X0_floatAt (l : Launch) (Z : Zx) (A : Nat → Prop) (hA : AdOk Z A) (σ : St) (t : Nat) (ht : t < 2) (x y : Nat) (hx : x < 32) (hy : y < 32) : Km l Z A yX0_floatAt wsX0_floatAt { frames := 2, cells := 0, slots := 0, locals := 44 } (Wd Z σ) [.ref (Z.ad (co t)), .int (nI x), .int (nI y)] (Qi (Wd Z σ) A (fun v => v = floatI (σ.row (2 + 2 * t)) (σ.row (3 + 2 * t)) x y)) := by
  refine Km.of (cc := cX0_floatAt) (maxL := 3) (ret := (some .int)) (by decide) rfl (Nat.le_of_ble_eq_true rfl) hA ?_
  intro X hXl S hAX hRT hXA hQ hXk hXn
  show J X 3 (Wd Z σ) 0 [some (.ref (Z.ad (co t))), some (.int (nI x)), some (.int (nI y))] []
  refine j_aload_n S dX0_floatAt_0 rfl ?_
  refine j_iload_n S dX0_floatAt_1 rfl ?_
  refine j_iload_n S dX0_floatAt_2 rfl ?_
  refine j_cVi S (n := 2) (rest := []) (k_X0_isUp X.l Z X.A hAX σ t (by omega) x y (by omega)) ⟨_, _, _, _, rfl, gX0_floatAt_X0_isUp, rfl, rfl, by decide +kernel, ⟨Nat.le_of_ble_eq_true rfl, Nat.le_of_ble_eq_true rfl⟩⟩ (rd_cloth (by omega)) rfl rfl (Nat.le_of_ble_eq_true rfl) rfl dX0_floatAt_3 (fun v9 hv9 => ?_)
  subst hv9
  refine j_if_eq S 24 dX0_floatAt_6 (by decide) (fun h => ?_) (fun h => ?_)
  · skip
    refine j_aload_n S dX0_floatAt_24 rfl ?_
    refine j_get S (C := RX0) (T := TX0) (N := 2) (by decide +kernel) (rd_cloth (by omega)) rfl (v := .ref (Z.ad (ro (3 + 2 * t)))) 1 (by decide) (by decide +kernel) rfl rfl dX0_floatAt_25 ?_
    refine j_iload_n S dX0_floatAt_28 rfl ?_
    refine j_cVi S (n := 1) (rest := []) (k_X3_at X.l Z X.A hAX σ (3 + 2 * t) (by omega) (nI y)) ⟨_, _, _, _, rfl, gX0_floatAt_X3_at, rfl, rfl, by decide +kernel, ⟨Nat.le_of_ble_eq_true rfl, Nat.le_of_ble_eq_true rfl⟩⟩ (rd_row (by omega)) rfl rfl (Nat.le_of_ble_eq_true rfl) rfl dX0_floatAt_29 (fun v9 hv9 => ?_)
    subst hv9
    rw [atI_nI _ (by omega)]
    refine j_iload_n S dX0_floatAt_32 rfl ?_
    refine j_cNi S (n := 2) (rest := []) (k_X4_runAround X.l Z X.A hAX σ ((σ.row (3 + 2 * t)).getD y 0) x hx) ⟨_, _, _, _, _, 4, rfl, gX0_floatAt_X4_runAround_n48, rfl, rfl, ⟨rfl, by decide +kernel, by decide +kernel⟩, by decide +kernel, ⟨Nat.le_of_ble_eq_true rfl, Nat.le_of_ble_eq_true rfl⟩⟩ rfl (Nat.le_of_ble_eq_true rfl) rfl dX0_floatAt_33 (fun v9 hv9 => ?_)
    subst hv9
    exact j_ireturn S hRT hXA hQ hXk hXn dX0_floatAt_36 rfl (by unfold floatI; rw [if_neg (by rw [b2i_0.mp h]; decide)]) (fun H h => h)
  · skip
    refine j_aload_n S dX0_floatAt_9 rfl ?_
    refine j_get S (C := RX0) (T := TX0) (N := 2) (by decide +kernel) (rd_cloth (by omega)) rfl (v := .ref (Z.ad (ro (2 + 2 * t)))) 0 (by decide) (by decide +kernel) rfl rfl dX0_floatAt_10 ?_
    refine j_iload_n S dX0_floatAt_13 rfl ?_
    refine j_cVi S (n := 1) (rest := []) (k_X3_at X.l Z X.A hAX σ (2 + 2 * t) (by omega) (nI x)) ⟨_, _, _, _, rfl, gX0_floatAt_X3_at, rfl, rfl, by decide +kernel, ⟨Nat.le_of_ble_eq_true rfl, Nat.le_of_ble_eq_true rfl⟩⟩ (rd_row (by omega)) rfl rfl (Nat.le_of_ble_eq_true rfl) rfl dX0_floatAt_14 (fun v9 hv9 => ?_)
    subst hv9
    rw [atI_nI _ (by omega)]
    refine j_iload_n S dX0_floatAt_17 rfl ?_
    refine j_cNi S (n := 2) (rest := []) (k_X4_runAround X.l Z X.A hAX σ ((σ.row (2 + 2 * t)).getD x 0) y hy) ⟨_, _, _, _, _, 4, rfl, gX0_floatAt_X4_runAround_n48, rfl, rfl, ⟨rfl, by decide +kernel, by decide +kernel⟩, by decide +kernel, ⟨Nat.le_of_ble_eq_true rfl, Nat.le_of_ble_eq_true rfl⟩⟩ rfl (Nat.le_of_ble_eq_true rfl) rfl dX0_floatAt_18 (fun v9 hv9 => ?_)
    subst hv9
    refine j_goto S 36 dX0_floatAt_21 (by decide) ?_
    exact j_ireturn S hRT hXA hQ hXk hXn dX0_floatAt_36 rfl (by unfold floatI; rw [if_pos (b2i_n0.mp h)]) (fun H h => h)

set_option maxRecDepth 100000 in
set_option maxHeartbeats 4000000 in
theorem k_X0_countFloats (l : Launch) (Z : Zx) (A : Nat → Prop) (hA : AdOk Z A) (σ : St) (t : Nat) (ht : t < 2) (m : Nat) (hm : m < 2 ^ 31) : Km l Z A yX0_countFloats wsX0_countFloats { frames := 2, cells := 0, slots := 0, locals := 46 } (Wd Z σ) [.ref (Z.ad (co t)), .int (nI m)] (Qi (Wd Z σ) A (fun v => v = countRunsI (σ.row (2 + 2 * t)) m + countRunsI (σ.row (3 + 2 * t)) m)) := by
  refine Km.of (cc := cX0_countFloats) (maxL := 2) (ret := (some .int)) (by decide) rfl (Nat.le_of_ble_eq_true rfl) hA ?_
  intro X hXl S hAX hRT hXA hQ hXk hXn
  show J X 2 (Wd Z σ) 0 [some (.ref (Z.ad (co t))), some (.int (nI m))] []
  refine j_aload_n S dX0_countFloats_0 rfl ?_
  refine j_get S (C := RX0) (T := TX0) (N := 2) (by decide +kernel) (rd_cloth (by omega)) rfl (v := .ref (Z.ad (ro (2 + 2 * t)))) 0 (by decide) (by decide +kernel) rfl rfl dX0_countFloats_1 ?_
  refine j_iload_n S dX0_countFloats_4 rfl ?_
  refine j_cVi S (n := 1) (rest := []) (k_X3_countRuns X.l Z X.A hAX σ (2 + 2 * t) (by omega) m hm) ⟨_, _, _, _, rfl, gX0_countFloats_X3_countRuns, rfl, rfl, by decide +kernel, ⟨Nat.le_of_ble_eq_true rfl, Nat.le_of_ble_eq_true rfl⟩⟩ (rd_row (by omega)) rfl rfl (Nat.le_of_ble_eq_true rfl) rfl dX0_countFloats_5 (fun v9 hv9 => ?_)
  subst hv9
  refine j_aload_n S dX0_countFloats_8 rfl ?_
  refine j_get S (C := RX0) (T := TX0) (N := 2) (by decide +kernel) (rd_cloth (by omega)) rfl (v := .ref (Z.ad (ro (3 + 2 * t)))) 1 (by decide) (by decide +kernel) rfl rfl dX0_countFloats_9 ?_
  refine j_iload_n S dX0_countFloats_12 rfl ?_
  refine j_cVi S (n := 1) (rest := [.int (countRunsI (σ.row (2 + 2 * t)) m)]) (k_X3_countRuns X.l Z X.A hAX σ (3 + 2 * t) (by omega) m hm) ⟨_, _, _, _, rfl, gX0_countFloats_X3_countRuns, rfl, rfl, by decide +kernel, ⟨Nat.le_of_ble_eq_true rfl, Nat.le_of_ble_eq_true rfl⟩⟩ (rd_row (by omega)) rfl rfl (Nat.le_of_ble_eq_true rfl) rfl dX0_countFloats_13 (fun v9 hv9 => ?_)
  subst hv9
  refine j_iadd S ((countRunsI (σ.row (2 + 2 * t)) m) + (countRunsI (σ.row (3 + 2 * t)) m)) dX0_countFloats_16 rfl ?_
  exact j_ireturn S hRT hXA hQ hXk hXn dX0_countFloats_17 rfl rfl (fun H h => h)

set_option maxRecDepth 100000 in
set_option maxHeartbeats 4000000 in
theorem k_X0_longestFloat (l : Launch) (Z : Zx) (A : Nat → Prop) (hA : AdOk Z A) (σ : St) (t : Nat) (ht : t < 2) : Km l Z A yX0_longestFloat wsX0_longestFloat { frames := 2, cells := 0, slots := 0, locals := 44 } (Wd Z σ) [.ref (Z.ad (co t))] (Qi (Wd Z σ) A (fun v => v = longestC (σ.row (2 + 2 * t)) (σ.row (3 + 2 * t)))) := by
  refine Km.of (cc := cX0_longestFloat) (maxL := 1) (ret := (some .int)) (by decide) rfl (Nat.le_of_ble_eq_true rfl) hA ?_
  intro X hXl S hAX hRT hXA hQ hXk hXn
  show J X 1 (Wd Z σ) 0 [some (.ref (Z.ad (co t)))] []
  refine j_aload_n S dX0_longestFloat_0 rfl ?_
  refine j_get S (C := RX0) (T := TX0) (N := 2) (by decide +kernel) (rd_cloth (by omega)) rfl (v := .ref (Z.ad (ro (2 + 2 * t)))) 0 (by decide) (by decide +kernel) rfl rfl dX0_longestFloat_1 ?_
  refine j_cVi S (n := 0) (rest := []) (k_X3_longestOfRuns X.l Z X.A hAX σ (2 + 2 * t) (by omega)) ⟨_, _, _, _, rfl, gX0_longestFloat_X3_longestOfRuns, rfl, rfl, by decide +kernel, ⟨Nat.le_of_ble_eq_true rfl, Nat.le_of_ble_eq_true rfl⟩⟩ (rd_row (by omega)) rfl rfl (Nat.le_of_ble_eq_true rfl) rfl dX0_longestFloat_4 (fun v9 hv9 => ?_)
  subst hv9
  refine j_aload_n S dX0_longestFloat_7 rfl ?_
  refine j_get S (C := RX0) (T := TX0) (N := 2) (by decide +kernel) (rd_cloth (by omega)) rfl (v := .ref (Z.ad (ro (3 + 2 * t)))) 1 (by decide) (by decide +kernel) rfl rfl dX0_longestFloat_8 ?_
  refine j_cVi S (n := 0) (rest := [.int (longestI (σ.row (2 + 2 * t)))]) (k_X3_longestOfRuns X.l Z X.A hAX σ (3 + 2 * t) (by omega)) ⟨_, _, _, _, rfl, gX0_longestFloat_X3_longestOfRuns, rfl, rfl, by decide +kernel, ⟨Nat.le_of_ble_eq_true rfl, Nat.le_of_ble_eq_true rfl⟩⟩ (rd_row (by omega)) rfl rfl (Nat.le_of_ble_eq_true rfl) rfl dX0_longestFloat_11 (fun v9 hv9 => ?_)
  subst hv9
  refine j_max S (if longestI (σ.row (2 + 2 * t)) < longestI (σ.row (3 + 2 * t)) then longestI (σ.row (3 + 2 * t)) else longestI (σ.row (2 + 2 * t))) (by decide +kernel) (by decide +kernel) (by decide +kernel) (by decide +kernel) ⟨Nat.le_of_ble_eq_true rfl, Nat.le_of_ble_eq_true rfl⟩ dX0_longestFloat_14 rfl ?_
  exact j_ireturn S hRT hXA hQ hXk hXn dX0_longestFloat_17 rfl rfl (fun H h => h)

set_option maxRecDepth 100000 in
set_option maxHeartbeats 4000000 in
theorem k_X0_nextTo (l : Launch) (Z : Zx) (A : Nat → Prop) (hA : AdOk Z A) (σ : St) (q r : Nat) (hq : q < 30) (hr : r < 30) (mem : Int32) (bk : Bool) : Km l Z A yX0_nextTo wsX0_nextTo { frames := 1, cells := 0, slots := 0, locals := 21 } (Wd Z σ) [.ref (Z.ad (ro q)), .int mem, .ref (Z.ad (ro r)), .int (b2i bk)] (Qi (Wd Z σ) A (fun v => v = nextI (σ.row q) mem (σ.row r).length bk)) := by
  refine Km.of (cc := cX0_nextTo) (maxL := 6) (ret := (some .int)) (by decide) rfl (Nat.le_of_ble_eq_true rfl) hA ?_
  intro X hXl S hAX hRT hXA hQ hXk hXn
  show J X 6 (Wd Z σ) 0 [some (.ref (Z.ad (ro q))), some (.int mem), some (.ref (Z.ad (ro r))), some (.int (b2i bk)), none, none] []
  refine J.caps (fun hcap => ?_)
  have hq32 : (σ.row q).length < 2 ^ 31 := Nat.lt_of_le_of_lt (hcap q hq) (cap_lt q)
  have loop : ∀ (f i : Nat), i + f = (σ.row q).length → J X 6 (Wd Z σ) 6 [some (.ref (Z.ad (ro q))), some (.int mem), some (.ref (Z.ad (ro r))), some (.int (b2i bk)), some (.int (nxF (σ.row q) mem bk i)), some (.int (nI i))] [] := by
    intro f
    induction f with
    | zero =>
      intro i hi
      refine j_iload S dX0_nextTo_6 rfl ?_
      refine j_aload_n S dX0_nextTo_8 rfl ?_
      refine j_getN S (C := RX3) (T := TX3) (N := 2) (by decide +kernel) (rd_row (by omega)) rfl (v := .int (nI (σ.row q).length)) 1 (by decide) 7 rfl rfl rfl dX0_nextTo_9 ?_
      refine j_icmp_ge S 56 dX0_nextTo_12 (by decide) (fun _ => ?_) (fun h9 => absurd (by rw [nI_leI (by omega) (by omega)]; omega) h9)
      refine j_iload S dX0_nextTo_56 rfl ?_
      refine j_aload_n S dX0_nextTo_58 rfl ?_
      refine j_getN S (C := RX3) (T := TX3) (N := 2) (by decide +kernel) (rd_row (by omega)) rfl (v := .int (nI (σ.row r).length)) 1 (by decide) 7 rfl rfl rfl dX0_nextTo_59 ?_
      refine j_cNi S (n := 1) (rest := [.int (nxF (σ.row q) mem bk i)]) (k_X4_fullSet X.l Z X.A hAX σ (nI (σ.row r).length)) ⟨_, _, _, _, _, 5, rfl, gX0_nextTo_X4_fullSet_n76, rfl, rfl, ⟨rfl, by decide +kernel, by decide +kernel⟩, by decide +kernel, ⟨Nat.le_of_ble_eq_true rfl, Nat.le_of_ble_eq_true rfl⟩⟩ rfl (Nat.le_of_ble_eq_true rfl) rfl dX0_nextTo_62 (fun v9 hv9 => ?_)
      subst hv9
      refine j_iand S ((nxF (σ.row q) mem bk i) &&& (fullI (nI (σ.row r).length))) dX0_nextTo_65 rfl ?_
      obtain rfl : i = (σ.row q).length := by omega
      exact j_ireturn S hRT hXA hQ hXk hXn dX0_nextTo_66 rfl rfl (fun H h => h)
    | succ f ih =>
      intro i hi
      refine j_iload S dX0_nextTo_6 rfl ?_
      refine j_aload_n S dX0_nextTo_8 rfl ?_
      refine j_getN S (C := RX3) (T := TX3) (N := 2) (by decide +kernel) (rd_row (by omega)) rfl (v := .int (nI (σ.row q).length)) 1 (by decide) 7 rfl rfl rfl dX0_nextTo_9 ?_
      refine j_icmp_ge S 56 dX0_nextTo_12 (by decide) (fun h9 => absurd h9 (by rw [nI_leI (by omega) (by omega)]; omega)) (fun _ => ?_)
      refine j_iload_n S dX0_nextTo_15 rfl ?_
      refine j_iload S dX0_nextTo_16 rfl ?_
      refine j_cNi S (n := 2) (rest := []) (k_X4_hasBit X.l Z X.A hAX σ mem (nI i)) ⟨_, _, _, _, _, 3, rfl, gX0_nextTo_X4_hasBit_n37, rfl, rfl, ⟨rfl, by decide +kernel, by decide +kernel⟩, by decide +kernel, ⟨Nat.le_of_ble_eq_true rfl, Nat.le_of_ble_eq_true rfl⟩⟩ rfl (Nat.le_of_ble_eq_true rfl) rfl dX0_nextTo_18 (fun v9 hv9 => ?_)
      subst hv9
      refine j_if_eq S 50 dX0_nextTo_21 (by decide) (fun h => ?_) (fun h => ?_)
      · skip
        have e9 : nxF (σ.row q) mem bk i = nxF (σ.row q) mem bk (i + 1) := by rw [nxF, if_neg (by rw [b2i_0.mp h]; decide)]
        refine j_iinc S (nI (i + 1)) [some (.ref (Z.ad (ro q))), some (.int mem), some (.ref (Z.ad (ro r))), some (.int (b2i bk)), some (.int (nxF (σ.row q) mem bk i)), some (.int (nI (i + 1)))] dX0_nextTo_50 rfl (nI_1 i) (by decide) rfl rfl ?_
        refine j_goto S 6 dX0_nextTo_53 (by decide) ?_
        rw [e9]
        exact ih (i + 1) (by omega)
      · skip
        refine j_iload S dX0_nextTo_24 rfl ?_
        refine j_iload_n S dX0_nextTo_26 rfl ?_
        refine j_if_eq S 41 dX0_nextTo_27 (by decide) (fun h2 => ?_) (fun h2 => ?_)
        · skip
          have e9 : nxF (σ.row q) mem bk i ||| (σ.row q).getD i 0 = nxF (σ.row q) mem bk (i + 1) := by rw [nxF, if_pos (b2i_n0.mp h), b2i_0.mp h2]; rfl
          refine j_aload_n S dX0_nextTo_41 rfl ?_
          refine j_iload S dX0_nextTo_42 rfl ?_
          refine j_cVi S (n := 1) (rest := [.int (nxF (σ.row q) mem bk i)]) (k_X3_at X.l Z X.A hAX σ q (by omega) (nI i)) ⟨_, _, _, _, rfl, gX0_nextTo_X3_at, rfl, rfl, by decide +kernel, ⟨Nat.le_of_ble_eq_true rfl, Nat.le_of_ble_eq_true rfl⟩⟩ (rd_row (by omega)) rfl rfl (Nat.le_of_ble_eq_true rfl) rfl dX0_nextTo_44 (fun v9 hv9 => ?_)
          subst hv9
          rw [atI_nI _ (by omega)]
          refine j_ior S (nxF (σ.row q) mem bk (i + 1)) dX0_nextTo_47 e9 ?_
          refine j_istore S [some (.ref (Z.ad (ro q))), some (.int mem), some (.ref (Z.ad (ro r))), some (.int (b2i bk)), some (.int (nxF (σ.row q) mem bk (i + 1))), some (.int (nI i))] dX0_nextTo_48 (by decide) rfl rfl ?_
          refine j_iinc S (nI (i + 1)) [some (.ref (Z.ad (ro q))), some (.int mem), some (.ref (Z.ad (ro r))), some (.int (b2i bk)), some (.int (nxF (σ.row q) mem bk (i + 1))), some (.int (nI (i + 1)))] dX0_nextTo_50 rfl (nI_1 i) (by decide) rfl rfl ?_
          refine j_goto S 6 dX0_nextTo_53 (by decide) ?_
          exact ih (i + 1) (by omega)
        · skip
          have e9 : nxF (σ.row q) mem bk i ||| ((σ.row q).getD i 0 ^^^ (-1)) = nxF (σ.row q) mem bk (i + 1) := by rw [nxF, if_pos (b2i_n0.mp h), b2i_n0.mp h2]; rfl
          refine j_aload_n S dX0_nextTo_30 rfl ?_
          refine j_iload S dX0_nextTo_31 rfl ?_
          refine j_cVi S (n := 1) (rest := [.int (nxF (σ.row q) mem bk i)]) (k_X3_at X.l Z X.A hAX σ q (by omega) (nI i)) ⟨_, _, _, _, rfl, gX0_nextTo_X3_at, rfl, rfl, by decide +kernel, ⟨Nat.le_of_ble_eq_true rfl, Nat.le_of_ble_eq_true rfl⟩⟩ (rd_row (by omega)) rfl rfl (Nat.le_of_ble_eq_true rfl) rfl dX0_nextTo_33 (fun v9 hv9 => ?_)
          subst hv9
          rw [atI_nI _ (by omega)]
          refine j_iconst S (-1) dX0_nextTo_36 (by decide) ?_
          refine j_ixor S (((σ.row q).getD i 0) ^^^ (-1)) dX0_nextTo_37 rfl ?_
          refine j_goto S 47 dX0_nextTo_38 (by decide) ?_
          refine j_ior S (nxF (σ.row q) mem bk (i + 1)) dX0_nextTo_47 e9 ?_
          refine j_istore S [some (.ref (Z.ad (ro q))), some (.int mem), some (.ref (Z.ad (ro r))), some (.int (b2i bk)), some (.int (nxF (σ.row q) mem bk (i + 1))), some (.int (nI i))] dX0_nextTo_48 (by decide) rfl rfl ?_
          refine j_iinc S (nI (i + 1)) [some (.ref (Z.ad (ro q))), some (.int mem), some (.ref (Z.ad (ro r))), some (.int (b2i bk)), some (.int (nxF (σ.row q) mem bk (i + 1))), some (.int (nI (i + 1)))] dX0_nextTo_50 rfl (nI_1 i) (by decide) rfl rfl ?_
          refine j_goto S 6 dX0_nextTo_53 (by decide) ?_
          exact ih (i + 1) (by omega)
  refine j_iconst S 0 dX0_nextTo_0 (by decide) ?_
  refine j_istore S [some (.ref (Z.ad (ro q))), some (.int mem), some (.ref (Z.ad (ro r))), some (.int (b2i bk)), some (.int 0), none] dX0_nextTo_1 (by decide) rfl rfl ?_
  refine j_iconst S 0 dX0_nextTo_3 (by decide) ?_
  refine j_istore S [some (.ref (Z.ad (ro q))), some (.int mem), some (.ref (Z.ad (ro r))), some (.int (b2i bk)), some (.int 0), some (.int 0)] dX0_nextTo_4 (by decide) rfl rfl ?_
  exact loop (σ.row q).length 0 (by omega)

set_option maxRecDepth 100000 in
set_option maxHeartbeats 4000000 in
theorem k_X0_endsReached (l : Launch) (Z : Zx) (A : Nat → Prop) (hA : AdOk Z A) (σ : St) (t : Nat) (ht : t < 2) (bk : Bool) : Km l Z A yX0_endsReached wsX0_endsReached { frames := 2, cells := 0, slots := 0, locals := 46 } (Wd Z σ) [.ref (Z.ad (co t)), .int (b2i bk)] (Qi (Wd Z σ) A (fun v => v = endsR (σ.row (2 + 2 * t)) (σ.row (3 + 2 * t)) bk)) := by
  refine Km.of (cc := cX0_endsReached) (maxL := 6) (ret := (some .int)) (by decide) rfl (Nat.le_of_ble_eq_true rfl) hA ?_
  intro X hXl S hAX hRT hXA hQ hXk hXn
  show J X 6 (Wd Z σ) 0 [some (.ref (Z.ad (co t))), some (.int (b2i bk)), none, none, none, none] []
  have loop : ∀ (f k : Nat) (x : Int32), k + f = 32 → endsR (σ.row (2 + 2 * t)) (σ.row (3 + 2 * t)) bk = erF (σ.row (2 + 2 * t)) (σ.row (3 + 2 * t)) bk f x → J X 6 (Wd Z σ) 4 [some (.ref (Z.ad (co t))), some (.int (b2i bk)), some (.int x), some (.int (nI k)), none, none] [] := by
    intro f
    induction f with
    | zero =>
      intro k x hk he
      refine j_iload_n S dX0_endsReached_4 rfl ?_
      refine j_bipush S 32 dX0_endsReached_5 (by decide) ?_
      refine j_icmp_ge S 61 dX0_endsReached_7 (by decide) (fun _ => ?_) (fun h9 => absurd (by rw [nI32, nI_leI (by omega) (by omega)]; omega) h9)
      refine j_iload_n S dX0_endsReached_61 rfl ?_
      exact j_ireturn S hRT hXA hQ hXk hXn dX0_endsReached_62 rfl he.symm (fun H h => h)
    | succ f ih =>
      intro k x hk he
      refine j_iload_n S dX0_endsReached_4 rfl ?_
      refine j_bipush S 32 dX0_endsReached_5 (by decide) ?_
      refine j_icmp_ge S 61 dX0_endsReached_7 (by decide) (fun h9 => absurd h9 (by rw [nI32, nI_leI (by omega) (by omega)]; omega)) (fun _ => ?_)
      refine j_aload_n S dX0_endsReached_10 rfl ?_
      refine j_get S (C := RX0) (T := TX0) (N := 2) (by decide +kernel) (rd_cloth (by omega)) rfl (v := .ref (Z.ad (ro (2 + 2 * t)))) 0 (by decide) (by decide +kernel) rfl rfl dX0_endsReached_11 ?_
      refine j_iload_n S dX0_endsReached_14 rfl ?_
      refine j_aload_n S dX0_endsReached_15 rfl ?_
      refine j_get S (C := RX0) (T := TX0) (N := 2) (by decide +kernel) (rd_cloth (by omega)) rfl (v := .ref (Z.ad (ro (3 + 2 * t)))) 1 (by decide) (by decide +kernel) rfl rfl dX0_endsReached_16 ?_
      refine j_iload_n S dX0_endsReached_19 rfl ?_
      refine j_cSi S (n := 4) (rest := []) (k_X0_nextTo X.l Z X.A hAX σ (2 + 2 * t) (3 + 2 * t) (by omega) (by omega) x bk) ⟨_, _, _, _, rfl, gX0_endsReached_X0_nextTo, rfl, rfl, by decide +kernel, ⟨Nat.le_of_ble_eq_true rfl, Nat.le_of_ble_eq_true rfl⟩⟩ rfl (Nat.le_of_ble_eq_true rfl) rfl dX0_endsReached_20 (fun v9 hv9 => ?_)
      subst hv9
      refine j_istore S [some (.ref (Z.ad (co t))), some (.int (b2i bk)), some (.int x), some (.int (nI k)), some (.int (nextI (σ.row (2 + 2 * t)) x (σ.row (3 + 2 * t)).length bk)), none] dX0_endsReached_23 (by decide) rfl rfl ?_
      refine j_iload_n S dX0_endsReached_25 rfl ?_
      refine j_aload_n S dX0_endsReached_26 rfl ?_
      refine j_get S (C := RX0) (T := TX0) (N := 2) (by decide +kernel) (rd_cloth (by omega)) rfl (v := .ref (Z.ad (ro (3 + 2 * t)))) 1 (by decide) (by decide +kernel) rfl rfl dX0_endsReached_27 ?_
      refine j_iload S dX0_endsReached_30 rfl ?_
      refine j_aload_n S dX0_endsReached_32 rfl ?_
      refine j_get S (C := RX0) (T := TX0) (N := 2) (by decide +kernel) (rd_cloth (by omega)) rfl (v := .ref (Z.ad (ro (2 + 2 * t)))) 0 (by decide) (by decide +kernel) rfl rfl dX0_endsReached_33 ?_
      refine j_iload_n S dX0_endsReached_36 rfl ?_
      refine j_cSi S (n := 4) (rest := [.int x]) (k_X0_nextTo X.l Z X.A hAX σ (3 + 2 * t) (2 + 2 * t) (by omega) (by omega) (nextI (σ.row (2 + 2 * t)) x (σ.row (3 + 2 * t)).length bk) bk) ⟨_, _, _, _, rfl, gX0_endsReached_X0_nextTo, rfl, rfl, by decide +kernel, ⟨Nat.le_of_ble_eq_true rfl, Nat.le_of_ble_eq_true rfl⟩⟩ rfl (Nat.le_of_ble_eq_true rfl) rfl dX0_endsReached_37 (fun v9 hv9 => ?_)
      subst hv9
      refine j_ior S (moreI (σ.row (2 + 2 * t)) (σ.row (3 + 2 * t)) bk x) dX0_endsReached_40 rfl ?_
      refine j_istore S [some (.ref (Z.ad (co t))), some (.int (b2i bk)), some (.int x), some (.int (nI k)), some (.int (nextI (σ.row (2 + 2 * t)) x (σ.row (3 + 2 * t)).length bk)), some (.int (moreI (σ.row (2 + 2 * t)) (σ.row (3 + 2 * t)) bk x))] dX0_endsReached_41 (by decide) rfl rfl ?_
      refine j_iload S dX0_endsReached_43 rfl ?_
      refine j_iload_n S dX0_endsReached_45 rfl ?_
      refine j_icmp_ne S 52 dX0_endsReached_46 (by decide) (fun h => ?_) (fun h => ?_)
      · skip
        refine j_iload S dX0_endsReached_52 rfl ?_
        refine j_istore_n S [some (.ref (Z.ad (co t))), some (.int (b2i bk)), some (.int (moreI (σ.row (2 + 2 * t)) (σ.row (3 + 2 * t)) bk x)), some (.int (nI k)), some (.int (nextI (σ.row (2 + 2 * t)) x (σ.row (3 + 2 * t)).length bk)), some (.int (moreI (σ.row (2 + 2 * t)) (σ.row (3 + 2 * t)) bk x))] dX0_endsReached_54 (by decide) rfl rfl ?_
        refine j_iinc S (nI (k + 1)) [some (.ref (Z.ad (co t))), some (.int (b2i bk)), some (.int (moreI (σ.row (2 + 2 * t)) (σ.row (3 + 2 * t)) bk x)), some (.int (nI (k + 1))), some (.int (nextI (σ.row (2 + 2 * t)) x (σ.row (3 + 2 * t)).length bk)), some (.int (moreI (σ.row (2 + 2 * t)) (σ.row (3 + 2 * t)) bk x))] dX0_endsReached_55 rfl (nI_1 k) (by decide) rfl rfl ?_
        refine j_goto S 4 dX0_endsReached_58 (by decide) ?_
        refine J.less [some (.ref (Z.ad (co t))), some (.int (b2i bk)), some (.int (moreI (σ.row (2 + 2 * t)) (σ.row (3 + 2 * t)) bk x)), some (.int (nI (k + 1))), none, none] ⟨rfl, rfl, rfl, rfl, trivial⟩ ?_
        exact ih (k + 1) _ (by omega) (by rw [he, erF, if_neg h])
      · skip
        refine j_goto S 61 dX0_endsReached_49 (by decide) ?_
        refine j_iload_n S dX0_endsReached_61 rfl ?_
        exact j_ireturn S hRT hXA hQ hXk hXn dX0_endsReached_62 rfl (by rw [he, erF, if_pos h]) (fun H h => h)
  refine j_iconst S 1 dX0_endsReached_0 (by decide) ?_
  refine j_istore_n S [some (.ref (Z.ad (co t))), some (.int (b2i bk)), some (.int 1), none, none, none] dX0_endsReached_1 (by decide) rfl rfl ?_
  refine j_iconst S 0 dX0_endsReached_2 (by decide) ?_
  refine j_istore_n S [some (.ref (Z.ad (co t))), some (.int (b2i bk)), some (.int 1), some (.int 0), none, none] dX0_endsReached_3 (by decide) rfl rfl ?_
  exact loop 32 0 1 rfl rfl

set_option maxRecDepth 100000 in
set_option maxHeartbeats 4000000 in
theorem k_X0_picksReached (l : Launch) (Z : Zx) (A : Nat → Prop) (hA : AdOk Z A) (σ : St) (t : Nat) (ht : t < 2) (bk : Bool) : Km l Z A yX0_picksReached wsX0_picksReached { frames := 3, cells := 0, slots := 0, locals := 71 } (Wd Z σ) [.ref (Z.ad (co t)), .int (b2i bk)] (Qi (Wd Z σ) A (fun v => v = picksR (σ.row (2 + 2 * t)) (σ.row (3 + 2 * t)) bk)) := by
  refine Km.of (cc := cX0_picksReached) (maxL := 2) (ret := (some .int)) (by decide) rfl (Nat.le_of_ble_eq_true rfl) hA ?_
  intro X hXl S hAX hRT hXA hQ hXk hXn
  show J X 2 (Wd Z σ) 0 [some (.ref (Z.ad (co t))), some (.int (b2i bk))] []
  refine j_aload_n S dX0_picksReached_0 rfl ?_
  refine j_get S (C := RX0) (T := TX0) (N := 2) (by decide +kernel) (rd_cloth (by omega)) rfl (v := .ref (Z.ad (ro (2 + 2 * t)))) 0 (by decide) (by decide +kernel) rfl rfl dX0_picksReached_1 ?_
  refine j_aload_n S dX0_picksReached_4 rfl ?_
  refine j_iload_n S dX0_picksReached_5 rfl ?_
  refine j_cVi S (n := 1) (rest := [.ref (Z.ad (ro (2 + 2 * t)))]) (k_X0_endsReached X.l Z X.A hAX σ t (by omega) bk) ⟨_, _, _, _, rfl, gX0_picksReached_X0_endsReached, rfl, rfl, by decide +kernel, ⟨Nat.le_of_ble_eq_true rfl, Nat.le_of_ble_eq_true rfl⟩⟩ (rd_cloth (by omega)) rfl rfl (Nat.le_of_ble_eq_true rfl) rfl dX0_picksReached_6 (fun v9 hv9 => ?_)
  subst hv9
  refine j_aload_n S dX0_picksReached_9 rfl ?_
  refine j_get S (C := RX0) (T := TX0) (N := 2) (by decide +kernel) (rd_cloth (by omega)) rfl (v := .ref (Z.ad (ro (3 + 2 * t)))) 1 (by decide) (by decide +kernel) rfl rfl dX0_picksReached_10 ?_
  refine j_iload_n S dX0_picksReached_13 rfl ?_
  refine j_cSi S (n := 4) (rest := []) (k_X0_nextTo X.l Z X.A hAX σ (2 + 2 * t) (3 + 2 * t) (by omega) (by omega) (endsR (σ.row (2 + 2 * t)) (σ.row (3 + 2 * t)) bk) bk) ⟨_, _, _, _, rfl, gX0_picksReached_X0_nextTo, rfl, rfl, by decide +kernel, ⟨Nat.le_of_ble_eq_true rfl, Nat.le_of_ble_eq_true rfl⟩⟩ rfl (Nat.le_of_ble_eq_true rfl) rfl dX0_picksReached_14 (fun v9 hv9 => ?_)
  subst hv9
  exact j_ireturn S hRT hXA hQ hXk hXn dX0_picksReached_17 rfl rfl (fun H h => h)

set_option maxRecDepth 100000 in
set_option maxHeartbeats 4000000 in
theorem k_X0_isAllReached (l : Launch) (Z : Zx) (A : Nat → Prop) (hA : AdOk Z A) (σ : St) (t : Nat) (ht : t < 2) (bk : Bool) : Km l Z A yX0_isAllReached wsX0_isAllReached { frames := 4, cells := 0, slots := 0, locals := 92 } (Wd Z σ) [.ref (Z.ad (co t)), .int (b2i bk)] (Qi (Wd Z σ) A (fun v => v = b2i (allR (σ.row (2 + 2 * t)) (σ.row (3 + 2 * t)) bk))) := by
  refine Km.of (cc := cX0_isAllReached) (maxL := 2) (ret := (some .boolean)) (by decide) rfl (Nat.le_of_ble_eq_true rfl) hA ?_
  intro X hXl S hAX hRT hXA hQ hXk hXn
  show J X 2 (Wd Z σ) 0 [some (.ref (Z.ad (co t))), some (.int (b2i bk))] []
  refine j_aload_n S dX0_isAllReached_0 rfl ?_
  refine j_iload_n S dX0_isAllReached_1 rfl ?_
  refine j_cVi S (n := 1) (rest := []) (k_X0_endsReached X.l Z X.A hAX σ t (by omega) bk) ⟨_, _, _, _, rfl, gX0_isAllReached_X0_endsReached, rfl, rfl, by decide +kernel, ⟨Nat.le_of_ble_eq_true rfl, Nat.le_of_ble_eq_true rfl⟩⟩ (rd_cloth (by omega)) rfl rfl (Nat.le_of_ble_eq_true rfl) rfl dX0_isAllReached_2 (fun v9 hv9 => ?_)
  subst hv9
  refine j_aload_n S dX0_isAllReached_5 rfl ?_
  refine j_get S (C := RX0) (T := TX0) (N := 2) (by decide +kernel) (rd_cloth (by omega)) rfl (v := .ref (Z.ad (ro (2 + 2 * t)))) 0 (by decide) (by decide +kernel) rfl rfl dX0_isAllReached_6 ?_
  refine j_getN S (C := RX3) (T := TX3) (N := 2) (by decide +kernel) (rd_row (by omega)) rfl (v := .int (nI (σ.row (2 + 2 * t)).length)) 1 (by decide) 7 rfl rfl rfl dX0_isAllReached_9 ?_
  refine j_cNi S (n := 1) (rest := [.int (endsR (σ.row (2 + 2 * t)) (σ.row (3 + 2 * t)) bk)]) (k_X4_fullSet X.l Z X.A hAX σ (nI (σ.row (2 + 2 * t)).length)) ⟨_, _, _, _, _, 5, rfl, gX0_isAllReached_X4_fullSet_n76, rfl, rfl, ⟨rfl, by decide +kernel, by decide +kernel⟩, by decide +kernel, ⟨Nat.le_of_ble_eq_true rfl, Nat.le_of_ble_eq_true rfl⟩⟩ rfl (Nat.le_of_ble_eq_true rfl) rfl dX0_isAllReached_12 (fun v9 hv9 => ?_)
  subst hv9
  refine j_icmp_ne S 40 dX0_isAllReached_15 (by decide) (fun h => ?_) (fun h => ?_)
  · skip
    refine j_iconst S 0 dX0_isAllReached_40 (by decide) ?_
    exact j_ireturn S hRT hXA hQ hXk hXn dX0_isAllReached_41 rfl (by unfold allR; rw [beq_eq_false_iff_ne.mpr h]; rfl) (fun H h => h)
  · skip
    refine j_aload_n S dX0_isAllReached_18 rfl ?_
    refine j_iload_n S dX0_isAllReached_19 rfl ?_
    refine j_cVi S (n := 1) (rest := []) (k_X0_picksReached X.l Z X.A hAX σ t (by omega) bk) ⟨_, _, _, _, rfl, gX0_isAllReached_X0_picksReached, rfl, rfl, by decide +kernel, ⟨Nat.le_of_ble_eq_true rfl, Nat.le_of_ble_eq_true rfl⟩⟩ (rd_cloth (by omega)) rfl rfl (Nat.le_of_ble_eq_true rfl) rfl dX0_isAllReached_20 (fun v9 hv9 => ?_)
    subst hv9
    refine j_aload_n S dX0_isAllReached_23 rfl ?_
    refine j_get S (C := RX0) (T := TX0) (N := 2) (by decide +kernel) (rd_cloth (by omega)) rfl (v := .ref (Z.ad (ro (3 + 2 * t)))) 1 (by decide) (by decide +kernel) rfl rfl dX0_isAllReached_24 ?_
    refine j_getN S (C := RX3) (T := TX3) (N := 2) (by decide +kernel) (rd_row (by omega)) rfl (v := .int (nI (σ.row (3 + 2 * t)).length)) 1 (by decide) 7 rfl rfl rfl dX0_isAllReached_27 ?_
    refine j_cNi S (n := 1) (rest := [.int (picksR (σ.row (2 + 2 * t)) (σ.row (3 + 2 * t)) bk)]) (k_X4_fullSet X.l Z X.A hAX σ (nI (σ.row (3 + 2 * t)).length)) ⟨_, _, _, _, _, 5, rfl, gX0_isAllReached_X4_fullSet_n76, rfl, rfl, ⟨rfl, by decide +kernel, by decide +kernel⟩, by decide +kernel, ⟨Nat.le_of_ble_eq_true rfl, Nat.le_of_ble_eq_true rfl⟩⟩ rfl (Nat.le_of_ble_eq_true rfl) rfl dX0_isAllReached_30 (fun v9 hv9 => ?_)
    subst hv9
    refine j_icmp_ne S 40 dX0_isAllReached_33 (by decide) (fun h2 => ?_) (fun h2 => ?_)
    · skip
      refine j_iconst S 0 dX0_isAllReached_40 (by decide) ?_
      exact j_ireturn S hRT hXA hQ hXk hXn dX0_isAllReached_41 rfl (by unfold allR; rw [beq_eq_false_iff_ne.mpr h2, Bool.and_false]; rfl) (fun H h => h)
    · skip
      refine j_iconst S 1 dX0_isAllReached_36 (by decide) ?_
      refine j_goto S 41 dX0_isAllReached_37 (by decide) ?_
      exact j_ireturn S hRT hXA hQ hXk hXn dX0_isAllReached_41 rfl (by unfold allR; rw [beq_iff_eq.mpr h, beq_iff_eq.mpr h2]; rfl) (fun H h => h)

set_option maxRecDepth 100000 in
set_option maxHeartbeats 4000000 in
theorem k_X0_isConnected (l : Launch) (Z : Zx) (A : Nat → Prop) (hA : AdOk Z A) (σ : St) (t : Nat) (ht : t < 2) : Km l Z A yX0_isConnected wsX0_isConnected { frames := 5, cells := 0, slots := 0, locals := 113 } (Wd Z σ) [.ref (Z.ad (co t))] (Qi (Wd Z σ) A (fun v => v = b2i (connI (σ.row (2 + 2 * t)) (σ.row (3 + 2 * t))))) := by
  refine Km.of (cc := cX0_isConnected) (maxL := 1) (ret := (some .boolean)) (by decide) rfl (Nat.le_of_ble_eq_true rfl) hA ?_
  intro X hXl S hAX hRT hXA hQ hXk hXn
  show J X 1 (Wd Z σ) 0 [some (.ref (Z.ad (co t)))] []
  refine j_aload_n S dX0_isConnected_0 rfl ?_
  refine j_cVi S (n := 0) (rest := []) (k_X0_hasFields X.l Z X.A hAX σ t (by omega)) ⟨_, _, _, _, rfl, gX0_isConnected_X0_hasFields, rfl, rfl, by decide +kernel, ⟨Nat.le_of_ble_eq_true rfl, Nat.le_of_ble_eq_true rfl⟩⟩ (rd_cloth (by omega)) rfl rfl (Nat.le_of_ble_eq_true rfl) rfl dX0_isConnected_1 (fun v9 hv9 => ?_)
  subst hv9
  refine j_if_eq S 27 dX0_isConnected_4 (by decide) (fun h => ?_) (fun h => ?_)
  · skip
    refine j_iconst S 0 dX0_isConnected_27 (by decide) ?_
    exact j_ireturn S hRT hXA hQ hXk hXn dX0_isConnected_28 rfl (by unfold connI; rw [b2i_0.mp h, Bool.false_and]; rfl) (fun H h => h)
  · skip
    refine j_aload_n S dX0_isConnected_7 rfl ?_
    refine j_iconst S 0 dX0_isConnected_8 (by decide) ?_
    refine j_cVi S (n := 1) (rest := []) (k_X0_isAllReached X.l Z X.A hAX σ t (by omega) false) ⟨_, _, _, _, rfl, gX0_isConnected_X0_isAllReached, rfl, rfl, by decide +kernel, ⟨Nat.le_of_ble_eq_true rfl, Nat.le_of_ble_eq_true rfl⟩⟩ (rd_cloth (by omega)) rfl rfl (Nat.le_of_ble_eq_true rfl) rfl dX0_isConnected_9 (fun v9 hv9 => ?_)
    subst hv9
    refine j_if_eq S 27 dX0_isConnected_12 (by decide) (fun h2 => ?_) (fun h2 => ?_)
    · skip
      refine j_iconst S 0 dX0_isConnected_27 (by decide) ?_
      exact j_ireturn S hRT hXA hQ hXk hXn dX0_isConnected_28 rfl (by unfold connI; rw [b2i_0.mp h2, Bool.false_and, Bool.and_false]; rfl) (fun H h => h)
    · skip
      refine j_aload_n S dX0_isConnected_15 rfl ?_
      refine j_iconst S 1 dX0_isConnected_16 (by decide) ?_
      refine j_cVi S (n := 1) (rest := []) (k_X0_isAllReached X.l Z X.A hAX σ t (by omega) true) ⟨_, _, _, _, rfl, gX0_isConnected_X0_isAllReached, rfl, rfl, by decide +kernel, ⟨Nat.le_of_ble_eq_true rfl, Nat.le_of_ble_eq_true rfl⟩⟩ (rd_cloth (by omega)) rfl rfl (Nat.le_of_ble_eq_true rfl) rfl dX0_isConnected_17 (fun v9 hv9 => ?_)
      subst hv9
      refine j_if_eq S 27 dX0_isConnected_20 (by decide) (fun h3 => ?_) (fun h3 => ?_)
      · skip
        refine j_iconst S 0 dX0_isConnected_27 (by decide) ?_
        exact j_ireturn S hRT hXA hQ hXk hXn dX0_isConnected_28 rfl (by unfold connI; rw [b2i_0.mp h3, Bool.and_false, Bool.and_false]; rfl) (fun H h => h)
      · skip
        refine j_iconst S 1 dX0_isConnected_23 (by decide) ?_
        refine j_goto S 28 dX0_isConnected_24 (by decide) ?_
        exact j_ireturn S hRT hXA hQ hXk hXn dX0_isConnected_28 rfl (by unfold connI; rw [b2i_n0.mp h, b2i_n0.mp h2, b2i_n0.mp h3]; rfl) (fun H h => h)

set_option maxRecDepth 100000 in
set_option maxHeartbeats 4000000 in
theorem k_X0_weave (l : Launch) (Z : Zx) (A : Nat → Prop) (hA : AdOk Z A) (σ : St) (t : Nat) (ht : t < 2) (c : Nat) (hc : c < 2) : Km l Z A yX0_weave wsX0_weave { frames := 1, cells := 0, slots := 0, locals := 22 } (Wd Z σ) [.ref (Z.ad (co t)), .ref (Z.ad (ro 9)), .ref (Z.ad (ro 11)), .ref (Z.ad (ro c))] (Qv (Wd Z (σ.setCl t (wE (σ.row c) (σ.row 9) (σ.row 11) (σ.row 11).length) (wP (σ.row c) (σ.row 9) (σ.row 11) (σ.row 11).length))) A) := by
  refine Km.of (cc := cX0_weave) (maxL := 8) (ret := none) (by decide) rfl (Nat.le_of_ble_eq_true rfl) hA ?_
  intro X hXl S hAX hRT hXA hQ hXk hXn
  show J X 8 (Wd Z σ) 0 [some (.ref (Z.ad (co t))), some (.ref (Z.ad (ro 9))), some (.ref (Z.ad (ro 11))), some (.ref (Z.ad (ro c))), none, none, none, none] []
  refine J.caps (fun hcap => ?_)
  have hA9 : (σ.row 9).length ≤ 32 := hcap 9 (by omega)
  have hB11 : (σ.row 11).length ≤ 32 := hcap 11 (by omega)
  have hcp : cap (2 + 2 * t) = 32 := cap_cl (by omega) (by omega)
  have hcp2 : cap (3 + 2 * t) = 32 := cap_cl (by omega) (by omega)
  have inner : ∀ (y f x : Nat), y < (σ.row 11).length → x + f = (σ.row 9).length → J X 8 (Wd Z (σ.setCl t (inE (σ.row c) (σ.row 9) (σ.row 11) (wE (σ.row c) (σ.row 9) (σ.row 11) y) y (σ.row 9).length) (wP (σ.row c) (σ.row 9) (σ.row 11) y))) 134 [some (.ref (Z.ad (co t))), some (.ref (Z.ad (ro 9))), some (.ref (Z.ad (ro 11))), some (.ref (Z.ad (ro c))), some (.int (nI y)), some (.int (atI (σ.row c) ((σ.row 11).getD y 0))), some (.int (dnF (σ.row c) (σ.row 9) (σ.row 11) y (σ.row 9).length)), none] [] → J X 8 (Wd Z (σ.setCl t (inE (σ.row c) (σ.row 9) (σ.row 11) (wE (σ.row c) (σ.row 9) (σ.row 11) y) y x) (wP (σ.row c) (σ.row 9) (σ.row 11) y))) 70 [some (.ref (Z.ad (co t))), some (.ref (Z.ad (ro 9))), some (.ref (Z.ad (ro 11))), some (.ref (Z.ad (ro c))), some (.int (nI y)), some (.int (atI (σ.row c) ((σ.row 11).getD y 0))), some (.int (dnF (σ.row c) (σ.row 9) (σ.row 11) y x)), some (.int (nI x))] [] := by
    intro y f
    induction f with
    | zero =>
      intro x hy hx hd
      refine j_iload S dX0_weave_70 rfl ?_
      refine j_aload_n S dX0_weave_72 rfl ?_
      refine j_getN S (C := RX3) (T := TX3) (N := 2) (by decide +kernel) (rd_row (by omega)) rfl (v := .int (nI ((σ.setCl t (inE (σ.row c) (σ.row 9) (σ.row 11) (wE (σ.row c) (σ.row 9) (σ.row 11) y) y x) (wP (σ.row c) (σ.row 9) (σ.row 11) y)).row 9).length)) 1 (by decide) 7 rfl rfl rfl dX0_weave_73 ?_
      rw [setCl_ne σ (t := t) (r := 9) _ _ (by omega) (by omega)]
      refine j_icmp_ge S 134 dX0_weave_76 (by decide) (fun _ => ?_) (fun h9 => absurd (by rw [nI_leI (by omega) (by omega)]; omega) h9)
      obtain rfl : x = (σ.row 9).length := by omega
      refine J.less [some (.ref (Z.ad (co t))), some (.ref (Z.ad (ro 9))), some (.ref (Z.ad (ro 11))), some (.ref (Z.ad (ro c))), some (.int (nI y)), some (.int (atI (σ.row c) ((σ.row 11).getD y 0))), some (.int (dnF (σ.row c) (σ.row 9) (σ.row 11) y (σ.row 9).length)), none] ⟨rfl, rfl, rfl, rfl, rfl, rfl, rfl, trivial⟩ ?_
      exact hd
    | succ f ih =>
      intro x hy hx hd
      refine j_iload S dX0_weave_70 rfl ?_
      refine j_aload_n S dX0_weave_72 rfl ?_
      refine j_getN S (C := RX3) (T := TX3) (N := 2) (by decide +kernel) (rd_row (by omega)) rfl (v := .int (nI ((σ.setCl t (inE (σ.row c) (σ.row 9) (σ.row 11) (wE (σ.row c) (σ.row 9) (σ.row 11) y) y x) (wP (σ.row c) (σ.row 9) (σ.row 11) y)).row 9).length)) 1 (by decide) 7 rfl rfl rfl dX0_weave_73 ?_
      rw [setCl_ne σ (t := t) (r := 9) _ _ (by omega) (by omega)]
      refine j_icmp_ge S 134 dX0_weave_76 (by decide) (fun h9 => absurd h9 (by rw [nI_leI (by omega) (by omega)]; omega)) (fun _ => ?_)
      refine j_iload S dX0_weave_79 rfl ?_
      refine j_aload_n S dX0_weave_81 rfl ?_
      refine j_iload S dX0_weave_82 rfl ?_
      refine j_cVi S (n := 1) (rest := [.int (atI (σ.row c) ((σ.row 11).getD y 0))]) (k_X3_at X.l Z X.A hAX (σ.setCl t (inE (σ.row c) (σ.row 9) (σ.row 11) (wE (σ.row c) (σ.row 9) (σ.row 11) y) y x) (wP (σ.row c) (σ.row 9) (σ.row 11) y)) 9 (by omega) (nI x)) ⟨_, _, _, _, rfl, gX0_weave_X3_at, rfl, rfl, by decide +kernel, ⟨Nat.le_of_ble_eq_true rfl, Nat.le_of_ble_eq_true rfl⟩⟩ (rd_row (by omega)) rfl rfl (Nat.le_of_ble_eq_true rfl) rfl dX0_weave_84 (fun v9 hv9 => ?_)
      subst hv9
      rw [setCl_ne σ (t := t) (r := 9) _ _ (by omega) (by omega), atI_nI _ (by omega)]
      refine j_cNi S (n := 2) (rest := []) (k_X4_hasBit X.l Z X.A hAX (σ.setCl t (inE (σ.row c) (σ.row 9) (σ.row 11) (wE (σ.row c) (σ.row 9) (σ.row 11) y) y x) (wP (σ.row c) (σ.row 9) (σ.row 11) y)) (atI (σ.row c) ((σ.row 11).getD y 0)) ((σ.row 9).getD x 0)) ⟨_, _, _, _, _, 3, rfl, gX0_weave_X4_hasBit_n37, rfl, rfl, ⟨rfl, by decide +kernel, by decide +kernel⟩, by decide +kernel, ⟨Nat.le_of_ble_eq_true rfl, Nat.le_of_ble_eq_true rfl⟩⟩ rfl (Nat.le_of_ble_eq_true rfl) rfl dX0_weave_87 (fun v9 hv9 => ?_)
      subst hv9
      refine j_if_eq S 119 dX0_weave_90 (by decide) (fun h => ?_) (fun h => ?_)
      · skip
        have e8 : inE (σ.row c) (σ.row 9) (σ.row 11) (wE (σ.row c) (σ.row 9) (σ.row 11) y) y x = inE (σ.row c) (σ.row 9) (σ.row 11) (wE (σ.row c) (σ.row 9) (σ.row 11) y) y (x + 1) := by rw [inE, if_neg (show ¬ upB (σ.row c) (σ.row 9) (σ.row 11) x y = true from by rw [show upB (σ.row c) (σ.row 9) (σ.row 11) x y = false from b2i_0.mp h]; decide)]
        have e9 : dnF (σ.row c) (σ.row 9) (σ.row 11) y x ||| shl 1 (nI x) = dnF (σ.row c) (σ.row 9) (σ.row 11) y (x + 1) := by rw [dnF, if_neg (show ¬ upB (σ.row c) (σ.row 9) (σ.row 11) x y = true from by rw [show upB (σ.row c) (σ.row 9) (σ.row 11) x y = false from b2i_0.mp h]; decide)]
        refine j_iload S dX0_weave_119 rfl ?_
        refine j_iconst S 1 dX0_weave_121 (by decide) ?_
        refine j_iload S dX0_weave_122 rfl ?_
        refine j_ishl S (shl 1 (nI x)) dX0_weave_124 rfl ?_
        refine j_ior S (dnF (σ.row c) (σ.row 9) (σ.row 11) y (x + 1)) dX0_weave_125 e9 ?_
        refine j_istore S [some (.ref (Z.ad (co t))), some (.ref (Z.ad (ro 9))), some (.ref (Z.ad (ro 11))), some (.ref (Z.ad (ro c))), some (.int (nI y)), some (.int (atI (σ.row c) ((σ.row 11).getD y 0))), some (.int (dnF (σ.row c) (σ.row 9) (σ.row 11) y (x + 1))), some (.int (nI x))] dX0_weave_126 (by decide) rfl rfl ?_
        refine j_iinc S (nI (x + 1)) [some (.ref (Z.ad (co t))), some (.ref (Z.ad (ro 9))), some (.ref (Z.ad (ro 11))), some (.ref (Z.ad (ro c))), some (.int (nI y)), some (.int (atI (σ.row c) ((σ.row 11).getD y 0))), some (.int (dnF (σ.row c) (σ.row 9) (σ.row 11) y (x + 1))), some (.int (nI (x + 1)))] dX0_weave_128 rfl (nI_1 x) (by decide) rfl rfl ?_
        refine j_goto S 70 dX0_weave_131 (by decide) ?_
        rw [e8]
        exact ih (x + 1) hy (by omega) hd
      · skip
        have e9 : dnF (σ.row c) (σ.row 9) (σ.row 11) y x = dnF (σ.row c) (σ.row 9) (σ.row 11) y (x + 1) := by rw [dnF, if_pos (show upB (σ.row c) (σ.row 9) (σ.row 11) x y = true from b2i_n0.mp h)]
        refine j_aload_n S dX0_weave_93 rfl ?_
        refine j_get S (C := RX0) (T := TX0) (N := 2) (by decide +kernel) (rd_cloth (by omega)) rfl (v := .ref (Z.ad (ro (2 + 2 * t)))) 0 (by decide) (by decide +kernel) rfl rfl dX0_weave_94 ?_
        refine j_iload S dX0_weave_97 rfl ?_
        refine j_aload_n S dX0_weave_99 rfl ?_
        refine j_get S (C := RX0) (T := TX0) (N := 2) (by decide +kernel) (rd_cloth (by omega)) rfl (v := .ref (Z.ad (ro (2 + 2 * t)))) 0 (by decide) (by decide +kernel) rfl rfl dX0_weave_100 ?_
        refine j_iload S dX0_weave_103 rfl ?_
        refine j_cVi S (n := 1) (rest := [.int (nI x), .ref (Z.ad (ro (2 + 2 * t)))]) (k_X3_at X.l Z X.A hAX (σ.setCl t (inE (σ.row c) (σ.row 9) (σ.row 11) (wE (σ.row c) (σ.row 9) (σ.row 11) y) y x) (wP (σ.row c) (σ.row 9) (σ.row 11) y)) (2 + 2 * t) (by omega) (nI x)) ⟨_, _, _, _, rfl, gX0_weave_X3_at, rfl, rfl, by decide +kernel, ⟨Nat.le_of_ble_eq_true rfl, Nat.le_of_ble_eq_true rfl⟩⟩ (rd_row (by omega)) rfl rfl (Nat.le_of_ble_eq_true rfl) rfl dX0_weave_105 (fun v9 hv9 => ?_)
        subst hv9
        refine j_iconst S 1 dX0_weave_108 (by decide) ?_
        refine j_iload S dX0_weave_109 rfl ?_
        refine j_ishl S (shl 1 (nI y)) dX0_weave_111 rfl ?_
        rw [setCl_e, atI_nI _ (by omega)]
        refine j_ior S (((inE (σ.row c) (σ.row 9) (σ.row 11) (wE (σ.row c) (σ.row 9) (σ.row 11) y) y x).getD x 0) ||| (shl 1 (nI y))) dX0_weave_112 rfl ?_
        refine j_cVv S (n := 2) (rest := []) (k_X3_put X.l Z X.A hAX (σ.setCl t (inE (σ.row c) (σ.row 9) (σ.row 11) (wE (σ.row c) (σ.row 9) (σ.row 11) y) y x) (wP (σ.row c) (σ.row 9) (σ.row 11) y)) (2 + 2 * t) (by omega) (nI x) (((inE (σ.row c) (σ.row 9) (σ.row 11) (wE (σ.row c) (σ.row 9) (σ.row 11) y) y x).getD x 0) ||| (shl 1 (nI y)))) ⟨_, _, _, _, rfl, gX0_weave_X3_put, rfl, rfl, by decide +kernel, ⟨Nat.le_of_ble_eq_true rfl, Nat.le_of_ble_eq_true rfl⟩⟩ (rd_row (by omega)) rfl rfl (Nat.le_of_ble_eq_true rfl) rfl dX0_weave_113 ?_
        rw [setCl_e, putI_nI _ _ (by omega), setCl_re]
        refine J.mono (w' := Wd Z (σ.setCl t (inE (σ.row c) (σ.row 9) (σ.row 11) (wE (σ.row c) (σ.row 9) (σ.row 11) y) y (x + 1)) (wP (σ.row c) (σ.row 9) (σ.row 11) y))) (fun H h9 => by rw [inE, if_pos (show upB (σ.row c) (σ.row 9) (σ.row 11) x y = true from b2i_n0.mp h)]; exact h9) ?_
        refine j_goto S 128 dX0_weave_116 (by decide) ?_
        refine j_iinc S (nI (x + 1)) [some (.ref (Z.ad (co t))), some (.ref (Z.ad (ro 9))), some (.ref (Z.ad (ro 11))), some (.ref (Z.ad (ro c))), some (.int (nI y)), some (.int (atI (σ.row c) ((σ.row 11).getD y 0))), some (.int (dnF (σ.row c) (σ.row 9) (σ.row 11) y x)), some (.int (nI (x + 1)))] dX0_weave_128 rfl (nI_1 x) (by decide) rfl rfl ?_
        refine j_goto S 70 dX0_weave_131 (by decide) ?_
        rw [e9]
        exact ih (x + 1) hy (by omega) hd
  have outer : ∀ (f y : Nat), y + f = (σ.row 11).length → J X 8 (Wd Z (σ.setCl t (wE (σ.row c) (σ.row 9) (σ.row 11) y) (wP (σ.row c) (σ.row 9) (σ.row 11) y))) 43 [some (.ref (Z.ad (co t))), some (.ref (Z.ad (ro 9))), some (.ref (Z.ad (ro 11))), some (.ref (Z.ad (ro c))), some (.int (nI y)), none, none, none] [] := by
    intro f
    induction f with
    | zero =>
      intro y hy
      refine j_iload S dX0_weave_43 rfl ?_
      refine j_aload_n S dX0_weave_45 rfl ?_
      refine j_getN S (C := RX3) (T := TX3) (N := 2) (by decide +kernel) (rd_row (by omega)) rfl (v := .int (nI ((σ.setCl t (wE (σ.row c) (σ.row 9) (σ.row 11) y) (wP (σ.row c) (σ.row 9) (σ.row 11) y)).row 11).length)) 1 (by decide) 7 rfl rfl rfl dX0_weave_46 ?_
      rw [setCl_ne σ (t := t) (r := 11) _ _ (by omega) (by omega)]
      refine j_icmp_ge S 149 dX0_weave_49 (by decide) (fun _ => ?_) (fun h9 => absurd (by rw [nI_leI (by omega) (by omega)]; omega) h9)
      exact j_return S hRT hXA hQ hXk hXn dX0_weave_149 (fun H h9 => by rw [show y = (σ.row 11).length by omega] at h9; exact h9)
    | succ f ih =>
      intro y hy
      refine j_iload S dX0_weave_43 rfl ?_
      refine j_aload_n S dX0_weave_45 rfl ?_
      refine j_getN S (C := RX3) (T := TX3) (N := 2) (by decide +kernel) (rd_row (by omega)) rfl (v := .int (nI ((σ.setCl t (wE (σ.row c) (σ.row 9) (σ.row 11) y) (wP (σ.row c) (σ.row 9) (σ.row 11) y)).row 11).length)) 1 (by decide) 7 rfl rfl rfl dX0_weave_46 ?_
      rw [setCl_ne σ (t := t) (r := 11) _ _ (by omega) (by omega)]
      refine j_icmp_ge S 149 dX0_weave_49 (by decide) (fun h9 => absurd h9 (by rw [nI_leI (by omega) (by omega)]; omega)) (fun _ => ?_)
      refine j_aload_n S dX0_weave_52 rfl ?_
      refine j_aload_n S dX0_weave_53 rfl ?_
      refine j_iload S dX0_weave_54 rfl ?_
      refine j_cVi S (n := 1) (rest := [.ref (Z.ad (ro c))]) (k_X3_at X.l Z X.A hAX (σ.setCl t (wE (σ.row c) (σ.row 9) (σ.row 11) y) (wP (σ.row c) (σ.row 9) (σ.row 11) y)) 11 (by omega) (nI y)) ⟨_, _, _, _, rfl, gX0_weave_X3_at, rfl, rfl, by decide +kernel, ⟨Nat.le_of_ble_eq_true rfl, Nat.le_of_ble_eq_true rfl⟩⟩ (rd_row (by omega)) rfl rfl (Nat.le_of_ble_eq_true rfl) rfl dX0_weave_56 (fun v9 hv9 => ?_)
      subst hv9
      rw [setCl_ne σ (t := t) (r := 11) _ _ (by omega) (by omega), atI_nI _ (by omega)]
      refine j_cVi S (n := 1) (rest := []) (k_X3_at X.l Z X.A hAX (σ.setCl t (wE (σ.row c) (σ.row 9) (σ.row 11) y) (wP (σ.row c) (σ.row 9) (σ.row 11) y)) c (by omega) ((σ.row 11).getD y 0)) ⟨_, _, _, _, rfl, gX0_weave_X3_at, rfl, rfl, by decide +kernel, ⟨Nat.le_of_ble_eq_true rfl, Nat.le_of_ble_eq_true rfl⟩⟩ (rd_row (by omega)) rfl rfl (Nat.le_of_ble_eq_true rfl) rfl dX0_weave_59 (fun v9 hv9 => ?_)
      subst hv9
      rw [setCl_ne σ (t := t) (r := c) _ _ (by omega) (by omega)]
      refine j_istore S [some (.ref (Z.ad (co t))), some (.ref (Z.ad (ro 9))), some (.ref (Z.ad (ro 11))), some (.ref (Z.ad (ro c))), some (.int (nI y)), some (.int (atI (σ.row c) ((σ.row 11).getD y 0))), none, none] dX0_weave_62 (by decide) rfl rfl ?_
      refine j_iconst S 0 dX0_weave_64 (by decide) ?_
      refine j_istore S [some (.ref (Z.ad (co t))), some (.ref (Z.ad (ro 9))), some (.ref (Z.ad (ro 11))), some (.ref (Z.ad (ro c))), some (.int (nI y)), some (.int (atI (σ.row c) ((σ.row 11).getD y 0))), some (.int 0), none] dX0_weave_65 (by decide) rfl rfl ?_
      refine j_iconst S 0 dX0_weave_67 (by decide) ?_
      refine j_istore S [some (.ref (Z.ad (co t))), some (.ref (Z.ad (ro 9))), some (.ref (Z.ad (ro 11))), some (.ref (Z.ad (ro c))), some (.int (nI y)), some (.int (atI (σ.row c) ((σ.row 11).getD y 0))), some (.int 0), some (.int 0)] dX0_weave_68 (by decide) rfl rfl ?_
      refine inner y (σ.row 9).length 0 (by omega) (by omega) ?_
      refine j_aload_n S dX0_weave_134 rfl ?_
      refine j_get S (C := RX0) (T := TX0) (N := 2) (by decide +kernel) (rd_cloth (by omega)) rfl (v := .ref (Z.ad (ro (3 + 2 * t)))) 1 (by decide) (by decide +kernel) rfl rfl dX0_weave_135 ?_
      refine j_iload S dX0_weave_138 rfl ?_
      refine j_cVv S (n := 1) (rest := []) (k_X3_add X.l Z X.A hAX (σ.setCl t (inE (σ.row c) (σ.row 9) (σ.row 11) (wE (σ.row c) (σ.row 9) (σ.row 11) y) y (σ.row 9).length) (wP (σ.row c) (σ.row 9) (σ.row 11) y)) (3 + 2 * t) (by omega) (dnF (σ.row c) (σ.row 9) (σ.row 11) y (σ.row 9).length)) ⟨_, _, _, _, rfl, gX0_weave_X3_add, rfl, rfl, by decide +kernel, ⟨Nat.le_of_ble_eq_true rfl, Nat.le_of_ble_eq_true rfl⟩⟩ (rd_row (by omega)) rfl rfl (Nat.le_of_ble_eq_true rfl) rfl dX0_weave_140 ?_
      refine j_iinc S (nI (y + 1)) [some (.ref (Z.ad (co t))), some (.ref (Z.ad (ro 9))), some (.ref (Z.ad (ro 11))), some (.ref (Z.ad (ro c))), some (.int (nI (y + 1))), some (.int (atI (σ.row c) ((σ.row 11).getD y 0))), some (.int (dnF (σ.row c) (σ.row 9) (σ.row 11) y (σ.row 9).length)), none] dX0_weave_143 rfl (nI_1 y) (by decide) rfl rfl ?_
      refine j_goto S 43 dX0_weave_146 (by decide) ?_
      refine J.mono (w' := Wd Z (σ.setCl t (wE (σ.row c) (σ.row 9) (σ.row 11) (y + 1)) (wP (σ.row c) (σ.row 9) (σ.row 11) (y + 1)))) (fun H h9 => by rw [setCl_p, setCl_rp, hcp2, addI_lt (by rw [wP_len]; omega)] at h9; exact h9) ?_
      refine J.less [some (.ref (Z.ad (co t))), some (.ref (Z.ad (ro 9))), some (.ref (Z.ad (ro 11))), some (.ref (Z.ad (ro c))), some (.int (nI (y + 1))), none, none, none] ⟨rfl, rfl, rfl, rfl, rfl, trivial⟩ ?_
      exact ih (y + 1) (by omega)
  have first : ∀ (f i : Nat), i + f = (σ.row 9).length → J X 8 (Wd Z (σ.setCl t (List.replicate i 0) (σ.row (3 + 2 * t)))) 10 [some (.ref (Z.ad (co t))), some (.ref (Z.ad (ro 9))), some (.ref (Z.ad (ro 11))), some (.ref (Z.ad (ro c))), some (.int (nI i)), none, none, none] [] := by
    intro f
    induction f with
    | zero =>
      intro i hi
      refine j_iload S dX0_weave_10 rfl ?_
      refine j_aload_n S dX0_weave_12 rfl ?_
      refine j_getN S (C := RX3) (T := TX3) (N := 2) (by decide +kernel) (rd_row (by omega)) rfl (v := .int (nI ((σ.setCl t (List.replicate i 0) (σ.row (3 + 2 * t))).row 9).length)) 1 (by decide) 7 rfl rfl rfl dX0_weave_13 ?_
      rw [setCl_ne σ (t := t) (r := 9) _ _ (by omega) (by omega)]
      refine j_icmp_ge S 33 dX0_weave_16 (by decide) (fun _ => ?_) (fun h9 => absurd (by rw [nI_leI (by omega) (by omega)]; omega) h9)
      refine j_aload_n S dX0_weave_33 rfl ?_
      refine j_get S (C := RX0) (T := TX0) (N := 2) (by decide +kernel) (rd_cloth (by omega)) rfl (v := .ref (Z.ad (ro (3 + 2 * t)))) 1 (by decide) (by decide +kernel) rfl rfl dX0_weave_34 ?_
      refine j_cVv S (n := 0) (rest := []) (k_X3_clear X.l Z X.A hAX (σ.setCl t (List.replicate i 0) (σ.row (3 + 2 * t))) (3 + 2 * t) (by omega)) ⟨_, _, _, _, rfl, gX0_weave_X3_clear, rfl, rfl, by decide +kernel, ⟨Nat.le_of_ble_eq_true rfl, Nat.le_of_ble_eq_true rfl⟩⟩ (rd_row (by omega)) rfl rfl (Nat.le_of_ble_eq_true rfl) rfl dX0_weave_37 ?_
      rw [setCl_rp, show i = (σ.row 9).length by omega]
      refine j_iconst S 0 dX0_weave_40 (by decide) ?_
      refine j_istore S [some (.ref (Z.ad (co t))), some (.ref (Z.ad (ro 9))), some (.ref (Z.ad (ro 11))), some (.ref (Z.ad (ro c))), some (.int 0), none, none, none] dX0_weave_41 (by decide) rfl rfl ?_
      exact outer (σ.row 11).length 0 (by omega)
    | succ f ih =>
      intro i hi
      refine j_iload S dX0_weave_10 rfl ?_
      refine j_aload_n S dX0_weave_12 rfl ?_
      refine j_getN S (C := RX3) (T := TX3) (N := 2) (by decide +kernel) (rd_row (by omega)) rfl (v := .int (nI ((σ.setCl t (List.replicate i 0) (σ.row (3 + 2 * t))).row 9).length)) 1 (by decide) 7 rfl rfl rfl dX0_weave_13 ?_
      rw [setCl_ne σ (t := t) (r := 9) _ _ (by omega) (by omega)]
      refine j_icmp_ge S 33 dX0_weave_16 (by decide) (fun h9 => absurd h9 (by rw [nI_leI (by omega) (by omega)]; omega)) (fun _ => ?_)
      refine j_aload_n S dX0_weave_19 rfl ?_
      refine j_get S (C := RX0) (T := TX0) (N := 2) (by decide +kernel) (rd_cloth (by omega)) rfl (v := .ref (Z.ad (ro (2 + 2 * t)))) 0 (by decide) (by decide +kernel) rfl rfl dX0_weave_20 ?_
      refine j_iconst S 0 dX0_weave_23 (by decide) ?_
      refine j_cVv S (n := 1) (rest := []) (k_X3_add X.l Z X.A hAX (σ.setCl t (List.replicate i 0) (σ.row (3 + 2 * t))) (2 + 2 * t) (by omega) 0) ⟨_, _, _, _, rfl, gX0_weave_X3_add, rfl, rfl, by decide +kernel, ⟨Nat.le_of_ble_eq_true rfl, Nat.le_of_ble_eq_true rfl⟩⟩ (rd_row (by omega)) rfl rfl (Nat.le_of_ble_eq_true rfl) rfl dX0_weave_24 ?_
      refine j_iinc S (nI (i + 1)) [some (.ref (Z.ad (co t))), some (.ref (Z.ad (ro 9))), some (.ref (Z.ad (ro 11))), some (.ref (Z.ad (ro c))), some (.int (nI (i + 1))), none, none, none] dX0_weave_27 rfl (nI_1 i) (by decide) rfl rfl ?_
      refine j_goto S 10 dX0_weave_30 (by decide) ?_
      refine J.mono (w' := Wd Z (σ.setCl t (List.replicate (i + 1) 0) (σ.row (3 + 2 * t)))) (fun H h9 => by rw [setCl_e, setCl_re, hcp, addI_repl (by omega)] at h9; exact h9) ?_
      exact ih (i + 1) (by omega)
  refine j_aload_n S dX0_weave_0 rfl ?_
  refine j_get S (C := RX0) (T := TX0) (N := 2) (by decide +kernel) (rd_cloth (by omega)) rfl (v := .ref (Z.ad (ro (2 + 2 * t)))) 0 (by decide) (by decide +kernel) rfl rfl dX0_weave_1 ?_
  refine j_cVv S (n := 0) (rest := []) (k_X3_clear X.l Z X.A hAX σ (2 + 2 * t) (by omega)) ⟨_, _, _, _, rfl, gX0_weave_X3_clear, rfl, rfl, by decide +kernel, ⟨Nat.le_of_ble_eq_true rfl, Nat.le_of_ble_eq_true rfl⟩⟩ (rd_row (by omega)) rfl rfl (Nat.le_of_ble_eq_true rfl) rfl dX0_weave_4 ?_
  rw [setCl_of]
  refine j_iconst S 0 dX0_weave_7 (by decide) ?_
  refine j_istore S [some (.ref (Z.ad (co t))), some (.ref (Z.ad (ro 9))), some (.ref (Z.ad (ro 11))), some (.ref (Z.ad (ro c))), some (.int 0), none, none, none] dX0_weave_8 (by decide) rfl rfl ?_
  exact first (σ.row 9).length 0 (by omega)
end
section
/-! THE LOOM: tokens of ten programs and a tie-up; all else follows -/
abbrev Tab : Type := Nat → List Int32 × Int32 × Int32
def blkT (T : Tab) : Blk := fun b => ((T b).1, (T b).2.1)
def tabB (tok : Nat → List Int32) : Nat → Tab
  | 0 => fun _ => ([], 0, -1)
  | k + 1 => up (tabB tok k) (4 + k) (runC (blkT (tabB tok k)) (4 + k) (tok (4 + k)))
def res (tok : Nat → List Int32) (i : Nat) : List Int32 × Int32 × Int32 := if i < 4 then runC (blkT (tabB tok 6)) i (tok i) else tabB tok 6 i
def num (tok : Nat → List Int32) (i : Nat) : List Int32 := (res tok i).1
def EE (tok : Nat → List Int32) (ties : List Int32) : List Int32 := wE ties (num tok 0) (num tok 1) (num tok 1).length
def PP (tok : Nat → List Int32) (ties : List Int32) : List Int32 := wP ties (num tok 0) (num tok 1) (num tok 1).length
def ToksOk (tok : Nat → List Int32) : Prop := ∀ i, i < 10 → ∀ x ∈ tok i, tokOk x
def Good (σ : St) (tok : Nat → List Int32) (i : Nat) : Prop := σ.row (9 + 2 * i) = (res tok i).1 ∧ σ.fa i = (res tok i).2.1 ∧ σ.fp i = (res tok i).2.2
/-- the rows that are written by hand hold these -/
def Hand (σ : St) (tok : Nat → List Int32) (ties : List Int32) : Prop := (∀ i, i < 10 → σ.row (8 + 2 * i) = tok i) ∧ ToksOk tok ∧ σ.row 0 = ties ∧ ties.length = 8
def Cons (σ : St) (tok : Nat → List Int32) (ties : List Int32) : Prop := Hand σ tok ties ∧ (∀ i, i < 10 → Good σ tok i) ∧ σ.row 2 = EE tok ties ∧ σ.row 3 = PP tok ties
def WL (Z : Zx) (tok : Nat → List Int32) (ties : List Int32) (H : Heap) : Prop := ∃ σ : St, Cons σ tok ties ∧ Wd Z σ H
theorem J.WL {X : Cx} {Z : Zx} {nL pc : Nat} {tok : Nat → List Int32} {ties : List Int32} {lv : List (Option Value)} {st : List Value} (k : ∀ σ : St, Cons σ tok ties → J X nL (Wd Z σ) pc lv st) : J X nL (WL Z tok ties) pc lv st := fun H locs ls hw hS hl => by
  obtain ⟨σ, h1, h2⟩ := hw
  exact k σ h1 H locs ls h2 hS hl
theorem rd_loomL {Z : Zx} {tok : Nat → List Int32} {ties : List Int32} (H : Heap) (h : WL Z tok ties H) : va_P Z.D vwCl [(Z.ad 0, .inr (4, [.ref (Z.ad 1), .ref (Z.ad 2), .ref (Z.ad (ro 0)), .ref (Z.ad (co 0)), .ref (Z.ad (po 10)), .ref (Z.ad (ro 1)), .ref (Z.ad (co 1))]))] H := by
  obtain ⟨σ, -, h⟩ := h
  exact rd_loom H h
/-! ## what a run depends on -/
theorem blockC_cong {B B' : Blk} {own b : Nat} {c : Cst} (h : ¬ (4 ≤ own ∧ own ≤ b) → B b = B' b) : blockC B own c b = blockC B' own c b := by
  unfold blockC
  by_cases q : 4 ≤ own ∧ own ≤ b
  · rw [if_pos q, if_pos q]
  · rw [if_neg q, if_neg q, h q]
theorem readC_cong {B B' : Blk} {own k : Nat} {c : Cst} (hk : tokN k) (h : ∀ b, 4 ≤ b → b < 10 → (4 ≤ own → b < own) → B b = B' b) : readC B own c k = readC B' own c k := by
  unfold readC
  have hk2 := hk
  unfold tokN at hk2
  by_cases h1 : k ≤ 7
  · rw [if_pos h1, if_pos h1]
  by_cases h2 : k = 10
  · rw [if_neg h1, if_neg h1, if_pos h2, if_pos h2]
  by_cases h3 : k = 11
  · rw [if_neg h1, if_neg h1, if_neg h2, if_neg h2, if_pos h3, if_pos h3]
  by_cases h4 : 44 ≤ k
  · rw [if_neg h1, if_neg h1, if_neg h2, if_neg h2, if_neg h3, if_neg h3, if_pos h4, if_pos h4]
    exact blockC_cong (fun q => h (k - 40) (by omega) (by omega) (fun q4 => by omega))
  · rw [if_neg h1, if_neg h1, if_neg h2, if_neg h2, if_neg h3, if_neg h3, if_neg h4, if_neg h4]
theorem runF_cong {B B' : Blk} {own : Nat} (h : ∀ b, 4 ≤ b → b < 10 → (4 ≤ own → b < own) → B b = B' b) : ∀ (ts : List Int32) (k : Nat) (c : Cst), (∀ x ∈ ts, tokOk x) → runF B own ts k c = runF B' own ts k c
  | [], _, _, _ => rfl
  | t :: ts, k, c, ht => by
    obtain ⟨j, hj, rfl⟩ := ht t List.mem_cons_self
    have hj50 := hj.lt
    rw [runF, runF, nI_clamp (by omega), readC_cong hj h]
    rw [runF_cong h ts (k + 1) _ (fun x hx => ht x (List.mem_cons_of_mem _ hx))]
theorem runC_cong {B B' : Blk} {own : Nat} {ts : List Int32} (h : ∀ b, 4 ≤ b → b < 10 → (4 ≤ own → b < own) → B b = B' b) (ht : ∀ x ∈ ts, tokOk x) : runC B own ts = runC B' own ts := runF_cong h ts 0 _ ht
theorem tabB_later (tok : Nat → List Int32) : ∀ (j k b : Nat), b < 4 + k → tabB tok (k + j) b = tabB tok k b
  | 0, _, _, _ => rfl
  | j + 1, k, b, h => by
    rw [← Nat.add_assoc, tabB, up_ne (by omega)]
    exact tabB_later tok j k b h
/-- a block's result, by what the smaller ones came to -/
theorem res_block {tok : Nat → List Int32} {i : Nat} (h4 : 4 ≤ i) (hi : i < 10) {B : Blk} (hB : ∀ b, 4 ≤ b → b < i → B b = ((res tok b).1, (res tok b).2.1)) (ht : ∀ x ∈ tok i, tokOk x) : runC B i (tok i) = res tok i := by
  obtain ⟨k, rfl⟩ : ∃ k, i = 4 + k := ⟨i - 4, by omega⟩
  unfold res
  rw [if_neg (by omega)]
  have e1 : tabB tok 6 (4 + k) = tabB tok (k + 1) (4 + k) := by
    have := tabB_later tok (6 - (k + 1)) (k + 1) (4 + k) (by omega)
    rw [show k + 1 + (6 - (k + 1)) = 6 by omega] at this
    exact this
  rw [e1, tabB, up_self]
  refine runC_cong (fun b hb4 hb10 hb => ?_) ht
  have hbk := hb (by omega)
  rw [hB b hb4 hbk]
  unfold blkT res
  rw [if_neg (by omega)]
  have := tabB_later tok (6 - k) k b (by omega)
  rw [show k + (6 - k) = 6 by omega] at this
  rw [this]
theorem res_prog {tok : Nat → List Int32} {i : Nat} (hi : i < 4) {B : Blk} (hB : ∀ b, 4 ≤ b → b < 10 → B b = ((res tok b).1, (res tok b).2.1)) (ht : ∀ x ∈ tok i, tokOk x) : runC B i (tok i) = res tok i := by
  have e : res tok i = runC (blkT (tabB tok 6)) i (tok i) := if_pos hi
  rw [e]
  refine runC_cong (fun b hb4 hb10 hb => ?_) ht
  rw [hB b hb4 hb10]
  unfold blkT res
  rw [if_neg (by omega)]
/-- the result of i asks its own tokens, those of blocks, and of smaller ones only if it is a block -/
theorem tabB_cong {tok tok' : Nat → List Int32} : ∀ (k : Nat), (∀ b, 4 ≤ b → b < 4 + k → tok b = tok' b) → ∀ b, tabB tok k b = tabB tok' k b
  | 0, _, _ => rfl
  | k + 1, h, b => by
    have ih := tabB_cong k (fun b hb1 hb2 => h b hb1 (by omega))
    rw [tabB, tabB, h (4 + k) (by omega) (by omega), show tabB tok k = tabB tok' k from funext ih]
theorem res_cong {tok tok' : Nat → List Int32} {i : Nat} (hi : tok i = tok' i) (h : ∀ b, 4 ≤ b → b < 10 → (4 ≤ i → b ≤ i) → tok b = tok' b) : res tok i = res tok' i := by
  unfold res
  by_cases h4 : i < 4
  · rw [if_pos h4, if_pos h4, hi, show tabB tok 6 = tabB tok' 6 from funext (tabB_cong 6 (fun b h1 h2 => h b h1 (by omega) (fun q => by omega)))]
  · rw [if_neg h4, if_neg h4]
    rcases Nat.lt_or_ge i 10 with h10 | h10
    · obtain ⟨k, rfl⟩ : ∃ k, i = 4 + k := ⟨i - 4, by omega⟩
      have e : ∀ t : Nat → List Int32, tabB t 6 (4 + k) = tabB t (k + 1) (4 + k) := fun t => by
        have := tabB_later t (6 - (k + 1)) (k + 1) (4 + k) (by omega)
        rw [show k + 1 + (6 - (k + 1)) = 6 by omega] at this
        exact this
      rw [e, e]
      exact tabB_cong (k + 1) (fun b h1 h2 => h b h1 (by omega) (fun _ => by omega)) _
    · have e : ∀ (t : Nat → List Int32) (k : Nat), k ≤ 6 → tabB t k i = ([], 0, -1) := by
        intro t k
        induction k with
        | zero => intro _; rfl
        | succ k ih => intro hk; rw [tabB, up_ne (by omega)]; exact ih (by omega)
      rw [e tok 6 (Nat.le_refl _), e tok' 6 (Nat.le_refl _)]
/-! ## what a compilation leaves -/
theorem setCP_row (σ : St) (c : Cst) {t r : Nat} (l : List Int32) (u v : Int32) (h6 : r ≠ 6) (h7 : r ≠ 7) (ht : r ≠ 9 + 2 * t) : ((σ.setC c).setProg t l u v).row r = σ.row r := by
  show (if r = 9 + 2 * t then l else (σ.setC c).row r) = _
  rw [if_neg ht, setC_ne σ c h6 h7]
theorem setCP_num (σ : St) (c : Cst) (t : Nat) (l : List Int32) (u v : Int32) : ((σ.setC c).setProg t l u v).row (9 + 2 * t) = l := if_pos rfl
theorem setCP_fa (σ : St) (c : Cst) (t : Nat) (l : List Int32) (u v : Int32) : ((σ.setC c).setProg t l u v).fa t = u := by
  show (if t = t then (u, v) else _ : Int32 × Int32).1 = u
  rw [if_pos rfl]
theorem setCP_fp (σ : St) (c : Cst) (t : Nat) (l : List Int32) (u v : Int32) : ((σ.setC c).setProg t l u v).fp t = v := by
  show (if t = t then (u, v) else _ : Int32 × Int32).2 = v
  rw [if_pos rfl]
theorem setCP_fa_ne (σ : St) (c : Cst) {t i : Nat} (l : List Int32) (u v : Int32) (h : i ≠ t) : ((σ.setC c).setProg t l u v).fa i = σ.fa i := by
  show (if i = t then (u, v) else _ : Int32 × Int32).1 = _
  rw [if_neg h]; rfl
theorem setCP_fp_ne (σ : St) (c : Cst) {t i : Nat} (l : List Int32) (u v : Int32) (h : i ≠ t) : ((σ.setC c).setProg t l u v).fp i = σ.fp i := by
  show (if i = t then (u, v) else _ : Int32 × Int32).2 = _
  rw [if_neg h]; rfl
theorem Hand.comp {σ : St} {tok : Nat → List Int32} {ties : List Int32} (h : Hand σ tok ties) (c : Cst) {t : Nat} (l : List Int32) (u v : Int32) : Hand ((σ.setC c).setProg t l u v) tok ties :=
  ⟨fun i hi => (setCP_row σ c l u v (by omega) (by omega) (by omega)).trans (h.1 i hi), h.2.1, (setCP_row σ c l u v (by omega) (by omega) (by omega)).trans h.2.2.1, h.2.2.2⟩
theorem Good.comp_ne {σ : St} {tok : Nat → List Int32} {i : Nat} (h : Good σ tok i) (c : Cst) {t : Nat} (l : List Int32) (u v : Int32) (hi : i ≠ t) : Good ((σ.setC c).setProg t l u v) tok i :=
  ⟨(setCP_row σ c l u v (by omega) (by omega) (by omega)).trans h.1, (setCP_fa_ne σ c l u v hi).trans h.2.1, (setCP_fp_ne σ c l u v hi).trans h.2.2⟩
theorem Good.comp_self {σ : St} {tok : Nat → List Int32} (c : Cst) (t : Nat) {r : List Int32 × Int32 × Int32} (h : r = res tok t) : Good ((σ.setC c).setProg t r.1 r.2.1 r.2.2) tok t := by
  subst h
  exact ⟨setCP_num _ _ _ _ _ _, setCP_fa _ _ _ _ _ _, setCP_fp _ _ _ _ _ _⟩
theorem Good.blk {σ : St} {tok : Nat → List Int32} {i : Nat} (h : Good σ tok i) : blkOf σ i = ((res tok i).1, (res tok i).2.1) := by
  unfold blkOf
  rw [h.1, h.2.1]
/-- after weaving all is as the tokens and the tie-up have it -/
theorem Cons.woven {σ : St} {tok : Nat → List Int32} {ties : List Int32} (h : Hand σ tok ties) (hG : ∀ i, i < 10 → Good σ tok i) : Cons (σ.setCl 0 (wE (σ.row 0) (σ.row 9) (σ.row 11) (σ.row 11).length) (wP (σ.row 0) (σ.row 9) (σ.row 11) (σ.row 11).length)) tok ties := by
  have e9 : σ.row 9 = num tok 0 := (hG 0 (by omega)).1
  have e11 : σ.row 11 = num tok 1 := (hG 1 (by omega)).1
  refine ⟨⟨fun i hi => (setCl_ne σ _ _ (by omega) (by omega)).trans (h.1 i hi), h.2.1, (setCl_ne σ _ _ (by omega) (by omega)).trans h.2.2.1, h.2.2.2⟩, fun i hi => ⟨(setCl_ne σ _ _ (by omega) (by omega)).trans (hG i hi).1, (hG i hi).2.1, (hG i hi).2.2⟩, ?_, ?_⟩
  · rw [show (2 : Nat) = 2 + 2 * 0 from rfl, setCl_e, e9, e11, h.2.2.1]; rfl
  · rw [show (3 : Nat) = 3 + 2 * 0 from rfl, setCl_p, e9, e11, h.2.2.1]; rfl
/-- the trial's cloth, the trial's tie-up and the draft are nobody's -/
theorem Cons.trial {σ : St} {tok : Nat → List Int32} {ties : List Int32} (h : Cons σ tok ties) (E P : List Int32) : Cons (σ.setCl 1 E P) tok ties :=
  ⟨⟨fun i hi => (setCl_ne σ _ _ (by omega) (by omega)).trans (h.1.1 i hi), h.1.2.1, (setCl_ne σ _ _ (by omega) (by omega)).trans h.1.2.2.1, h.1.2.2.2⟩, fun i hi => ⟨(setCl_ne σ _ _ (by omega) (by omega)).trans (h.2.1 i hi).1, (h.2.1 i hi).2⟩, (setCl_ne σ _ _ (by omega) (by omega)).trans h.2.2.1, (setCl_ne σ _ _ (by omega) (by omega)).trans h.2.2.2⟩
theorem Cons.row1 {σ : St} {tok : Nat → List Int32} {ties : List Int32} (h : Cons σ tok ties) (l : List Int32) : Cons (σ.setRow 1 l) tok ties :=
  ⟨⟨fun i hi => (St.row_ne σ l (by omega)).trans (h.1.1 i hi), h.1.2.1, (St.row_ne σ l (by omega)).trans h.1.2.2.1, h.1.2.2.2⟩, fun i hi => ⟨(St.row_ne σ l (by omega)).trans (h.2.1 i hi).1, (h.2.1 i hi).2⟩, (St.row_ne σ l (by omega)).trans h.2.2.1, (St.row_ne σ l (by omega)).trans h.2.2.2⟩
theorem Cons.row28 {σ : St} {tok : Nat → List Int32} {ties : List Int32} (h : Cons σ tok ties) (l : List Int32) : Cons (σ.setRow 28 l) tok ties :=
  ⟨⟨fun i hi => (St.row_ne σ l (by omega)).trans (h.1.1 i hi), h.1.2.1, (St.row_ne σ l (by omega)).trans h.1.2.2.1, h.1.2.2.2⟩, fun i hi => ⟨(St.row_ne σ l (by omega)).trans (h.2.1 i hi).1, (h.2.1 i hi).2⟩, (St.row_ne σ l (by omega)).trans h.2.2.1, (St.row_ne σ l (by omega)).trans h.2.2.2⟩
theorem Cons.draft {σ : St} {tok : Nat → List Int32} {ties : List Int32} (h : Cons σ tok ties) (c : Cst) (l : List Int32) (u v : Int32) : Cons ((σ.setC c).setProg 10 l u v) tok ties :=
  ⟨h.1.comp c l u v, fun i hi => (h.2.1 i hi).comp_ne c l u v (by omega), (setCP_row σ c l u v (by omega) (by omega) (by omega)).trans h.2.2.1, (setCP_row σ c l u v (by omega) (by omega) (by omega)).trans h.2.2.2⟩
/-! ## tie-ups -/
def sshr (x p : Int32) : Int32 := x >>> (p &&& 31)
def swOne (s a b : Int32) : Int32 := s ^^^ (shl ((sshr s a ^^^ sshr s b) &&& 1) a ||| shl ((sshr s a ^^^ sshr s b) &&& 1) b)
def swT (ties : List Int32) (a b : Int32) : Nat → List Int32
  | 0 => []
  | k + 1 => swT ties a b k ++ [swOne (ties.getD k 0) a b]
theorem swT_len (ties : List Int32) (a b : Int32) : ∀ k, (swT ties a b k).length = k
  | 0 => rfl
  | k + 1 => by rw [swT, List.length_append, swT_len ties a b k]; rfl
def diffT (l l' : List Int32) : Int32 := foldN (fun a k => if l.getD k 0 = l'.getD k 0 then a else a + 1) 8
def flipT (ties : List Int32) (k : Nat) (s : Int32) : List Int32 := ties.set k (ties.getD k 0 ^^^ shl 1 s)
/-! ## answers -/
def colourI (tok : Nat → List Int32) (ties : List Int32) (x y : Nat) : Int32 := if isUpI (EE tok ties) x y = true then (num tok 2).getD (x % (num tok 2).length) 0 else (num tok 3).getD (y % (num tok 3).length) 0
def seenY (tok : Nat → List Int32) (ties : List Int32) (c : Int32) (x : Nat) (a : Int32) : Nat → Int32
  | 0 => a
  | y + 1 => if colourI tok ties x y = c then seenY tok ties c x a y + 1 else seenY tok ties c x a y
def seenX (tok : Nat → List Int32) (ties : List Int32) (c : Int32) : Nat → Int32
  | 0 => 0
  | x + 1 => seenY tok ties c x (seenX tok ties c x) (PP tok ties).length
def seenI (tok : Nat → List Int32) (ties : List Int32) (c : Int32) : Int32 := seenX tok ties c (EE tok ties).length
def whereI (E P : List Int32) (m : Nat) (b : Bool) : Int32 :=
  if firstRunI (if b = true then E else P) m < 0 then -1 else if b = true then 100 * firstRunI E m + firstI (runS (atI E (firstRunI E m)) m) else 100 * firstI (runS (atI P (firstRunI P m)) m) + firstRunI P m
def clothI (tok : Nat → List Int32) (ties : List Int32) (k : Nat) : Int32 := match k with
  | 0 => nI (EE tok ties).length
  | 1 => nI (PP tok ties).length
  | 2 => countBitsI (EE tok ties)
  | 3 => longestC (EE tok ties) (PP tok ties)
  | 4 => countRunsI (EE tok ties) 1
  | 5 => countRunsI (PP tok ties) 1
  | 6 => distinctI (num tok 0)
  | 7 => distinctI (num tok 1)
  | 8 => distinctI (EE tok ties)
  | _ => distinctI (PP tok ties)
def progI (tok : Nat → List Int32) (i k : Nat) : Int32 := match k with
  | 0 => nI (tok i).length
  | 1 => nI (num tok i).length
  | 2 => (res tok i).2.1
  | _ => (res tok i).2.2
def fieldI (tok : Nat → List Int32) (ties : List Int32) (x y k : Nat) : Int32 := match k with
  | 0 => b2i (isUpI (EE tok ties) x y)
  | 1 => colourI tok ties x y
  | _ => floatI (EE tok ties) (PP tok ties) x y
def floatsI (E P : List Int32) (m : Nat) : Int32 := countRunsI E m + countRunsI P m
def repeatI (E P : List Int32) (b : Bool) : Int32 := if hasF E P = true then (if b = true then periodI E else periodI P) else 0
def reachI (E P : List Int32) (b : Bool) : Int32 := if hasF E P = true then (if b = true then bitC (endsR E P false) else bitC (picksR E P false)) else 0
def changedI (E E' : List Int32) : Int32 := foldN (fun a i => a + bitC (E.getD i 0 ^^^ E'.getD i 0)) E.length
def mixI (d : Int64) (v : Int32) : Int64 := d * 31 + v.toInt64
end
section
set_option maxRecDepth 100000 in
set_option maxHeartbeats 4000000 in
theorem k_X4_checkTreadle (l : Launch) (Z : Zx) (A : Nat → Prop) (hA : AdOk Z A) (σ : St) (k : Nat) (hk : k < 8) : Km l Z A yX4_checkTreadle wsX4_checkTreadle { frames := 0, cells := 0, slots := 0, locals := 0 } (Wd Z σ) [.int (nI k)] (Qv (Wd Z σ) A) := by
  refine Km.of (cc := cX4_checkTreadle) (maxL := 1) (ret := none) (by decide) rfl (Nat.le_of_ble_eq_true rfl) hA ?_
  intro X hXl S hAX hRT hXA hQ hXk hXn
  show J X 1 (Wd Z σ) 0 [some (.int (nI k))] []
  refine j_iload_n S dX4_checkTreadle_0 rfl ?_
  refine j_if_lt S 10 dX4_checkTreadle_1 (by decide) (fun h9 => absurd h9 (nI_pos (by omega))) (fun _ => ?_)
  refine j_iload_n S dX4_checkTreadle_4 rfl ?_
  refine j_bipush S 8 dX4_checkTreadle_5 (by decide) ?_
  refine j_icmp_lt S 20 dX4_checkTreadle_7 (by decide) (fun _ => ?_) (fun h9 => absurd (by rw [show (8 : Int32) = nI 8 from rfl, nI_ltI (by omega) (by omega)]; exact hk) h9)
  exact j_return S hRT hXA hQ hXk hXn dX4_checkTreadle_20 (fun H h => h)

set_option maxRecDepth 100000 in
set_option maxHeartbeats 4000000 in
theorem k_X4_checkShaft (l : Launch) (Z : Zx) (A : Nat → Prop) (hA : AdOk Z A) (σ : St) (k : Nat) (hk : k < 8) : Km l Z A yX4_checkShaft wsX4_checkShaft { frames := 0, cells := 0, slots := 0, locals := 0 } (Wd Z σ) [.int (nI k)] (Qv (Wd Z σ) A) := by
  refine Km.of (cc := cX4_checkShaft) (maxL := 1) (ret := none) (by decide) rfl (Nat.le_of_ble_eq_true rfl) hA ?_
  intro X hXl S hAX hRT hXA hQ hXk hXn
  show J X 1 (Wd Z σ) 0 [some (.int (nI k))] []
  refine j_iload_n S dX4_checkShaft_0 rfl ?_
  refine j_if_lt S 10 dX4_checkShaft_1 (by decide) (fun h9 => absurd h9 (nI_pos (by omega))) (fun _ => ?_)
  refine j_iload_n S dX4_checkShaft_4 rfl ?_
  refine j_bipush S 8 dX4_checkShaft_5 (by decide) ?_
  refine j_icmp_lt S 20 dX4_checkShaft_7 (by decide) (fun _ => ?_) (fun h9 => absurd (by rw [show (8 : Int32) = nI 8 from rfl, nI_ltI (by omega) (by omega)]; exact hk) h9)
  exact j_return S hRT hXA hQ hXk hXn dX4_checkShaft_20 (fun H h => h)

set_option maxRecDepth 100000 in
set_option maxHeartbeats 4000000 in
theorem k_X4_checkLength (l : Launch) (Z : Zx) (A : Nat → Prop) (hA : AdOk Z A) (σ : St) (k : Nat) (hk0 : 1 ≤ k) (hk : k ≤ 32) : Km l Z A yX4_checkLength wsX4_checkLength { frames := 0, cells := 0, slots := 0, locals := 0 } (Wd Z σ) [.int (nI k)] (Qv (Wd Z σ) A) := by
  refine Km.of (cc := cX4_checkLength) (maxL := 1) (ret := none) (by decide) rfl (Nat.le_of_ble_eq_true rfl) hA ?_
  intro X hXl S hAX hRT hXA hQ hXk hXn
  show J X 1 (Wd Z σ) 0 [some (.int (nI k))] []
  refine j_iload_n S dX4_checkLength_0 rfl ?_
  refine j_iconst S 1 dX4_checkLength_1 (by decide) ?_
  refine j_icmp_lt S 11 dX4_checkLength_2 (by decide) (fun h9 => absurd h9 (by rw [show (1 : Int32) = nI 1 from rfl, nI_ltI (by omega) (by omega)]; omega)) (fun _ => ?_)
  refine j_iload_n S dX4_checkLength_5 rfl ?_
  refine j_bipush S 32 dX4_checkLength_6 (by decide) ?_
  refine j_icmp_le S 21 dX4_checkLength_8 (by decide) (fun _ => ?_) (fun h9 => absurd (by rw [show (32 : Int32) = nI 32 from rfl, nI_leI (by omega) (by omega)]; omega) h9)
  exact j_return S hRT hXA hQ hXk hXn dX4_checkLength_21 (fun H h => h)

set_option maxRecDepth 100000 in
set_option maxHeartbeats 4000000 in
theorem k_X4_programAt (l : Launch) (Z : Zx) (A : Nat → Prop) (hA : AdOk Z A) (σ : St) (k : Nat) (hk : k < 10) : Km l Z A yX4_programAt wsX4_programAt { frames := 0, cells := 0, slots := 0, locals := 0 } (Wd Z σ) [.ref (Z.ad 0), .int (nI k)] (Qr (Wd Z σ) A (Z.ad (po k))) := by
  refine Km.of (cc := cX4_programAt) (maxL := 2) (ret := (some (.object "TreadleLoom$Program"))) (by decide) rfl (Nat.le_of_ble_eq_true rfl) hA ?_
  intro X hXl S hAX hRT hXA hQ hXk hXn
  show J X 2 (Wd Z σ) 0 [some (.ref (Z.ad 0)), some (.int (nI k))] []
  refine j_iload_n S dX4_programAt_0 rfl ?_
  refine j_if_lt S 13 dX4_programAt_1 (by decide) (fun h9 => absurd h9 (nI_pos (by omega))) (fun _ => ?_)
  refine j_iload_n S dX4_programAt_4 rfl ?_
  refine j_aload_n S dX4_programAt_5 rfl ?_
  refine j_get S (C := RX4) (T := TX4) (N := 7) (by decide +kernel) rd_loom rfl (v := .ref (Z.ad 1)) 0 (by decide) (by decide +kernel) rfl rfl dX4_programAt_6 ?_
  refine j_alen S (v := 10) (t0 := 1) rd_progs rfl rfl dX4_programAt_9 ?_
  refine j_icmp_lt S 23 dX4_programAt_10 (by decide) (fun _ => ?_) (fun h9 => absurd (by rw [show (10 : Int32) = nI 10 from rfl, nI_ltI (by omega) (by omega)]; exact hk) h9)
  refine j_aload_n S dX4_programAt_23 rfl ?_
  refine j_get S (C := RX4) (T := TX4) (N := 7) (by decide +kernel) rd_loom rfl (v := .ref (Z.ad 1)) 0 (by decide) (by decide +kernel) rfl rfl dX4_programAt_24 ?_
  refine j_iload_n S dX4_programAt_27 rfl ?_
  refine j_aaload S (v := Z.ad (po k)) rd_progs (vp_in_nI hk (by omega)) (by show some (Z.ad (po (nI k).toNatClampNeg)) = _; rw [nI_clamp (by omega)]) dX4_programAt_28 ?_
  exact j_areturn S hRT hXA hQ hXk hXn dX4_programAt_29 (fun H h => h)

theorem isTok_le {j n : Nat} (hj : j < 50) (hn : n < 50) : nI j ≤ nI n ↔ j ≤ n := nI_leI (by omega) (by omega)
theorem isTok_lt {j n : Nat} (hj : j < 50) (hn : n < 50) : nI j < nI n ↔ j < n := nI_ltI (by omega) (by omega)
theorem isTok_eq {j n : Nat} (hj : j < 50) (hn : n < 50) : nI j = nI n ↔ j = n := nI_eq (by omega) (by omega)

set_option maxRecDepth 100000 in
set_option maxHeartbeats 4000000 in
theorem k_X4_isToken (l : Launch) (Z : Zx) (A : Nat → Prop) (hA : AdOk Z A) (σ : St) (j : Nat) (hj : tokN j) : Km l Z A yX4_isToken wsX4_isToken { frames := 0, cells := 0, slots := 0, locals := 0 } (Wd Z σ) [.int (nI j)] (Qi (Wd Z σ) A (fun v => v = b2i true)) := by
  refine Km.of (cc := cX4_isToken) (maxL := 1) (ret := (some .boolean)) (by decide) rfl (Nat.le_of_ble_eq_true rfl) hA ?_
  intro X hXl S hAX hRT hXA hQ hXk hXn
  show J X 1 (Wd Z σ) 0 [some (.int (nI j))] []
  have h50 := hj.lt
  unfold tokN at hj
  refine j_iload_n S dX4_isToken_0 rfl ?_
  refine j_if_lt S 10 dX4_isToken_1 (by decide) (fun h9 => absurd h9 (nI_pos (by omega))) (fun _ => ?_)
  refine j_iload_n S dX4_isToken_4 rfl ?_
  refine j_bipush S 7 dX4_isToken_5 (by decide) ?_
  refine j_icmp_le S 46 dX4_isToken_7 (by decide) (fun h => ?_) (fun h => ?_)
  · skip
    refine j_iconst S 1 dX4_isToken_46 (by decide) ?_
    refine j_goto S 51 dX4_isToken_47 (by decide) ?_
    exact j_ireturn S hRT hXA hQ hXk hXn dX4_isToken_51 rfl rfl (fun H h => h)
  · skip
    rw [show (7 : Int32) = nI 7 from rfl, isTok_le h50 (by omega)] at h
    refine j_iload_n S dX4_isToken_10 rfl ?_
    refine j_bipush S 10 dX4_isToken_11 (by decide) ?_
    refine j_icmp_eq S 46 dX4_isToken_13 (by decide) (fun h2 => ?_) (fun h2 => ?_)
    · skip
      refine j_iconst S 1 dX4_isToken_46 (by decide) ?_
      refine j_goto S 51 dX4_isToken_47 (by decide) ?_
      exact j_ireturn S hRT hXA hQ hXk hXn dX4_isToken_51 rfl rfl (fun H h => h)
    · skip
      rw [show (10 : Int32) = nI 10 from rfl, isTok_eq h50 (by omega)] at h2
      refine j_iload_n S dX4_isToken_16 rfl ?_
      refine j_bipush S 11 dX4_isToken_17 (by decide) ?_
      refine j_icmp_eq S 46 dX4_isToken_19 (by decide) (fun h3 => ?_) (fun h3 => ?_)
      · skip
        refine j_iconst S 1 dX4_isToken_46 (by decide) ?_
        refine j_goto S 51 dX4_isToken_47 (by decide) ?_
        exact j_ireturn S hRT hXA hQ hXk hXn dX4_isToken_51 rfl rfl (fun H h => h)
      · skip
        rw [show (11 : Int32) = nI 11 from rfl, isTok_eq h50 (by omega)] at h3
        refine j_iload_n S dX4_isToken_22 rfl ?_
        refine j_bipush S 22 dX4_isToken_23 (by decide) ?_
        refine j_icmp_lt S 34 dX4_isToken_25 (by decide) (fun h9 => absurd h9 (by rw [show (22 : Int32) = nI 22 from rfl, isTok_lt h50 (by omega)]; omega)) (fun _ => ?_)
        refine j_iload_n S dX4_isToken_28 rfl ?_
        refine j_bipush S 33 dX4_isToken_29 (by decide) ?_
        refine j_icmp_le S 46 dX4_isToken_31 (by decide) (fun h4 => ?_) (fun h4 => ?_)
        · skip
          refine j_iconst S 1 dX4_isToken_46 (by decide) ?_
          refine j_goto S 51 dX4_isToken_47 (by decide) ?_
          exact j_ireturn S hRT hXA hQ hXk hXn dX4_isToken_51 rfl rfl (fun H h => h)
        · skip
          rw [show (33 : Int32) = nI 33 from rfl, isTok_le h50 (by omega)] at h4
          refine j_iload_n S dX4_isToken_34 rfl ?_
          refine j_bipush S 44 dX4_isToken_35 (by decide) ?_
          refine j_icmp_lt S 50 dX4_isToken_37 (by decide) (fun h9 => absurd h9 (by rw [show (44 : Int32) = nI 44 from rfl, isTok_lt h50 (by omega)]; omega)) (fun _ => ?_)
          refine j_iload_n S dX4_isToken_40 rfl ?_
          refine j_bipush S 49 dX4_isToken_41 (by decide) ?_
          refine j_icmp_gt S 50 dX4_isToken_43 (by decide) (fun h9 => absurd h9 (by rw [show (49 : Int32) = nI 49 from rfl, isTok_lt (by omega) h50]; omega)) (fun _ => ?_)
          refine j_iconst S 1 dX4_isToken_46 (by decide) ?_
          refine j_goto S 51 dX4_isToken_47 (by decide) ?_
          exact j_ireturn S hRT hXA hQ hXk hXn dX4_isToken_51 rfl rfl (fun H h => h)

set_option maxRecDepth 100000 in
set_option maxHeartbeats 4000000 in
theorem k_X4_programForToken (l : Launch) (Z : Zx) (A : Nat → Prop) (hA : AdOk Z A) (σ : St) (k j : Nat) (hk : k < 10) (hj : tokN j) (hl : (σ.row (8 + 2 * k)).length < 40) : Km l Z A yX4_programForToken wsX4_programForToken { frames := 1, cells := 0, slots := 0, locals := 21 } (Wd Z σ) [.ref (Z.ad 0), .int (nI k), .int (nI j)] (Qr (Wd Z σ) A (Z.ad (po k))) := by
  refine Km.of (cc := cX4_programForToken) (maxL := 4) (ret := (some (.object "TreadleLoom$Program"))) (by decide) rfl (Nat.le_of_ble_eq_true rfl) hA ?_
  intro X hXl S hAX hRT hXA hQ hXk hXn
  show J X 4 (Wd Z σ) 0 [some (.ref (Z.ad 0)), some (.int (nI k)), some (.int (nI j)), none] []
  refine j_aload_n S dX4_programForToken_0 rfl ?_
  refine j_iload_n S dX4_programForToken_1 rfl ?_
  refine j_cVr S (n := 1) (rest := []) (k_X4_programAt X.l Z X.A hAX σ k hk) ⟨_, _, _, _, rfl, gX4_programForToken_X4_programAt, rfl, rfl, by decide +kernel, ⟨Nat.le_of_ble_eq_true rfl, Nat.le_of_ble_eq_true rfl⟩⟩ rd_loom rfl rfl (Nat.le_of_ble_eq_true rfl) rfl dX4_programForToken_2 ?_
  refine j_astore_n S [some (.ref (Z.ad 0)), some (.int (nI k)), some (.int (nI j)), some (.ref (Z.ad (po k)))] dX4_programForToken_5 (by decide) rfl rfl ?_
  refine j_iload_n S dX4_programForToken_6 rfl ?_
  refine j_cSi S (n := 1) (rest := []) (k_X4_isToken X.l Z X.A hAX σ j hj) ⟨_, _, _, _, rfl, gX4_programForToken_X4_isToken, rfl, rfl, by decide +kernel, ⟨Nat.le_of_ble_eq_true rfl, Nat.le_of_ble_eq_true rfl⟩⟩ rfl (Nat.le_of_ble_eq_true rfl) rfl dX4_programForToken_7 (fun v9 hv9 => ?_)
  subst hv9
  refine j_if_ne S 23 dX4_programForToken_10 (by decide) (fun _ => ?_) (fun h9 => absurd h9 (by decide))
  refine j_aload_n S dX4_programForToken_23 rfl ?_
  refine j_getN S (C := RX2) (T := TX2) (N := 4) (by decide +kernel) (rd_prog (by omega)) rfl (v := .ref (Z.ad (ro (8 + 2 * k)))) 0 (by decide) 2 rfl rfl rfl dX4_programForToken_24 ?_
  refine j_getN S (C := RX3) (T := TX3) (N := 2) (by decide +kernel) (rd_row (by omega)) rfl (v := .int (nI (σ.row (8 + 2 * k)).length)) 1 (by decide) 3 rfl rfl rfl dX4_programForToken_27 ?_
  refine j_bipush S 40 dX4_programForToken_30 (by decide) ?_
  refine j_icmp_lt S 45 dX4_programForToken_32 (by decide) (fun _ => ?_) (fun h9 => absurd (by rw [show (40 : Int32) = nI 40 from rfl, nI_ltI (by omega) (by omega)]; exact hl) h9)
  refine j_aload_n S dX4_programForToken_45 rfl ?_
  exact j_areturn S hRT hXA hQ hXk hXn dX4_programForToken_46 (fun H h => h)

set_option maxRecDepth 100000 in
set_option maxHeartbeats 4000000 in
theorem k_X4_weave (l : Launch) (Z : Zx) (A : Nat → Prop) (hA : AdOk Z A) (σ : St) : Km l Z A yX4_weave wsX4_weave { frames := 2, cells := 0, slots := 0, locals := 49 } (Wd Z σ) [.ref (Z.ad 0)] (Qv (Wd Z (σ.setCl 0 (wE (σ.row 0) (σ.row 9) (σ.row 11) (σ.row 11).length) (wP (σ.row 0) (σ.row 9) (σ.row 11) (σ.row 11).length))) A) := by
  refine Km.of (cc := cX4_weave) (maxL := 1) (ret := none) (by decide) rfl (Nat.le_of_ble_eq_true rfl) hA ?_
  intro X hXl S hAX hRT hXA hQ hXk hXn
  show J X 1 (Wd Z σ) 0 [some (.ref (Z.ad 0))] []
  refine j_aload_n S dX4_weave_0 rfl ?_
  refine j_get S (C := RX4) (T := TX4) (N := 7) (by decide +kernel) rd_loom rfl (v := .ref (Z.ad (co 0))) 3 (by decide) (by decide +kernel) rfl rfl dX4_weave_1 ?_
  refine j_aload_n S dX4_weave_4 rfl ?_
  refine j_get S (C := RX4) (T := TX4) (N := 7) (by decide +kernel) rd_loom rfl (v := .ref (Z.ad 1)) 0 (by decide) (by decide +kernel) rfl rfl dX4_weave_5 ?_
  refine j_iconst S 0 dX4_weave_8 (by decide) ?_
  refine j_aaload S (v := Z.ad (po 0)) rd_progs (show vp_in (nI 0) 10 from vp_in_nI (by decide) (by decide)) rfl dX4_weave_9 ?_
  refine j_getN S (C := RX2) (T := TX2) (N := 4) (by decide +kernel) (rd_prog (by omega)) rfl (v := .ref (Z.ad (ro 9))) 1 (by decide) 4 rfl rfl rfl dX4_weave_10 ?_
  refine j_aload_n S dX4_weave_13 rfl ?_
  refine j_get S (C := RX4) (T := TX4) (N := 7) (by decide +kernel) rd_loom rfl (v := .ref (Z.ad 1)) 0 (by decide) (by decide +kernel) rfl rfl dX4_weave_14 ?_
  refine j_iconst S 1 dX4_weave_17 (by decide) ?_
  refine j_aaload S (v := Z.ad (po 1)) rd_progs (show vp_in (nI 1) 10 from vp_in_nI (by decide) (by decide)) rfl dX4_weave_18 ?_
  refine j_getN S (C := RX2) (T := TX2) (N := 4) (by decide +kernel) (rd_prog (by omega)) rfl (v := .ref (Z.ad (ro 11))) 1 (by decide) 4 rfl rfl rfl dX4_weave_19 ?_
  refine j_aload_n S dX4_weave_22 rfl ?_
  refine j_get S (C := RX4) (T := TX4) (N := 7) (by decide +kernel) rd_loom rfl (v := .ref (Z.ad (ro 0))) 2 (by decide) (by decide +kernel) rfl rfl dX4_weave_23 ?_
  refine j_cVv S (n := 3) (rest := []) (k_X0_weave X.l Z X.A hAX σ 0 (by omega) 0 (by omega)) ⟨_, _, _, _, rfl, gX4_weave_X0_weave, rfl, rfl, by decide +kernel, ⟨Nat.le_of_ble_eq_true rfl, Nat.le_of_ble_eq_true rfl⟩⟩ (rd_cloth (by omega)) rfl rfl (Nat.le_of_ble_eq_true rfl) rfl dX4_weave_26 ?_
  show J X 1 (Wd Z (σ.setCl 0 (wE (σ.row 0) (σ.row 9) (σ.row 11) (σ.row 11).length) (wP (σ.row 0) (σ.row 9) (σ.row 11) (σ.row 11).length))) 29 [some (.ref (Z.ad 0))] []
  exact j_return S hRT hXA hQ hXk hXn dX4_weave_29 (fun H h => h)

set_option maxRecDepth 100000 in
set_option maxHeartbeats 4000000 in
theorem k_X4_weaveTrial (l : Launch) (Z : Zx) (A : Nat → Prop) (hA : AdOk Z A) (σ : St) : Km l Z A yX4_weaveTrial wsX4_weaveTrial { frames := 2, cells := 0, slots := 0, locals := 49 } (Wd Z σ) [.ref (Z.ad 0)] (Qv (Wd Z (σ.setCl 1 (wE (σ.row 1) (σ.row 9) (σ.row 11) (σ.row 11).length) (wP (σ.row 1) (σ.row 9) (σ.row 11) (σ.row 11).length))) A) := by
  refine Km.of (cc := cX4_weaveTrial) (maxL := 1) (ret := none) (by decide) rfl (Nat.le_of_ble_eq_true rfl) hA ?_
  intro X hXl S hAX hRT hXA hQ hXk hXn
  show J X 1 (Wd Z σ) 0 [some (.ref (Z.ad 0))] []
  refine j_aload_n S dX4_weaveTrial_0 rfl ?_
  refine j_get S (C := RX4) (T := TX4) (N := 7) (by decide +kernel) rd_loom rfl (v := .ref (Z.ad (co 1))) 6 (by decide) (by decide +kernel) rfl rfl dX4_weaveTrial_1 ?_
  refine j_aload_n S dX4_weaveTrial_4 rfl ?_
  refine j_get S (C := RX4) (T := TX4) (N := 7) (by decide +kernel) rd_loom rfl (v := .ref (Z.ad 1)) 0 (by decide) (by decide +kernel) rfl rfl dX4_weaveTrial_5 ?_
  refine j_iconst S 0 dX4_weaveTrial_8 (by decide) ?_
  refine j_aaload S (v := Z.ad (po 0)) rd_progs (show vp_in (nI 0) 10 from vp_in_nI (by decide) (by decide)) rfl dX4_weaveTrial_9 ?_
  refine j_getN S (C := RX2) (T := TX2) (N := 4) (by decide +kernel) (rd_prog (by omega)) rfl (v := .ref (Z.ad (ro 9))) 1 (by decide) 4 rfl rfl rfl dX4_weaveTrial_10 ?_
  refine j_aload_n S dX4_weaveTrial_13 rfl ?_
  refine j_get S (C := RX4) (T := TX4) (N := 7) (by decide +kernel) rd_loom rfl (v := .ref (Z.ad 1)) 0 (by decide) (by decide +kernel) rfl rfl dX4_weaveTrial_14 ?_
  refine j_iconst S 1 dX4_weaveTrial_17 (by decide) ?_
  refine j_aaload S (v := Z.ad (po 1)) rd_progs (show vp_in (nI 1) 10 from vp_in_nI (by decide) (by decide)) rfl dX4_weaveTrial_18 ?_
  refine j_getN S (C := RX2) (T := TX2) (N := 4) (by decide +kernel) (rd_prog (by omega)) rfl (v := .ref (Z.ad (ro 11))) 1 (by decide) 4 rfl rfl rfl dX4_weaveTrial_19 ?_
  refine j_aload_n S dX4_weaveTrial_22 rfl ?_
  refine j_get S (C := RX4) (T := TX4) (N := 7) (by decide +kernel) rd_loom rfl (v := .ref (Z.ad (ro 1))) 5 (by decide) (by decide +kernel) rfl rfl dX4_weaveTrial_23 ?_
  refine j_cVv S (n := 3) (rest := []) (k_X0_weave X.l Z X.A hAX σ 1 (by omega) 1 (by omega)) ⟨_, _, _, _, rfl, gX4_weaveTrial_X0_weave, rfl, rfl, by decide +kernel, ⟨Nat.le_of_ble_eq_true rfl, Nat.le_of_ble_eq_true rfl⟩⟩ (rd_cloth (by omega)) rfl rfl (Nat.le_of_ble_eq_true rfl) rfl dX4_weaveTrial_26 ?_
  show J X 1 (Wd Z (σ.setCl 1 (wE (σ.row 1) (σ.row 9) (σ.row 11) (σ.row 11).length) (wP (σ.row 1) (σ.row 9) (σ.row 11) (σ.row 11).length))) 29 [some (.ref (Z.ad 0))] []
  exact j_return S hRT hXA hQ hXk hXn dX4_weaveTrial_29 (fun H h => h)

set_option maxRecDepth 100000 in
set_option maxHeartbeats 4000000 in
theorem k_X4_renewFrom (l : Launch) (Z : Zx) (A : Nat → Prop) (hA : AdOk Z A) (σ : St) (tok : Nat → List Int32) (ties : List Int32) (p : Nat) (hp : p < 10) (hH : Hand σ tok ties) (hG : ∀ i, i < 10 → ((p < 4 ∧ i ≠ p) ∨ (4 ≤ i ∧ i < p)) → Good σ tok i) : Km l Z A yX4_renewFrom wsX4_renewFrom { frames := 5, cells := 0, slots := 0, locals := 116 } (Wd Z σ) [.ref (Z.ad 0), .int (nI p)] (Qv (WL Z tok ties) A) := by
  refine Km.of (cc := cX4_renewFrom) (maxL := 4) (ret := none) (by decide) rfl (Nat.le_of_ble_eq_true rfl) hA ?_
  intro X hXl S hAX hRT hXA hQ hXk hXn
  show J X 4 (Wd Z σ) 0 [some (.ref (Z.ad 0)), some (.int (nI p)), none, none] []
  have finish : ∀ σ1 : St, Hand σ1 tok ties → (∀ i, i < 10 → Good σ1 tok i) → ∀ v2 v3 : Int32, J X 4 (Wd Z σ1) 90 [some (.ref (Z.ad 0)), some (.int (nI p)), some (.int v2), some (.int v3)] [] := by
    intro σ1 hH1 hG1 v2 v3
    refine j_aload_n S dX4_renewFrom_90 rfl ?_
    refine j_cVv S (n := 0) (rest := []) (k_X4_weave X.l Z X.A hAX σ1) ⟨_, _, _, _, rfl, gX4_renewFrom_X4_weave, rfl, rfl, by decide +kernel, ⟨Nat.le_of_ble_eq_true rfl, Nat.le_of_ble_eq_true rfl⟩⟩ rd_loom rfl rfl (Nat.le_of_ble_eq_true rfl) rfl dX4_renewFrom_91 ?_
    exact j_return S hRT hXA hQ hXk hXn dX4_renewFrom_94 (fun H h9 => ⟨_, Cons.woven hH1 hG1, h9⟩)
  have rows : ∀ (bl : Bool) (f k : Nat) (σ1 : St), (bl = true ↔ 4 ≤ p) → k + f = 4 → Hand σ1 tok ties → (∀ i, 4 ≤ i → i < 10 → Good σ1 tok i) → (∀ i, i < 4 → (i < k ∨ (bl = false ∧ i ≠ p)) → Good σ1 tok i) → J X 4 (Wd Z σ1) 52 [some (.ref (Z.ad 0)), some (.int (nI p)), some (.int (b2i bl)), some (.int (nI k))] [] := by
    intro bl f
    induction f with
    | zero =>
      intro k σ1 hbl hk hH1 hGb hGr
      refine j_iload_n S dX4_renewFrom_52 rfl ?_
      refine j_iconst S 4 dX4_renewFrom_53 (by decide) ?_
      refine j_icmp_ge S 90 dX4_renewFrom_54 (by decide) (fun _ => ?_) (fun h9 => absurd (by rw [i4, nI_leI (by omega) (by omega)]; omega) h9)
      exact finish σ1 hH1 (fun i hi => by rcases Nat.lt_or_ge i 4 with q | q; exact hGr i q (Or.inl (by omega)); exact hGb i q hi) _ _
    | succ f ih =>
      intro k σ1 hbl hk hH1 hGb hGr
      have next : ∀ σ2 : St, Hand σ2 tok ties → (∀ i, 4 ≤ i → i < 10 → Good σ2 tok i) → (∀ i, i < 4 → (i < k + 1 ∨ (bl = false ∧ i ≠ p)) → Good σ2 tok i) → J X 4 (Wd Z σ2) 84 [some (.ref (Z.ad 0)), some (.int (nI p)), some (.int (b2i bl)), some (.int (nI k))] [] := by
        intro σ2 hH2 hGb2 hGr2
        refine j_iinc S (nI (k + 1)) [some (.ref (Z.ad 0)), some (.int (nI p)), some (.int (b2i bl)), some (.int (nI (k + 1)))] dX4_renewFrom_84 rfl (nI_1 k) (by decide) rfl rfl ?_
        refine j_goto S 52 dX4_renewFrom_87 (by decide) ?_
        exact ih (k + 1) σ2 hbl (by omega) hH2 hGb2 hGr2
      have one : (bl = true ∨ k = p) → J X 4 (Wd Z σ1) 66 [some (.ref (Z.ad 0)), some (.int (nI p)), some (.int (b2i bl)), some (.int (nI k))] [] := by
        intro _
        refine j_aload_n S dX4_renewFrom_66 rfl ?_
        refine j_get S (C := RX4) (T := TX4) (N := 7) (by decide +kernel) rd_loom rfl (v := .ref (Z.ad 2)) 1 (by decide) (by decide +kernel) rfl rfl dX4_renewFrom_67 ?_
        refine j_aload_n S dX4_renewFrom_70 rfl ?_
        refine j_get S (C := RX4) (T := TX4) (N := 7) (by decide +kernel) rd_loom rfl (v := .ref (Z.ad 1)) 0 (by decide) (by decide +kernel) rfl rfl dX4_renewFrom_71 ?_
        refine j_iload_n S dX4_renewFrom_74 rfl ?_
        refine j_aload_n S dX4_renewFrom_75 rfl ?_
        refine j_get S (C := RX4) (T := TX4) (N := 7) (by decide +kernel) rd_loom rfl (v := .ref (Z.ad 1)) 0 (by decide) (by decide +kernel) rfl rfl dX4_renewFrom_76 ?_
        refine j_iload_n S dX4_renewFrom_79 rfl ?_
        refine j_aaload S (v := Z.ad (po k)) rd_progs (vp_in_nI (show k < 10 by omega) (by omega)) (by show some (Z.ad (po (nI k).toNatClampNeg)) = _; rw [nI_clamp (by omega)]) dX4_renewFrom_80 ?_
        refine j_cVv S (n := 3) (rest := []) (k_X1_compile X.l Z X.A hAX σ1 k k (by omega) (by omega) (by rw [hH1.1 k (by omega)]; exact hH1.2.1 k (by omega))) ⟨_, _, _, _, rfl, gX4_renewFrom_X1_compile, rfl, rfl, by decide +kernel, ⟨Nat.le_of_ble_eq_true rfl, Nat.le_of_ble_eq_true rfl⟩⟩ rd_comp rfl rfl (Nat.le_of_ble_eq_true rfl) rfl dX4_renewFrom_81 ?_
        refine J.ex (fun c => ?_)
        rw [hH1.1 k (by omega)]
        have er : runC (blkOf σ1) k (tok k) = res tok k := res_prog (by omega) (fun b h1 h2 => (hGb b h1 h2).blk) (hH1.2.1 k (by omega))
        refine next _ (hH1.comp c _ _ _) (fun i h1 h2 => (hGb i h1 h2).comp_ne c _ _ _ (by omega)) (fun i h1 h2 => ?_)
        by_cases e : i = k
        · subst e; exact Good.comp_self c i er
        · exact (hGr i h1 (by rcases h2 with q | q; exact Or.inl (by omega); exact Or.inr q)).comp_ne c _ _ _ e
      refine j_iload_n S dX4_renewFrom_52 rfl ?_
      refine j_iconst S 4 dX4_renewFrom_53 (by decide) ?_
      refine j_icmp_ge S 90 dX4_renewFrom_54 (by decide) (fun h9 => absurd h9 (by rw [i4, nI_leI (by omega) (by omega)]; omega)) (fun _ => ?_)
      refine j_iload_n S dX4_renewFrom_57 rfl ?_
      refine j_if_ne S 66 dX4_renewFrom_58 (by decide) (fun h => ?_) (fun h => ?_)
      · skip
        exact one (Or.inl (b2i_n0.mp h))
      · skip
        have hbf := b2i_0.mp h
        refine j_iload_n S dX4_renewFrom_61 rfl ?_
        refine j_iload_n S dX4_renewFrom_62 rfl ?_
        refine j_icmp_ne S 84 dX4_renewFrom_63 (by decide) (fun h2 => ?_) (fun h2 => ?_)
        · skip
          rw [nI_eq (by omega) (by omega)] at h2
          refine next σ1 hH1 hGb (fun i h1 h3 => hGr i h1 ?_)
          rcases h3 with q | q
          · by_cases e : i = k
            · exact Or.inr ⟨hbf, by omega⟩
            · exact Or.inl (by omega)
          · exact Or.inr q
        · skip
          rw [nI_eq (by omega) (by omega)] at h2
          exact one (Or.inr h2)
  have blocks : 4 ≤ p → ∀ (f k : Nat) (σ1 : St), k + f = 10 → p ≤ k → Hand σ1 tok ties → (∀ i, 4 ≤ i → i < k → Good σ1 tok i) → J X 4 (Wd Z σ1) 13 [some (.ref (Z.ad 0)), some (.int (nI p)), some (.int 1), some (.int (nI k))] [] := by
    intro hp4 f
    induction f with
    | zero =>
      intro k σ1 hk hpk hH1 hGb
      refine j_iload_n S dX4_renewFrom_13 rfl ?_
      refine j_if_eq S 50 dX4_renewFrom_14 (by decide) (fun h9 => absurd h9 (by decide)) (fun _ => ?_)
      refine j_iload_n S dX4_renewFrom_17 rfl ?_
      refine j_aload_n S dX4_renewFrom_18 rfl ?_
      refine j_get S (C := RX4) (T := TX4) (N := 7) (by decide +kernel) rd_loom rfl (v := .ref (Z.ad 1)) 0 (by decide) (by decide +kernel) rfl rfl dX4_renewFrom_19 ?_
      refine j_alen S (v := 10) (t0 := 1) rd_progs rfl rfl dX4_renewFrom_22 ?_
      refine j_icmp_ge S 50 dX4_renewFrom_23 (by decide) (fun _ => ?_) (fun h9 => absurd (by rw [show (10 : Int32) = nI 10 from rfl, nI_leI (by omega) (by omega)]; omega) h9)
      refine j_iconst S 0 dX4_renewFrom_50 (by decide) ?_
      refine j_istore_n S [some (.ref (Z.ad 0)), some (.int (nI p)), some (.int 1), some (.int 0)] dX4_renewFrom_51 (by decide) rfl rfl ?_
      exact rows true 4 0 σ1 ⟨fun _ => hp4, fun _ => rfl⟩ rfl hH1 (fun i h1 h2 => hGb i h1 (by omega)) (fun i h1 h2 => by rcases h2 with q | q; omega; cases q.1)
    | succ f ih =>
      intro k σ1 hk hpk hH1 hGb
      refine j_iload_n S dX4_renewFrom_13 rfl ?_
      refine j_if_eq S 50 dX4_renewFrom_14 (by decide) (fun h9 => absurd h9 (by decide)) (fun _ => ?_)
      refine j_iload_n S dX4_renewFrom_17 rfl ?_
      refine j_aload_n S dX4_renewFrom_18 rfl ?_
      refine j_get S (C := RX4) (T := TX4) (N := 7) (by decide +kernel) rd_loom rfl (v := .ref (Z.ad 1)) 0 (by decide) (by decide +kernel) rfl rfl dX4_renewFrom_19 ?_
      refine j_alen S (v := 10) (t0 := 1) rd_progs rfl rfl dX4_renewFrom_22 ?_
      refine j_icmp_ge S 50 dX4_renewFrom_23 (by decide) (fun h9 => absurd h9 (by rw [show (10 : Int32) = nI 10 from rfl, nI_leI (by omega) (by omega)]; omega)) (fun _ => ?_)
      refine j_aload_n S dX4_renewFrom_26 rfl ?_
      refine j_get S (C := RX4) (T := TX4) (N := 7) (by decide +kernel) rd_loom rfl (v := .ref (Z.ad 2)) 1 (by decide) (by decide +kernel) rfl rfl dX4_renewFrom_27 ?_
      refine j_aload_n S dX4_renewFrom_30 rfl ?_
      refine j_get S (C := RX4) (T := TX4) (N := 7) (by decide +kernel) rd_loom rfl (v := .ref (Z.ad 1)) 0 (by decide) (by decide +kernel) rfl rfl dX4_renewFrom_31 ?_
      refine j_iload_n S dX4_renewFrom_34 rfl ?_
      refine j_aload_n S dX4_renewFrom_35 rfl ?_
      refine j_get S (C := RX4) (T := TX4) (N := 7) (by decide +kernel) rd_loom rfl (v := .ref (Z.ad 1)) 0 (by decide) (by decide +kernel) rfl rfl dX4_renewFrom_36 ?_
      refine j_iload_n S dX4_renewFrom_39 rfl ?_
      refine j_aaload S (v := Z.ad (po k)) rd_progs (vp_in_nI (show k < 10 by omega) (by omega)) (by show some (Z.ad (po (nI k).toNatClampNeg)) = _; rw [nI_clamp (by omega)]) dX4_renewFrom_40 ?_
      refine j_cVv S (n := 3) (rest := []) (k_X1_compile X.l Z X.A hAX σ1 k k (by omega) (by omega) (by rw [hH1.1 k (by omega)]; exact hH1.2.1 k (by omega))) ⟨_, _, _, _, rfl, gX4_renewFrom_X1_compile, rfl, rfl, by decide +kernel, ⟨Nat.le_of_ble_eq_true rfl, Nat.le_of_ble_eq_true rfl⟩⟩ rd_comp rfl rfl (Nat.le_of_ble_eq_true rfl) rfl dX4_renewFrom_41 ?_
      refine J.ex (fun c => ?_)
      rw [hH1.1 k (by omega)]
      have er : runC (blkOf σ1) k (tok k) = res tok k := res_block (by omega) (by omega) (fun b h1 h2 => (hGb b h1 h2).blk) (hH1.2.1 k (by omega))
      refine j_iinc S (nI (k + 1)) [some (.ref (Z.ad 0)), some (.int (nI p)), some (.int 1), some (.int (nI (k + 1)))] dX4_renewFrom_44 rfl (nI_1 k) (by decide) rfl rfl ?_
      refine j_goto S 13 dX4_renewFrom_47 (by decide) ?_
      refine ih (k + 1) _ (by omega) (by omega) (hH1.comp c _ _ _) (fun i h1 h2 => ?_)
      by_cases e : i = k
      · subst e; exact Good.comp_self c i er
      · exact (hGb i h1 (by omega)).comp_ne c _ _ _ e
  refine j_iload_n S dX4_renewFrom_0 rfl ?_
  refine j_iconst S 4 dX4_renewFrom_1 (by decide) ?_
  refine j_icmp_lt S 9 dX4_renewFrom_2 (by decide) (fun h => ?_) (fun h => ?_)
  · skip
    rw [i4, nI_ltI (by omega) (by omega)] at h
    refine j_iconst S 0 dX4_renewFrom_9 (by decide) ?_
    refine j_istore_n S [some (.ref (Z.ad 0)), some (.int (nI p)), some (.int 0), none] dX4_renewFrom_10 (by decide) rfl rfl ?_
    refine j_iload_n S dX4_renewFrom_11 rfl ?_
    refine j_istore_n S [some (.ref (Z.ad 0)), some (.int (nI p)), some (.int 0), some (.int (nI p))] dX4_renewFrom_12 (by decide) rfl rfl ?_
    refine j_iload_n S dX4_renewFrom_13 rfl ?_
    refine j_if_eq S 50 dX4_renewFrom_14 (by decide) (fun _ => ?_) (fun h9 => absurd rfl h9)
    refine j_iconst S 0 dX4_renewFrom_50 (by decide) ?_
    refine j_istore_n S [some (.ref (Z.ad 0)), some (.int (nI p)), some (.int 0), some (.int 0)] dX4_renewFrom_51 (by decide) rfl rfl ?_
    exact rows false 4 0 σ ⟨fun q => (by cases q), fun q => (by omega)⟩ rfl hH (fun i h1 h2 => hG i h2 (Or.inl ⟨by omega, by omega⟩)) (fun i h1 h2 => hG i (by omega) (Or.inl ⟨by omega, by rcases h2 with q | q; omega; exact q.2⟩))
  · skip
    rw [i4, nI_ltI (by omega) (by omega)] at h
    refine j_iconst S 1 dX4_renewFrom_5 (by decide) ?_
    refine j_goto S 10 dX4_renewFrom_6 (by decide) ?_
    refine j_istore_n S [some (.ref (Z.ad 0)), some (.int (nI p)), some (.int 1), none] dX4_renewFrom_10 (by decide) rfl rfl ?_
    refine j_iload_n S dX4_renewFrom_11 rfl ?_
    refine j_istore_n S [some (.ref (Z.ad 0)), some (.int (nI p)), some (.int 1), some (.int (nI p))] dX4_renewFrom_12 (by decide) rfl rfl ?_
    exact blocks (by omega) (10 - p) p σ (by omega) (Nat.le_refl _) hH (fun i h1 h2 => hG i (by omega) (Or.inr ⟨h1, h2⟩))
end
section
theorem n64_of {a : UInt64} (h : Jvm.FP.Core.dIsNaN a = false) : vf_n64 a := by
  have h1 : ¬ 9218868437227405312 < a.toNat % 2 ^ 63 := fun q => by rw [(Jvm.FP.Core.isNaN_bits a).mpr q] at h; cases h
  unfold vf_n64
  rw [UInt64.le_iff_toNat_le, UInt64.toNat_and]
  have e : (0x7fffffffffffffff : UInt64).toNat = 2 ^ 63 - 1 := rfl
  rw [e, Nat.and_two_pow_sub_one_eq_mod]
  show a.toNat % 2 ^ 63 ≤ 9218868437227405312
  omega
def meanI (E P : List Int32) : UInt64 := if floatsI E P 1 = 0 then FP.dconst0 else FP.ddiv (FP.i2d (nI E.length * nI P.length)) (FP.i2d (floatsI E P 1))
theorem mean_num {w c : Int32} (h : ¬ c = 0) : vf_n64 (FP.ddiv (FP.i2d w) (FP.i2d c)) := by
  have h1 := Jvm.FP.Core.i2d_fin c
  have h2 := Jvm.FP.Core.i2d_ne_zero h
  refine n64_of (Jvm.FP.Core.ddiv_out (a := FP.i2d w) (b := FP.i2d c) ?_ h1 ?_)
  · have := Jvm.FP.Core.i2d_fin w
    exact (Jvm.FP.Core.notNaN_iff _).mpr this.ne_nan
  · intro hz
    exact h2 ((Jvm.FP.Core.zero_bits2 _).mp hz)
theorem res_len {tok : Nat → List Int32} {σ : St} {ties : List Int32} (hC : Cons σ tok ties) (hcap : ∀ r, r < 30 → (σ.row r).length ≤ cap r) {i : Nat} (hi : i < 10) : (num tok i).length ≤ 32 := by
  have h1 := hcap (9 + 2 * i) (by omega)
  rw [cap_odd (by omega), (hC.2.1 i hi).1] at h1
  exact h1
theorem up_tok {tok : Nat → List Int32} {k i : Nat} {l : List Int32} (h : i ≠ k) : up tok k l i = tok i := up_ne h
theorem ToksOk.up {tok : Nat → List Int32} {k : Nat} {l : List Int32} (h : ToksOk tok) (hl : ∀ x ∈ l, tokOk x) : ToksOk (up tok k l) := fun i hi x hx => by
  by_cases e : i = k
  · subst e
    rw [up_self] at hx
    exact hl x hx
  · rw [up_ne e] at hx
    exact h i hi x hx
/-- a program's tokens are others: what is good still -/
theorem Hand.tok {σ : St} {tok : Nat → List Int32} {ties : List Int32} (h : Hand σ tok ties) {k : Nat} {l : List Int32} (hl : ∀ x ∈ l, tokOk x) : Hand (σ.setRow (8 + 2 * k) l) (up tok k l) ties := by
  refine ⟨fun i hi => ?_, h.2.1.up hl, (St.row_ne σ l (by omega)).trans h.2.2.1, h.2.2.2⟩
  by_cases e : i = k
  · subst e; rw [St.row_self, up_self]
  · rw [St.row_ne σ l (by omega), up_ne e, h.1 i hi]
theorem Good.tok {σ : St} {tok : Nat → List Int32} {i k : Nat} (h : Good σ tok i) (l : List Int32) (hi : i < 10) (hk : (k < 4 ∧ i ≠ k) ∨ (4 ≤ i ∧ i < k)) : Good (σ.setRow (8 + 2 * k) l) (up tok k l) i := by
  have e : res (up tok k l) i = res tok i := res_cong (up_ne (by omega)) (fun b h1 h2 h3 => up_ne (by omega))
  exact ⟨by rw [St.row_ne σ l (by omega), e]; exact h.1, by rw [e]; exact h.2.1, by rw [e]; exact h.2.2⟩
theorem Hand.tie {σ : St} {tok : Nat → List Int32} {ties l : List Int32} (h : Hand σ tok ties) (hl : l.length = 8) : Hand (σ.setRow 0 l) tok l :=
  ⟨fun i hi => (St.row_ne σ l (by omega)).trans (h.1 i hi), h.2.1, St.row_self σ 0 l, hl⟩
theorem Good.tie {σ : St} {tok : Nat → List Int32} {i : Nat} (h : Good σ tok i) (l : List Int32) : Good (σ.setRow 0 l) tok i :=
  ⟨(St.row_ne σ l (by omega)).trans h.1, h.2.1, h.2.2⟩
theorem hasF_len {σ : St} {tok : Nat → List Int32} {ties : List Int32} (hC : Cons σ tok ties) : (EE tok ties).length = (num tok 0).length ∧ (PP tok ties).length = (num tok 1).length := ⟨wE_len _ _ _ _, wP_len _ _ _ _⟩

set_option maxRecDepth 100000 in
set_option maxHeartbeats 4000000 in
theorem k_X4_ofProgram (l : Launch) (Z : Zx) (A : Nat → Prop) (hA : AdOk Z A) (tok : Nat → List Int32) (ties : List Int32) (i k : Nat) (hi : i < 10) (hk : k ≤ 3) : Km l Z A yX4_ofProgram wsX4_ofProgram { frames := 1, cells := 0, slots := 0, locals := 21 } (WL Z tok ties) [.ref (Z.ad 0), .int (nI i), .int (nI k)] (Qi (WL Z tok ties) A (fun v => v = progI tok i k)) := by
  refine Km.of (cc := cX4_ofProgram) (maxL := 4) (ret := (some .int)) (by decide) rfl (Nat.le_of_ble_eq_true rfl) hA ?_
  intro X hXl S hAX hRT hXA hQ hXk hXn
  show J X 4 (WL Z tok ties) 0 [some (.ref (Z.ad 0)), some (.int (nI i)), some (.int (nI k)), none] []
  refine J.WL (fun σ hC => ?_)
  obtain ⟨hH, hG, hEE, hPP⟩ := id hC
  refine j_aload_n S dX4_ofProgram_0 rfl ?_
  refine j_iload_n S dX4_ofProgram_1 rfl ?_
  refine j_cVr S (n := 1) (rest := []) (k_X4_programAt X.l Z X.A hAX σ i hi) ⟨_, _, _, _, rfl, gX4_ofProgram_X4_programAt, rfl, rfl, by decide +kernel, ⟨Nat.le_of_ble_eq_true rfl, Nat.le_of_ble_eq_true rfl⟩⟩ rd_loom rfl rfl (Nat.le_of_ble_eq_true rfl) rfl dX4_ofProgram_2 ?_
  show J X 4 (Wd Z σ) 5 [some (.ref (Z.ad 0)), some (.int (nI i)), some (.int (nI k)), none] [.ref (Z.ad (po i))]
  refine j_astore_n S [some (.ref (Z.ad 0)), some (.int (nI i)), some (.int (nI k)), some (.ref (Z.ad (po i)))] dX4_ofProgram_5 (by decide) rfl rfl ?_
  refine j_iload_n S dX4_ofProgram_6 rfl ?_
  by_cases h0 : k = 0
  · subst h0
    refine j_table S 36 dX4_ofProgram_7 (by decide) (by decide) rfl (by decide) ?_
    refine j_aload_n S dX4_ofProgram_36 rfl ?_
    refine j_getN S (C := RX2) (T := TX2) (N := 4) (by decide +kernel) (rd_prog (by omega)) rfl (v := .ref (Z.ad (ro (8 + 2 * i)))) 0 (by decide) 2 rfl rfl rfl dX4_ofProgram_37 ?_
    refine j_getN S (C := RX3) (T := TX3) (N := 2) (by decide +kernel) (rd_row (by omega)) rfl (v := .int (nI (σ.row (8 + 2 * i)).length)) 1 (by decide) 3 rfl rfl rfl dX4_ofProgram_40 ?_
    exact j_ireturn S hRT hXA hQ hXk hXn dX4_ofProgram_43 rfl (by rw [hH.1 i hi]; rfl) (fun H h9 => ⟨σ, hC, h9⟩)
  by_cases h1 : k = 1
  · subst h1
    refine j_table S 44 dX4_ofProgram_7 (by decide) (by decide) rfl (by decide) ?_
    refine j_aload_n S dX4_ofProgram_44 rfl ?_
    refine j_getN S (C := RX2) (T := TX2) (N := 4) (by decide +kernel) (rd_prog (by omega)) rfl (v := .ref (Z.ad (ro (9 + 2 * i)))) 1 (by decide) 4 rfl rfl rfl dX4_ofProgram_45 ?_
    refine j_getN S (C := RX3) (T := TX3) (N := 2) (by decide +kernel) (rd_row (by omega)) rfl (v := .int (nI (σ.row (9 + 2 * i)).length)) 1 (by decide) 3 rfl rfl rfl dX4_ofProgram_48 ?_
    exact j_ireturn S hRT hXA hQ hXk hXn dX4_ofProgram_51 rfl (by rw [(hG i hi).1]; rfl) (fun H h9 => ⟨σ, hC, h9⟩)
  by_cases h2 : k = 2
  · subst h2
    refine j_table S 52 dX4_ofProgram_7 (by decide) (by decide) rfl (by decide) ?_
    refine j_aload_n S dX4_ofProgram_52 rfl ?_
    refine j_getN S (C := RX2) (T := TX2) (N := 4) (by decide +kernel) (rd_prog (by omega)) rfl (v := .int (σ.fa i)) 2 (by decide) 5 rfl rfl rfl dX4_ofProgram_53 ?_
    exact j_ireturn S hRT hXA hQ hXk hXn dX4_ofProgram_56 rfl (by rw [(hG i hi).2.1]; rfl) (fun H h9 => ⟨σ, hC, h9⟩)
  obtain rfl : k = 3 := by omega
  · skip
    refine j_table S 57 dX4_ofProgram_7 (by decide) (by decide) rfl (by decide) ?_
    refine j_aload_n S dX4_ofProgram_57 rfl ?_
    refine j_getN S (C := RX2) (T := TX2) (N := 4) (by decide +kernel) (rd_prog (by omega)) rfl (v := .int (σ.fp i)) 3 (by decide) 6 rfl rfl rfl dX4_ofProgram_58 ?_
    exact j_ireturn S hRT hXA hQ hXk hXn dX4_ofProgram_61 rfl (by rw [(hG i hi).2.2]; rfl) (fun H h9 => ⟨σ, hC, h9⟩)

set_option maxRecDepth 100000 in
set_option maxHeartbeats 4000000 in
theorem k_X4_number (l : Launch) (Z : Zx) (A : Nat → Prop) (hA : AdOk Z A) (tok : Nat → List Int32) (ties : List Int32) (i k : Nat) (hi : i < 10) (hk : k < (num tok i).length) : Km l Z A yX4_number wsX4_number { frames := 1, cells := 0, slots := 0, locals := 21 } (WL Z tok ties) [.ref (Z.ad 0), .int (nI i), .int (nI k)] (Qi (WL Z tok ties) A (fun v => v = (num tok i).getD k 0)) := by
  refine Km.of (cc := cX4_number) (maxL := 4) (ret := (some .int)) (by decide) rfl (Nat.le_of_ble_eq_true rfl) hA ?_
  intro X hXl S hAX hRT hXA hQ hXk hXn
  show J X 4 (WL Z tok ties) 0 [some (.ref (Z.ad 0)), some (.int (nI i)), some (.int (nI k)), none] []
  refine J.WL (fun σ hC => ?_)
  obtain ⟨hH, hG, hEE, hPP⟩ := id hC
  refine J.caps (fun hcap => ?_)
  refine j_aload_n S dX4_number_0 rfl ?_
  refine j_iload_n S dX4_number_1 rfl ?_
  refine j_cVr S (n := 1) (rest := []) (k_X4_programAt X.l Z X.A hAX σ i hi) ⟨_, _, _, _, rfl, gX4_number_X4_programAt, rfl, rfl, by decide +kernel, ⟨Nat.le_of_ble_eq_true rfl, Nat.le_of_ble_eq_true rfl⟩⟩ rd_loom rfl rfl (Nat.le_of_ble_eq_true rfl) rfl dX4_number_2 ?_
  show J X 4 (Wd Z σ) 5 [some (.ref (Z.ad 0)), some (.int (nI i)), some (.int (nI k)), none] [.ref (Z.ad (po i))]
  refine j_getN S (C := RX2) (T := TX2) (N := 4) (by decide +kernel) (rd_prog (by omega)) rfl (v := .ref (Z.ad (ro (9 + 2 * i)))) 1 (by decide) 4 rfl rfl rfl dX4_number_5 ?_
  refine j_astore_n S [some (.ref (Z.ad 0)), some (.int (nI i)), some (.int (nI k)), some (.ref (Z.ad (ro (9 + 2 * i))))] dX4_number_8 (by decide) rfl rfl ?_
  refine j_iload_n S dX4_number_9 rfl ?_
  have hl := res_len hC hcap hi
  refine j_if_lt S 21 dX4_number_10 (by decide) (fun h9 => absurd h9 (nI_pos (by omega))) (fun _ => ?_)
  refine j_iload_n S dX4_number_13 rfl ?_
  refine j_aload_n S dX4_number_14 rfl ?_
  refine j_getN S (C := RX3) (T := TX3) (N := 2) (by decide +kernel) (rd_row (by omega)) rfl (v := .int (nI (σ.row (9 + 2 * i)).length)) 1 (by decide) 3 rfl rfl rfl dX4_number_15 ?_
  rw [(hG i hi).1]
  refine j_icmp_lt S 31 dX4_number_18 (by decide) (fun _ => ?_) (fun h9 => absurd (by rw [show (res tok i).1 = num tok i from rfl, nI_ltI (by omega) (by omega)]; exact hk) h9)
  refine j_aload_n S dX4_number_31 rfl ?_
  refine j_iload_n S dX4_number_32 rfl ?_
  refine j_cVi S (n := 1) (rest := []) (k_X3_at X.l Z X.A hAX σ (9 + 2 * i) (by omega) (nI k)) ⟨_, _, _, _, rfl, gX4_number_X3_at, rfl, rfl, by decide +kernel, ⟨Nat.le_of_ble_eq_true rfl, Nat.le_of_ble_eq_true rfl⟩⟩ (rd_row (by omega)) rfl rfl (Nat.le_of_ble_eq_true rfl) rfl dX4_number_33 (fun v9 hv9 => ?_)
  subst hv9
  show J X 4 (Wd Z σ) 36 [some (.ref (Z.ad 0)), some (.int (nI i)), some (.int (nI k)), some (.ref (Z.ad (ro (9 + 2 * i))))] [.int (atI (σ.row (9 + 2 * i)) (nI k))]
  exact j_ireturn S hRT hXA hQ hXk hXn dX4_number_36 rfl (by rw [(hG i hi).1, atI_nI _ (by omega)]; rfl) (fun H h9 => ⟨σ, hC, h9⟩)

set_option maxRecDepth 100000 in
set_option maxHeartbeats 4000000 in
theorem k_X4_period (l : Launch) (Z : Zx) (A : Nat → Prop) (hA : AdOk Z A) (tok : Nat → List Int32) (ties : List Int32) (i : Nat) (hi : i < 10) : Km l Z A yX4_period wsX4_period { frames := 3, cells := 0, slots := 0, locals := 64 } (WL Z tok ties) [.ref (Z.ad 0), .int (nI i)] (Qi (WL Z tok ties) A (fun v => v = periodI (num tok i))) := by
  refine Km.of (cc := cX4_period) (maxL := 2) (ret := (some .int)) (by decide) rfl (Nat.le_of_ble_eq_true rfl) hA ?_
  intro X hXl S hAX hRT hXA hQ hXk hXn
  show J X 2 (WL Z tok ties) 0 [some (.ref (Z.ad 0)), some (.int (nI i))] []
  refine J.WL (fun σ hC => ?_)
  obtain ⟨hH, hG, hEE, hPP⟩ := id hC
  refine j_aload_n S dX4_period_0 rfl ?_
  refine j_iload_n S dX4_period_1 rfl ?_
  refine j_cVr S (n := 1) (rest := []) (k_X4_programAt X.l Z X.A hAX σ i hi) ⟨_, _, _, _, rfl, gX4_period_X4_programAt, rfl, rfl, by decide +kernel, ⟨Nat.le_of_ble_eq_true rfl, Nat.le_of_ble_eq_true rfl⟩⟩ rd_loom rfl rfl (Nat.le_of_ble_eq_true rfl) rfl dX4_period_2 ?_
  show J X 2 (Wd Z σ) 5 [some (.ref (Z.ad 0)), some (.int (nI i))] [.ref (Z.ad (po i))]
  refine j_getN S (C := RX2) (T := TX2) (N := 4) (by decide +kernel) (rd_prog (by omega)) rfl (v := .ref (Z.ad (ro (9 + 2 * i)))) 1 (by decide) 4 rfl rfl rfl dX4_period_5 ?_
  refine j_cVi S (n := 0) (rest := []) (k_X3_leastPeriod X.l Z X.A hAX σ (9 + 2 * i) (by omega)) ⟨_, _, _, _, rfl, gX4_period_X3_leastPeriod, rfl, rfl, by decide +kernel, ⟨Nat.le_of_ble_eq_true rfl, Nat.le_of_ble_eq_true rfl⟩⟩ (rd_row (by omega)) rfl rfl (Nat.le_of_ble_eq_true rfl) rfl dX4_period_8 (fun v9 hv9 => ?_)
  subst hv9
  show J X 2 (Wd Z σ) 11 [some (.ref (Z.ad 0)), some (.int (nI i))] [.int (periodI (σ.row (9 + 2 * i)))]
  exact j_ireturn S hRT hXA hQ hXk hXn dX4_period_11 rfl (by rw [(hG i hi).1]; rfl) (fun H h9 => ⟨σ, hC, h9⟩)

set_option maxRecDepth 100000 in
set_option maxHeartbeats 4000000 in
theorem k_X4_tied (l : Launch) (Z : Zx) (A : Nat → Prop) (hA : AdOk Z A) (tok : Nat → List Int32) (ties : List Int32) (k : Nat) (hk : k < 8) : Km l Z A yX4_tied wsX4_tied { frames := 1, cells := 0, slots := 0, locals := 21 } (WL Z tok ties) [.ref (Z.ad 0), .int (nI k)] (Qi (WL Z tok ties) A (fun v => v = ties.getD k 0)) := by
  refine Km.of (cc := cX4_tied) (maxL := 2) (ret := (some .int)) (by decide) rfl (Nat.le_of_ble_eq_true rfl) hA ?_
  intro X hXl S hAX hRT hXA hQ hXk hXn
  show J X 2 (WL Z tok ties) 0 [some (.ref (Z.ad 0)), some (.int (nI k))] []
  refine J.WL (fun σ hC => ?_)
  obtain ⟨hH, hG, hEE, hPP⟩ := id hC
  refine j_iload_n S dX4_tied_0 rfl ?_
  refine j_cSv S (n := 1) (rest := []) (k_X4_checkTreadle X.l Z X.A hAX σ k hk) ⟨_, _, _, _, rfl, gX4_tied_X4_checkTreadle, rfl, rfl, by decide +kernel, ⟨Nat.le_of_ble_eq_true rfl, Nat.le_of_ble_eq_true rfl⟩⟩ rfl (Nat.le_of_ble_eq_true rfl) rfl dX4_tied_1 ?_
  show J X 2 (Wd Z σ) 4 [some (.ref (Z.ad 0)), some (.int (nI k))] []
  refine j_aload_n S dX4_tied_4 rfl ?_
  refine j_get S (C := RX4) (T := TX4) (N := 7) (by decide +kernel) rd_loom rfl (v := .ref (Z.ad (ro 0))) 2 (by decide) (by decide +kernel) rfl rfl dX4_tied_5 ?_
  refine j_iload_n S dX4_tied_8 rfl ?_
  refine j_cVi S (n := 1) (rest := []) (k_X3_at X.l Z X.A hAX σ 0 (by omega) (nI k)) ⟨_, _, _, _, rfl, gX4_tied_X3_at, rfl, rfl, by decide +kernel, ⟨Nat.le_of_ble_eq_true rfl, Nat.le_of_ble_eq_true rfl⟩⟩ (rd_row (by omega)) rfl rfl (Nat.le_of_ble_eq_true rfl) rfl dX4_tied_9 (fun v9 hv9 => ?_)
  subst hv9
  show J X 2 (Wd Z σ) 12 [some (.ref (Z.ad 0)), some (.int (nI k))] [.int (atI (σ.row 0) (nI k))]
  exact j_ireturn S hRT hXA hQ hXk hXn dX4_tied_12 rfl (by rw [hH.2.2.1, atI_nI _ (by omega)]) (fun H h9 => ⟨σ, hC, h9⟩)

set_option maxRecDepth 100000 in
set_option maxHeartbeats 4000000 in
theorem k_X4_cloth (l : Launch) (Z : Zx) (A : Nat → Prop) (hA : AdOk Z A) (tok : Nat → List Int32) (ties : List Int32) (k : Nat) (hk : k ≤ 9) : Km l Z A yX4_cloth wsX4_cloth { frames := 3, cells := 0, slots := 0, locals := 65 } (WL Z tok ties) [.ref (Z.ad 0), .int (nI k)] (Qi (WL Z tok ties) A (fun v => v = clothI tok ties k)) := by
  refine Km.of (cc := cX4_cloth) (maxL := 2) (ret := (some .int)) (by decide) rfl (Nat.le_of_ble_eq_true rfl) hA ?_
  intro X hXl S hAX hRT hXA hQ hXk hXn
  show J X 2 (WL Z tok ties) 0 [some (.ref (Z.ad 0)), some (.int (nI k))] []
  refine J.WL (fun σ hC => ?_)
  obtain ⟨hH, hG, hEE, hPP⟩ := id hC
  refine j_iload_n S dX4_cloth_0 rfl ?_
  by_cases h0 : k = 0
  · subst h0
    refine j_table S 56 dX4_cloth_1 (by decide) (by decide) rfl (by decide) ?_
    refine j_aload_n S dX4_cloth_56 rfl ?_
    refine j_get S (C := RX4) (T := TX4) (N := 7) (by decide +kernel) rd_loom rfl (v := .ref (Z.ad (co 0))) 3 (by decide) (by decide +kernel) rfl rfl dX4_cloth_57 ?_
    refine j_getN S (C := RX0) (T := TX0) (N := 2) (by decide +kernel) (rd_cloth (by omega)) rfl (v := .ref (Z.ad (ro 2))) 0 (by decide) 0 rfl rfl rfl dX4_cloth_60 ?_
    refine j_getN S (C := RX3) (T := TX3) (N := 2) (by decide +kernel) (rd_row (by omega)) rfl (v := .int (nI (σ.row 2).length)) 1 (by decide) 3 rfl rfl rfl dX4_cloth_63 ?_
    exact j_ireturn S hRT hXA hQ hXk hXn dX4_cloth_66 rfl (by rw [hEE]; rfl) (fun H h9 => ⟨σ, hC, h9⟩)
  by_cases h1 : k = 1
  · subst h1
    refine j_table S 67 dX4_cloth_1 (by decide) (by decide) rfl (by decide) ?_
    refine j_aload_n S dX4_cloth_67 rfl ?_
    refine j_get S (C := RX4) (T := TX4) (N := 7) (by decide +kernel) rd_loom rfl (v := .ref (Z.ad (co 0))) 3 (by decide) (by decide +kernel) rfl rfl dX4_cloth_68 ?_
    refine j_getN S (C := RX0) (T := TX0) (N := 2) (by decide +kernel) (rd_cloth (by omega)) rfl (v := .ref (Z.ad (ro 3))) 1 (by decide) 1 rfl rfl rfl dX4_cloth_71 ?_
    refine j_getN S (C := RX3) (T := TX3) (N := 2) (by decide +kernel) (rd_row (by omega)) rfl (v := .int (nI (σ.row 3).length)) 1 (by decide) 3 rfl rfl rfl dX4_cloth_74 ?_
    exact j_ireturn S hRT hXA hQ hXk hXn dX4_cloth_77 rfl (by rw [hPP]; rfl) (fun H h9 => ⟨σ, hC, h9⟩)
  by_cases h2 : k = 2
  · subst h2
    refine j_table S 78 dX4_cloth_1 (by decide) (by decide) rfl (by decide) ?_
    refine j_aload_n S dX4_cloth_78 rfl ?_
    refine j_get S (C := RX4) (T := TX4) (N := 7) (by decide +kernel) rd_loom rfl (v := .ref (Z.ad (co 0))) 3 (by decide) (by decide +kernel) rfl rfl dX4_cloth_79 ?_
    refine j_getN S (C := RX0) (T := TX0) (N := 2) (by decide +kernel) (rd_cloth (by omega)) rfl (v := .ref (Z.ad (ro 2))) 0 (by decide) 0 rfl rfl rfl dX4_cloth_82 ?_
    refine j_cVi S (n := 0) (rest := []) (k_X3_countBits X.l Z X.A hAX σ 2 (by omega)) ⟨_, _, _, _, rfl, gX4_cloth_X3_countBits, rfl, rfl, by decide +kernel, ⟨Nat.le_of_ble_eq_true rfl, Nat.le_of_ble_eq_true rfl⟩⟩ (rd_row (by omega)) rfl rfl (Nat.le_of_ble_eq_true rfl) rfl dX4_cloth_85 (fun v9 hv9 => ?_)
    subst hv9
    show J X 2 (Wd Z σ) 88 [some (.ref (Z.ad 0)), some (.int (nI 2))] [.int (countBitsI (σ.row 2))]
    exact j_ireturn S hRT hXA hQ hXk hXn dX4_cloth_88 rfl (by rw [hEE]; rfl) (fun H h9 => ⟨σ, hC, h9⟩)
  by_cases h3 : k = 3
  · subst h3
    refine j_table S 89 dX4_cloth_1 (by decide) (by decide) rfl (by decide) ?_
    refine j_aload_n S dX4_cloth_89 rfl ?_
    refine j_get S (C := RX4) (T := TX4) (N := 7) (by decide +kernel) rd_loom rfl (v := .ref (Z.ad (co 0))) 3 (by decide) (by decide +kernel) rfl rfl dX4_cloth_90 ?_
    refine j_cVi S (n := 0) (rest := []) (k_X0_longestFloat X.l Z X.A hAX σ 0 (by omega)) ⟨_, _, _, _, rfl, gX4_cloth_X0_longestFloat, rfl, rfl, by decide +kernel, ⟨Nat.le_of_ble_eq_true rfl, Nat.le_of_ble_eq_true rfl⟩⟩ (rd_cloth (by omega)) rfl rfl (Nat.le_of_ble_eq_true rfl) rfl dX4_cloth_93 (fun v9 hv9 => ?_)
    subst hv9
    show J X 2 (Wd Z σ) 96 [some (.ref (Z.ad 0)), some (.int (nI 3))] [.int (longestC (σ.row 2) (σ.row 3))]
    exact j_ireturn S hRT hXA hQ hXk hXn dX4_cloth_96 rfl (by rw [hEE, hPP]; rfl) (fun H h9 => ⟨σ, hC, h9⟩)
  by_cases h4 : k = 4
  · subst h4
    refine j_table S 97 dX4_cloth_1 (by decide) (by decide) rfl (by decide) ?_
    refine j_aload_n S dX4_cloth_97 rfl ?_
    refine j_get S (C := RX4) (T := TX4) (N := 7) (by decide +kernel) rd_loom rfl (v := .ref (Z.ad (co 0))) 3 (by decide) (by decide +kernel) rfl rfl dX4_cloth_98 ?_
    refine j_getN S (C := RX0) (T := TX0) (N := 2) (by decide +kernel) (rd_cloth (by omega)) rfl (v := .ref (Z.ad (ro 2))) 0 (by decide) 0 rfl rfl rfl dX4_cloth_101 ?_
    refine j_iconst S 1 dX4_cloth_104 (by decide) ?_
    refine j_cVi S (n := 1) (rest := []) (k_X3_countRuns X.l Z X.A hAX σ 2 (by omega) 1 (by decide)) ⟨_, _, _, _, rfl, gX4_cloth_X3_countRuns, rfl, rfl, by decide +kernel, ⟨Nat.le_of_ble_eq_true rfl, Nat.le_of_ble_eq_true rfl⟩⟩ (rd_row (by omega)) rfl rfl (Nat.le_of_ble_eq_true rfl) rfl dX4_cloth_105 (fun v9 hv9 => ?_)
    subst hv9
    show J X 2 (Wd Z σ) 108 [some (.ref (Z.ad 0)), some (.int (nI 4))] [.int (countRunsI (σ.row 2) 1)]
    exact j_ireturn S hRT hXA hQ hXk hXn dX4_cloth_108 rfl (by rw [hEE]; rfl) (fun H h9 => ⟨σ, hC, h9⟩)
  by_cases h5 : k = 5
  · subst h5
    refine j_table S 109 dX4_cloth_1 (by decide) (by decide) rfl (by decide) ?_
    refine j_aload_n S dX4_cloth_109 rfl ?_
    refine j_get S (C := RX4) (T := TX4) (N := 7) (by decide +kernel) rd_loom rfl (v := .ref (Z.ad (co 0))) 3 (by decide) (by decide +kernel) rfl rfl dX4_cloth_110 ?_
    refine j_getN S (C := RX0) (T := TX0) (N := 2) (by decide +kernel) (rd_cloth (by omega)) rfl (v := .ref (Z.ad (ro 3))) 1 (by decide) 1 rfl rfl rfl dX4_cloth_113 ?_
    refine j_iconst S 1 dX4_cloth_116 (by decide) ?_
    refine j_cVi S (n := 1) (rest := []) (k_X3_countRuns X.l Z X.A hAX σ 3 (by omega) 1 (by decide)) ⟨_, _, _, _, rfl, gX4_cloth_X3_countRuns, rfl, rfl, by decide +kernel, ⟨Nat.le_of_ble_eq_true rfl, Nat.le_of_ble_eq_true rfl⟩⟩ (rd_row (by omega)) rfl rfl (Nat.le_of_ble_eq_true rfl) rfl dX4_cloth_117 (fun v9 hv9 => ?_)
    subst hv9
    show J X 2 (Wd Z σ) 120 [some (.ref (Z.ad 0)), some (.int (nI 5))] [.int (countRunsI (σ.row 3) 1)]
    exact j_ireturn S hRT hXA hQ hXk hXn dX4_cloth_120 rfl (by rw [hPP]; rfl) (fun H h9 => ⟨σ, hC, h9⟩)
  by_cases h6 : k = 6
  · subst h6
    refine j_table S 121 dX4_cloth_1 (by decide) (by decide) rfl (by decide) ?_
    refine j_aload_n S dX4_cloth_121 rfl ?_
    refine j_get S (C := RX4) (T := TX4) (N := 7) (by decide +kernel) rd_loom rfl (v := .ref (Z.ad 1)) 0 (by decide) (by decide +kernel) rfl rfl dX4_cloth_122 ?_
    refine j_iconst S 0 dX4_cloth_125 (by decide) ?_
    refine j_aaload S (v := Z.ad (po 0)) rd_progs (show vp_in (nI 0) 10 from vp_in_nI (by decide) (by decide)) rfl dX4_cloth_126 ?_
    refine j_getN S (C := RX2) (T := TX2) (N := 4) (by decide +kernel) (rd_prog (by omega)) rfl (v := .ref (Z.ad (ro 9))) 1 (by decide) 4 rfl rfl rfl dX4_cloth_127 ?_
    refine j_cVi S (n := 0) (rest := []) (k_X3_countDistinct X.l Z X.A hAX σ 9 (by omega)) ⟨_, _, _, _, rfl, gX4_cloth_X3_countDistinct, rfl, rfl, by decide +kernel, ⟨Nat.le_of_ble_eq_true rfl, Nat.le_of_ble_eq_true rfl⟩⟩ (rd_row (by omega)) rfl rfl (Nat.le_of_ble_eq_true rfl) rfl dX4_cloth_130 (fun v9 hv9 => ?_)
    subst hv9
    show J X 2 (Wd Z σ) 133 [some (.ref (Z.ad 0)), some (.int (nI 6))] [.int (distinctI (σ.row 9))]
    exact j_ireturn S hRT hXA hQ hXk hXn dX4_cloth_133 rfl (by rw [show σ.row 9 = num tok 0 from (hG 0 (by omega)).1]; rfl) (fun H h9 => ⟨σ, hC, h9⟩)
  by_cases h7 : k = 7
  · subst h7
    refine j_table S 134 dX4_cloth_1 (by decide) (by decide) rfl (by decide) ?_
    refine j_aload_n S dX4_cloth_134 rfl ?_
    refine j_get S (C := RX4) (T := TX4) (N := 7) (by decide +kernel) rd_loom rfl (v := .ref (Z.ad 1)) 0 (by decide) (by decide +kernel) rfl rfl dX4_cloth_135 ?_
    refine j_iconst S 1 dX4_cloth_138 (by decide) ?_
    refine j_aaload S (v := Z.ad (po 1)) rd_progs (show vp_in (nI 1) 10 from vp_in_nI (by decide) (by decide)) rfl dX4_cloth_139 ?_
    refine j_getN S (C := RX2) (T := TX2) (N := 4) (by decide +kernel) (rd_prog (by omega)) rfl (v := .ref (Z.ad (ro 11))) 1 (by decide) 4 rfl rfl rfl dX4_cloth_140 ?_
    refine j_cVi S (n := 0) (rest := []) (k_X3_countDistinct X.l Z X.A hAX σ 11 (by omega)) ⟨_, _, _, _, rfl, gX4_cloth_X3_countDistinct, rfl, rfl, by decide +kernel, ⟨Nat.le_of_ble_eq_true rfl, Nat.le_of_ble_eq_true rfl⟩⟩ (rd_row (by omega)) rfl rfl (Nat.le_of_ble_eq_true rfl) rfl dX4_cloth_143 (fun v9 hv9 => ?_)
    subst hv9
    show J X 2 (Wd Z σ) 146 [some (.ref (Z.ad 0)), some (.int (nI 7))] [.int (distinctI (σ.row 11))]
    exact j_ireturn S hRT hXA hQ hXk hXn dX4_cloth_146 rfl (by rw [show σ.row 11 = num tok 1 from (hG 1 (by omega)).1]; rfl) (fun H h9 => ⟨σ, hC, h9⟩)
  by_cases h8 : k = 8
  · subst h8
    refine j_table S 147 dX4_cloth_1 (by decide) (by decide) rfl (by decide) ?_
    refine j_aload_n S dX4_cloth_147 rfl ?_
    refine j_get S (C := RX4) (T := TX4) (N := 7) (by decide +kernel) rd_loom rfl (v := .ref (Z.ad (co 0))) 3 (by decide) (by decide +kernel) rfl rfl dX4_cloth_148 ?_
    refine j_getN S (C := RX0) (T := TX0) (N := 2) (by decide +kernel) (rd_cloth (by omega)) rfl (v := .ref (Z.ad (ro 2))) 0 (by decide) 0 rfl rfl rfl dX4_cloth_151 ?_
    refine j_cVi S (n := 0) (rest := []) (k_X3_countDistinct X.l Z X.A hAX σ 2 (by omega)) ⟨_, _, _, _, rfl, gX4_cloth_X3_countDistinct, rfl, rfl, by decide +kernel, ⟨Nat.le_of_ble_eq_true rfl, Nat.le_of_ble_eq_true rfl⟩⟩ (rd_row (by omega)) rfl rfl (Nat.le_of_ble_eq_true rfl) rfl dX4_cloth_154 (fun v9 hv9 => ?_)
    subst hv9
    show J X 2 (Wd Z σ) 157 [some (.ref (Z.ad 0)), some (.int (nI 8))] [.int (distinctI (σ.row 2))]
    exact j_ireturn S hRT hXA hQ hXk hXn dX4_cloth_157 rfl (by rw [hEE]; rfl) (fun H h9 => ⟨σ, hC, h9⟩)
  obtain rfl : k = 9 := by omega
  · skip
    refine j_table S 158 dX4_cloth_1 (by decide) (by decide) rfl (by decide) ?_
    refine j_aload_n S dX4_cloth_158 rfl ?_
    refine j_get S (C := RX4) (T := TX4) (N := 7) (by decide +kernel) rd_loom rfl (v := .ref (Z.ad (co 0))) 3 (by decide) (by decide +kernel) rfl rfl dX4_cloth_159 ?_
    refine j_getN S (C := RX0) (T := TX0) (N := 2) (by decide +kernel) (rd_cloth (by omega)) rfl (v := .ref (Z.ad (ro 3))) 1 (by decide) 1 rfl rfl rfl dX4_cloth_162 ?_
    refine j_cVi S (n := 0) (rest := []) (k_X3_countDistinct X.l Z X.A hAX σ 3 (by omega)) ⟨_, _, _, _, rfl, gX4_cloth_X3_countDistinct, rfl, rfl, by decide +kernel, ⟨Nat.le_of_ble_eq_true rfl, Nat.le_of_ble_eq_true rfl⟩⟩ (rd_row (by omega)) rfl rfl (Nat.le_of_ble_eq_true rfl) rfl dX4_cloth_165 (fun v9 hv9 => ?_)
    subst hv9
    show J X 2 (Wd Z σ) 168 [some (.ref (Z.ad 0)), some (.int (nI 9))] [.int (distinctI (σ.row 3))]
    exact j_ireturn S hRT hXA hQ hXk hXn dX4_cloth_168 rfl (by rw [hPP]; rfl) (fun H h9 => ⟨σ, hC, h9⟩)

set_option maxRecDepth 100000 in
set_option maxHeartbeats 4000000 in
theorem k_X4_floats (l : Launch) (Z : Zx) (A : Nat → Prop) (hA : AdOk Z A) (tok : Nat → List Int32) (ties : List Int32) (m : Nat) (hm1 : 1 ≤ m) (hm2 : m ≤ 32) : Km l Z A yX4_floats wsX4_floats { frames := 3, cells := 0, slots := 0, locals := 67 } (WL Z tok ties) [.ref (Z.ad 0), .int (nI m)] (Qi (WL Z tok ties) A (fun v => v = floatsI (EE tok ties) (PP tok ties) m)) := by
  refine Km.of (cc := cX4_floats) (maxL := 2) (ret := (some .int)) (by decide) rfl (Nat.le_of_ble_eq_true rfl) hA ?_
  intro X hXl S hAX hRT hXA hQ hXk hXn
  show J X 2 (WL Z tok ties) 0 [some (.ref (Z.ad 0)), some (.int (nI m))] []
  refine J.WL (fun σ hC => ?_)
  obtain ⟨hH, hG, hEE, hPP⟩ := id hC
  refine j_iload_n S dX4_floats_0 rfl ?_
  refine j_cSv S (n := 1) (rest := []) (k_X4_checkLength X.l Z X.A hAX σ m hm1 hm2) ⟨_, _, _, _, rfl, gX4_floats_X4_checkLength, rfl, rfl, by decide +kernel, ⟨Nat.le_of_ble_eq_true rfl, Nat.le_of_ble_eq_true rfl⟩⟩ rfl (Nat.le_of_ble_eq_true rfl) rfl dX4_floats_1 ?_
  show J X 2 (Wd Z σ) 4 [some (.ref (Z.ad 0)), some (.int (nI m))] []
  refine j_aload_n S dX4_floats_4 rfl ?_
  refine j_get S (C := RX4) (T := TX4) (N := 7) (by decide +kernel) rd_loom rfl (v := .ref (Z.ad (co 0))) 3 (by decide) (by decide +kernel) rfl rfl dX4_floats_5 ?_
  refine j_iload_n S dX4_floats_8 rfl ?_
  refine j_cVi S (n := 1) (rest := []) (k_X0_countFloats X.l Z X.A hAX σ 0 (by omega) m (by omega)) ⟨_, _, _, _, rfl, gX4_floats_X0_countFloats, rfl, rfl, by decide +kernel, ⟨Nat.le_of_ble_eq_true rfl, Nat.le_of_ble_eq_true rfl⟩⟩ (rd_cloth (by omega)) rfl rfl (Nat.le_of_ble_eq_true rfl) rfl dX4_floats_9 (fun v9 hv9 => ?_)
  subst hv9
  show J X 2 (Wd Z σ) 12 [some (.ref (Z.ad 0)), some (.int (nI m))] [.int (countRunsI (σ.row 2) m + countRunsI (σ.row 3) m)]
  exact j_ireturn S hRT hXA hQ hXk hXn dX4_floats_12 rfl (by rw [hEE, hPP]; rfl) (fun H h9 => ⟨σ, hC, h9⟩)

set_option maxRecDepth 100000 in
set_option maxHeartbeats 4000000 in
theorem k_X4_where (l : Launch) (Z : Zx) (A : Nat → Prop) (hA : AdOk Z A) (tok : Nat → List Int32) (ties : List Int32) (m : Nat) (hm1 : 1 ≤ m) (hm2 : m ≤ 32) (b : Bool) : Km l Z A yX4_where wsX4_where { frames := 2, cells := 0, slots := 0, locals := 45 } (WL Z tok ties) [.ref (Z.ad 0), .int (nI m), .int (b2i b)] (Qi (WL Z tok ties) A (fun v => v = whereI (EE tok ties) (PP tok ties) m b)) := by
  refine Km.of (cc := cX4_where) (maxL := 6) (ret := (some .int)) (by decide) rfl (Nat.le_of_ble_eq_true rfl) hA ?_
  intro X hXl S hAX hRT hXA hQ hXk hXn
  show J X 6 (WL Z tok ties) 0 [some (.ref (Z.ad 0)), some (.int (nI m)), some (.int (b2i b)), none, none, none] []
  refine J.WL (fun σ hC => ?_)
  obtain ⟨hH, hG, hEE, hPP⟩ := id hC
  refine J.caps (fun hcap => ?_)
  have hE32 : (σ.row 2).length ≤ 32 := hcap 2 (by omega)
  have hP32 : (σ.row 3).length ≤ 32 := hcap 3 (by omega)
  refine j_iload_n S dX4_where_0 rfl ?_
  refine j_cSv S (n := 1) (rest := []) (k_X4_checkLength X.l Z X.A hAX σ m hm1 hm2) ⟨_, _, _, _, rfl, gX4_where_X4_checkLength, rfl, rfl, by decide +kernel, ⟨Nat.le_of_ble_eq_true rfl, Nat.le_of_ble_eq_true rfl⟩⟩ rfl (Nat.le_of_ble_eq_true rfl) rfl dX4_where_1 ?_
  show J X 6 (Wd Z σ) 4 [some (.ref (Z.ad 0)), some (.int (nI m)), some (.int (b2i b)), none, none, none] []
  refine j_iload_n S dX4_where_4 rfl ?_
  refine j_if_eq S 18 dX4_where_5 (by decide) (fun h => ?_) (fun h => ?_)
  · skip
    have hb : b = false := b2i_0.mp h
    refine j_aload_n S dX4_where_18 rfl ?_
    refine j_get S (C := RX4) (T := TX4) (N := 7) (by decide +kernel) rd_loom rfl (v := .ref (Z.ad (co 0))) 3 (by decide) (by decide +kernel) rfl rfl dX4_where_19 ?_
    refine j_getN S (C := RX0) (T := TX0) (N := 2) (by decide +kernel) (rd_cloth (by omega)) rfl (v := .ref (Z.ad (ro 3))) 1 (by decide) 1 rfl rfl rfl dX4_where_22 ?_
    refine j_astore_n S [some (.ref (Z.ad 0)), some (.int (nI m)), some (.int (b2i b)), some (.ref (Z.ad (ro 3))), none, none] dX4_where_25 (by decide) rfl rfl ?_
    refine j_aload_n S dX4_where_26 rfl ?_
    refine j_iload_n S dX4_where_27 rfl ?_
    refine j_cVi S (n := 1) (rest := []) (k_X3_firstWithRun X.l Z X.A hAX σ 3 (by omega) m (by omega)) ⟨_, _, _, _, rfl, gX4_where_X3_firstWithRun, rfl, rfl, by decide +kernel, ⟨Nat.le_of_ble_eq_true rfl, Nat.le_of_ble_eq_true rfl⟩⟩ (rd_row (by omega)) rfl rfl (Nat.le_of_ble_eq_true rfl) rfl dX4_where_28 (fun v9 hv9 => ?_)
    subst hv9
    show J X 6 (Wd Z σ) 31 [some (.ref (Z.ad 0)), some (.int (nI m)), some (.int (b2i b)), some (.ref (Z.ad (ro 3))), none, none] [.int (firstRunI (σ.row 3) m)]
    refine j_istore S [some (.ref (Z.ad 0)), some (.int (nI m)), some (.int (b2i b)), some (.ref (Z.ad (ro 3))), some (.int (firstRunI (σ.row 3) m)), none] dX4_where_31 (by decide) rfl rfl ?_
    refine j_iload S dX4_where_33 rfl ?_
    refine j_if_ge S 40 dX4_where_35 (by decide) (fun h2 => ?_) (fun h2 => ?_)
    · skip
      have hn : ¬ firstRunI (if b = true then (EE tok ties) else (PP tok ties)) m < 0 := by rw [hb]; rw [hPP] at h2; exact Int32.not_lt.mpr h2
      refine j_aload_n S dX4_where_40 rfl ?_
      refine j_iload S dX4_where_41 rfl ?_
      refine j_cVi S (n := 1) (rest := []) (k_X3_at X.l Z X.A hAX σ 3 (by omega) (firstRunI (σ.row 3) m)) ⟨_, _, _, _, rfl, gX4_where_X3_at, rfl, rfl, by decide +kernel, ⟨Nat.le_of_ble_eq_true rfl, Nat.le_of_ble_eq_true rfl⟩⟩ (rd_row (by omega)) rfl rfl (Nat.le_of_ble_eq_true rfl) rfl dX4_where_43 (fun v9 hv9 => ?_)
      subst hv9
      show J X 6 (Wd Z σ) 46 [some (.ref (Z.ad 0)), some (.int (nI m)), some (.int (b2i b)), some (.ref (Z.ad (ro 3))), some (.int (firstRunI (σ.row 3) m)), none] [.int (atI (σ.row 3) (firstRunI (σ.row 3) m))]
      refine j_iload_n S dX4_where_46 rfl ?_
      refine j_cSi S (n := 2) (rest := []) (k_X4_runStarts X.l Z X.A hAX σ (atI (σ.row 3) (firstRunI (σ.row 3) m)) m (by omega)) ⟨_, _, _, _, rfl, gX4_where_X4_runStarts, rfl, rfl, by decide +kernel, ⟨Nat.le_of_ble_eq_true rfl, Nat.le_of_ble_eq_true rfl⟩⟩ rfl (Nat.le_of_ble_eq_true rfl) rfl dX4_where_47 (fun v9 hv9 => ?_)
      subst hv9
      show J X 6 (Wd Z σ) 50 [some (.ref (Z.ad 0)), some (.int (nI m)), some (.int (b2i b)), some (.ref (Z.ad (ro 3))), some (.int (firstRunI (σ.row 3) m)), none] [.int (runS (atI (σ.row 3) (firstRunI (σ.row 3) m)) m)]
      refine j_cSi S (n := 1) (rest := []) (k_X4_firstBit X.l Z X.A hAX σ (runS (atI (σ.row 3) (firstRunI (σ.row 3) m)) m)) ⟨_, _, _, _, rfl, gX4_where_X4_firstBit, rfl, rfl, by decide +kernel, ⟨Nat.le_of_ble_eq_true rfl, Nat.le_of_ble_eq_true rfl⟩⟩ rfl (Nat.le_of_ble_eq_true rfl) rfl dX4_where_50 (fun v9 hv9 => ?_)
      subst hv9
      show J X 6 (Wd Z σ) 53 [some (.ref (Z.ad 0)), some (.int (nI m)), some (.int (b2i b)), some (.ref (Z.ad (ro 3))), some (.int (firstRunI (σ.row 3) m)), none] [.int (firstI (runS (atI (σ.row 3) (firstRunI (σ.row 3) m)) m))]
      refine j_istore S [some (.ref (Z.ad 0)), some (.int (nI m)), some (.int (b2i b)), some (.ref (Z.ad (ro 3))), some (.int (firstRunI (σ.row 3) m)), some (.int (firstI (runS (atI (σ.row 3) (firstRunI (σ.row 3) m)) m)))] dX4_where_53 (by decide) rfl rfl ?_
      refine j_iload_n S dX4_where_55 rfl ?_
      refine j_if_eq S 70 dX4_where_56 (by decide) (fun _ => ?_) (fun h9 => absurd (by rw [hb]; rfl) h9)
      refine j_bipush S 100 dX4_where_70 (by decide) ?_
      refine j_iload S dX4_where_72 rfl ?_
      refine j_imul S (100 * (firstI (runS (atI (σ.row 3) (firstRunI (σ.row 3) m)) m))) dX4_where_74 rfl ?_
      refine j_iload S dX4_where_75 rfl ?_
      refine j_iadd S ((100 * (firstI (runS (atI (σ.row 3) (firstRunI (σ.row 3) m)) m))) + (firstRunI (σ.row 3) m)) dX4_where_77 rfl ?_
      exact j_ireturn S hRT hXA hQ hXk hXn dX4_where_78 rfl (by rw [hPP]; unfold whereI; rw [if_neg hn, hb]; rfl) (fun H h9 => ⟨σ, hC, h9⟩)
    · skip
      have hn : firstRunI (if b = true then (EE tok ties) else (PP tok ties)) m < 0 := by rw [hb]; rw [hPP] at h2; exact Int32.not_le.mp h2
      refine j_iconst S (-1) dX4_where_38 (by decide) ?_
      exact j_ireturn S hRT hXA hQ hXk hXn dX4_where_39 rfl (by unfold whereI; rw [if_pos hn]) (fun H h9 => ⟨σ, hC, h9⟩)
  · skip
    have hb : b = true := b2i_n0.mp h
    refine j_aload_n S dX4_where_8 rfl ?_
    refine j_get S (C := RX4) (T := TX4) (N := 7) (by decide +kernel) rd_loom rfl (v := .ref (Z.ad (co 0))) 3 (by decide) (by decide +kernel) rfl rfl dX4_where_9 ?_
    refine j_getN S (C := RX0) (T := TX0) (N := 2) (by decide +kernel) (rd_cloth (by omega)) rfl (v := .ref (Z.ad (ro 2))) 0 (by decide) 0 rfl rfl rfl dX4_where_12 ?_
    refine j_goto S 25 dX4_where_15 (by decide) ?_
    refine j_astore_n S [some (.ref (Z.ad 0)), some (.int (nI m)), some (.int (b2i b)), some (.ref (Z.ad (ro 2))), none, none] dX4_where_25 (by decide) rfl rfl ?_
    refine j_aload_n S dX4_where_26 rfl ?_
    refine j_iload_n S dX4_where_27 rfl ?_
    refine j_cVi S (n := 1) (rest := []) (k_X3_firstWithRun X.l Z X.A hAX σ 2 (by omega) m (by omega)) ⟨_, _, _, _, rfl, gX4_where_X3_firstWithRun, rfl, rfl, by decide +kernel, ⟨Nat.le_of_ble_eq_true rfl, Nat.le_of_ble_eq_true rfl⟩⟩ (rd_row (by omega)) rfl rfl (Nat.le_of_ble_eq_true rfl) rfl dX4_where_28 (fun v9 hv9 => ?_)
    subst hv9
    show J X 6 (Wd Z σ) 31 [some (.ref (Z.ad 0)), some (.int (nI m)), some (.int (b2i b)), some (.ref (Z.ad (ro 2))), none, none] [.int (firstRunI (σ.row 2) m)]
    refine j_istore S [some (.ref (Z.ad 0)), some (.int (nI m)), some (.int (b2i b)), some (.ref (Z.ad (ro 2))), some (.int (firstRunI (σ.row 2) m)), none] dX4_where_31 (by decide) rfl rfl ?_
    refine j_iload S dX4_where_33 rfl ?_
    refine j_if_ge S 40 dX4_where_35 (by decide) (fun h2 => ?_) (fun h2 => ?_)
    · skip
      have hn : ¬ firstRunI (if b = true then (EE tok ties) else (PP tok ties)) m < 0 := by rw [hb]; rw [hEE] at h2; exact Int32.not_lt.mpr h2
      refine j_aload_n S dX4_where_40 rfl ?_
      refine j_iload S dX4_where_41 rfl ?_
      refine j_cVi S (n := 1) (rest := []) (k_X3_at X.l Z X.A hAX σ 2 (by omega) (firstRunI (σ.row 2) m)) ⟨_, _, _, _, rfl, gX4_where_X3_at, rfl, rfl, by decide +kernel, ⟨Nat.le_of_ble_eq_true rfl, Nat.le_of_ble_eq_true rfl⟩⟩ (rd_row (by omega)) rfl rfl (Nat.le_of_ble_eq_true rfl) rfl dX4_where_43 (fun v9 hv9 => ?_)
      subst hv9
      show J X 6 (Wd Z σ) 46 [some (.ref (Z.ad 0)), some (.int (nI m)), some (.int (b2i b)), some (.ref (Z.ad (ro 2))), some (.int (firstRunI (σ.row 2) m)), none] [.int (atI (σ.row 2) (firstRunI (σ.row 2) m))]
      refine j_iload_n S dX4_where_46 rfl ?_
      refine j_cSi S (n := 2) (rest := []) (k_X4_runStarts X.l Z X.A hAX σ (atI (σ.row 2) (firstRunI (σ.row 2) m)) m (by omega)) ⟨_, _, _, _, rfl, gX4_where_X4_runStarts, rfl, rfl, by decide +kernel, ⟨Nat.le_of_ble_eq_true rfl, Nat.le_of_ble_eq_true rfl⟩⟩ rfl (Nat.le_of_ble_eq_true rfl) rfl dX4_where_47 (fun v9 hv9 => ?_)
      subst hv9
      show J X 6 (Wd Z σ) 50 [some (.ref (Z.ad 0)), some (.int (nI m)), some (.int (b2i b)), some (.ref (Z.ad (ro 2))), some (.int (firstRunI (σ.row 2) m)), none] [.int (runS (atI (σ.row 2) (firstRunI (σ.row 2) m)) m)]
      refine j_cSi S (n := 1) (rest := []) (k_X4_firstBit X.l Z X.A hAX σ (runS (atI (σ.row 2) (firstRunI (σ.row 2) m)) m)) ⟨_, _, _, _, rfl, gX4_where_X4_firstBit, rfl, rfl, by decide +kernel, ⟨Nat.le_of_ble_eq_true rfl, Nat.le_of_ble_eq_true rfl⟩⟩ rfl (Nat.le_of_ble_eq_true rfl) rfl dX4_where_50 (fun v9 hv9 => ?_)
      subst hv9
      show J X 6 (Wd Z σ) 53 [some (.ref (Z.ad 0)), some (.int (nI m)), some (.int (b2i b)), some (.ref (Z.ad (ro 2))), some (.int (firstRunI (σ.row 2) m)), none] [.int (firstI (runS (atI (σ.row 2) (firstRunI (σ.row 2) m)) m))]
      refine j_istore S [some (.ref (Z.ad 0)), some (.int (nI m)), some (.int (b2i b)), some (.ref (Z.ad (ro 2))), some (.int (firstRunI (σ.row 2) m)), some (.int (firstI (runS (atI (σ.row 2) (firstRunI (σ.row 2) m)) m)))] dX4_where_53 (by decide) rfl rfl ?_
      refine j_iload_n S dX4_where_55 rfl ?_
      refine j_if_eq S 70 dX4_where_56 (by decide) (fun h9 => absurd h9 (by rw [hb]; decide)) (fun _ => ?_)
      refine j_bipush S 100 dX4_where_59 (by decide) ?_
      refine j_iload S dX4_where_61 rfl ?_
      refine j_imul S (100 * (firstRunI (σ.row 2) m)) dX4_where_63 rfl ?_
      refine j_iload S dX4_where_64 rfl ?_
      refine j_iadd S ((100 * (firstRunI (σ.row 2) m)) + (firstI (runS (atI (σ.row 2) (firstRunI (σ.row 2) m)) m))) dX4_where_66 rfl ?_
      refine j_goto S 78 dX4_where_67 (by decide) ?_
      exact j_ireturn S hRT hXA hQ hXk hXn dX4_where_78 rfl (by rw [hEE]; unfold whereI; rw [if_neg hn, hb]; rfl) (fun H h9 => ⟨σ, hC, h9⟩)
    · skip
      have hn : firstRunI (if b = true then (EE tok ties) else (PP tok ties)) m < 0 := by rw [hb]; rw [hEE] at h2; exact Int32.not_le.mp h2
      refine j_iconst S (-1) dX4_where_38 (by decide) ?_
      exact j_ireturn S hRT hXA hQ hXk hXn dX4_where_39 rfl (by unfold whereI; rw [if_pos hn]) (fun H h9 => ⟨σ, hC, h9⟩)

set_option maxRecDepth 100000 in
set_option maxHeartbeats 4000000 in
theorem k_X4_colourAt (l : Launch) (Z : Zx) (A : Nat → Prop) (hA : AdOk Z A) (σ : St) (tok : Nat → List Int32) (ties : List Int32) (hC : Cons σ tok ties) (x y : Nat) (hx : x < 32) (hy : y < 32) : Km l Z A yX4_colourAt wsX4_colourAt { frames := 2, cells := 0, slots := 0, locals := 43 } (Wd Z σ) [.ref (Z.ad 0), .int (nI x), .int (nI y)] (Qi (Wd Z σ) A (fun v => v = colourI tok ties x y)) := by
  refine Km.of (cc := cX4_colourAt) (maxL := 3) (ret := (some .int)) (by decide) rfl (Nat.le_of_ble_eq_true rfl) hA ?_
  intro X hXl S hAX hRT hXA hQ hXk hXn
  show J X 3 (Wd Z σ) 0 [some (.ref (Z.ad 0)), some (.int (nI x)), some (.int (nI y))] []
  obtain ⟨hH, hG, hEE, hPP⟩ := id hC
  refine j_aload_n S dX4_colourAt_0 rfl ?_
  refine j_get S (C := RX4) (T := TX4) (N := 7) (by decide +kernel) rd_loom rfl (v := .ref (Z.ad (co 0))) 3 (by decide) (by decide +kernel) rfl rfl dX4_colourAt_1 ?_
  refine j_iload_n S dX4_colourAt_4 rfl ?_
  refine j_iload_n S dX4_colourAt_5 rfl ?_
  refine j_cVi S (n := 2) (rest := []) (k_X0_isUp X.l Z X.A hAX σ 0 (by omega) x y (by omega)) ⟨_, _, _, _, rfl, gX4_colourAt_X0_isUp, rfl, rfl, by decide +kernel, ⟨Nat.le_of_ble_eq_true rfl, Nat.le_of_ble_eq_true rfl⟩⟩ (rd_cloth (by omega)) rfl rfl (Nat.le_of_ble_eq_true rfl) rfl dX4_colourAt_6 (fun v9 hv9 => ?_)
  subst hv9
  show J X 3 (Wd Z σ) 9 [some (.ref (Z.ad 0)), some (.int (nI x)), some (.int (nI y))] [.int (b2i (isUpI (σ.row 2) x y))]
  refine j_if_eq S 28 dX4_colourAt_9 (by decide) (fun h => ?_) (fun h => ?_)
  · skip
    refine j_aload_n S dX4_colourAt_28 rfl ?_
    refine j_get S (C := RX4) (T := TX4) (N := 7) (by decide +kernel) rd_loom rfl (v := .ref (Z.ad 1)) 0 (by decide) (by decide +kernel) rfl rfl dX4_colourAt_29 ?_
    refine j_iconst S 3 dX4_colourAt_32 (by decide) ?_
    refine j_aaload S (v := Z.ad (po 3)) rd_progs (show vp_in (nI 3) 10 from vp_in_nI (by decide) (by decide)) rfl dX4_colourAt_33 ?_
    refine j_getN S (C := RX2) (T := TX2) (N := 4) (by decide +kernel) (rd_prog (by omega)) rfl (v := .ref (Z.ad (ro 15))) 1 (by decide) 4 rfl rfl rfl dX4_colourAt_34 ?_
    refine j_iload_n S dX4_colourAt_37 rfl ?_
    refine j_cVi S (n := 1) (rest := []) (k_X3_atRound X.l Z X.A hAX σ 15 (by omega) y (by omega)) ⟨_, _, _, _, rfl, gX4_colourAt_X3_atRound, rfl, rfl, by decide +kernel, ⟨Nat.le_of_ble_eq_true rfl, Nat.le_of_ble_eq_true rfl⟩⟩ (rd_row (by omega)) rfl rfl (Nat.le_of_ble_eq_true rfl) rfl dX4_colourAt_38 (fun v9 hv9 => ?_)
    subst hv9
    show J X 3 (Wd Z σ) 41 [some (.ref (Z.ad 0)), some (.int (nI x)), some (.int (nI y))] [.int ((σ.row 15).getD (y % (σ.row 15).length) 0)]
    exact j_ireturn S hRT hXA hQ hXk hXn dX4_colourAt_41 rfl (by unfold colourI; rw [← hEE, if_neg (by rw [b2i_0.mp h]; decide), show σ.row 15 = num tok 3 from (hG 3 (by omega)).1]) (fun H h => h)
  · skip
    refine j_aload_n S dX4_colourAt_12 rfl ?_
    refine j_get S (C := RX4) (T := TX4) (N := 7) (by decide +kernel) rd_loom rfl (v := .ref (Z.ad 1)) 0 (by decide) (by decide +kernel) rfl rfl dX4_colourAt_13 ?_
    refine j_iconst S 2 dX4_colourAt_16 (by decide) ?_
    refine j_aaload S (v := Z.ad (po 2)) rd_progs (show vp_in (nI 2) 10 from vp_in_nI (by decide) (by decide)) rfl dX4_colourAt_17 ?_
    refine j_getN S (C := RX2) (T := TX2) (N := 4) (by decide +kernel) (rd_prog (by omega)) rfl (v := .ref (Z.ad (ro 13))) 1 (by decide) 4 rfl rfl rfl dX4_colourAt_18 ?_
    refine j_iload_n S dX4_colourAt_21 rfl ?_
    refine j_cVi S (n := 1) (rest := []) (k_X3_atRound X.l Z X.A hAX σ 13 (by omega) x (by omega)) ⟨_, _, _, _, rfl, gX4_colourAt_X3_atRound, rfl, rfl, by decide +kernel, ⟨Nat.le_of_ble_eq_true rfl, Nat.le_of_ble_eq_true rfl⟩⟩ (rd_row (by omega)) rfl rfl (Nat.le_of_ble_eq_true rfl) rfl dX4_colourAt_22 (fun v9 hv9 => ?_)
    subst hv9
    show J X 3 (Wd Z σ) 25 [some (.ref (Z.ad 0)), some (.int (nI x)), some (.int (nI y))] [.int ((σ.row 13).getD (x % (σ.row 13).length) 0)]
    refine j_goto S 41 dX4_colourAt_25 (by decide) ?_
    exact j_ireturn S hRT hXA hQ hXk hXn dX4_colourAt_41 rfl (by unfold colourI; rw [← hEE, if_pos (b2i_n0.mp h), show σ.row 13 = num tok 2 from (hG 2 (by omega)).1]) (fun H h => h)

set_option maxRecDepth 100000 in
set_option maxHeartbeats 4000000 in
theorem k_X4_checkEnd (l : Launch) (Z : Zx) (A : Nat → Prop) (hA : AdOk Z A) (σ : St) (tok : Nat → List Int32) (ties : List Int32) (hC : Cons σ tok ties) (k : Nat) (hk : k < (σ.row 2).length) : Km l Z A yX4_checkEnd wsX4_checkEnd { frames := 0, cells := 0, slots := 0, locals := 0 } (Wd Z σ) [.ref (Z.ad 0), .int (nI k)] (Qv (Wd Z σ) A) := by
  refine Km.of (cc := cX4_checkEnd) (maxL := 2) (ret := none) (by decide) rfl (Nat.le_of_ble_eq_true rfl) hA ?_
  intro X hXl S hAX hRT hXA hQ hXk hXn
  show J X 2 (Wd Z σ) 0 [some (.ref (Z.ad 0)), some (.int (nI k))] []
  obtain ⟨hH, hG, hEE, hPP⟩ := id hC
  refine J.caps (fun hcap => ?_)
  have h32 : (σ.row 2).length ≤ 32 := hcap 2 (by omega)
  refine j_iload_n S dX4_checkEnd_0 rfl ?_
  refine j_if_lt S 18 dX4_checkEnd_1 (by decide) (fun h9 => absurd h9 (nI_pos (by omega))) (fun _ => ?_)
  refine j_iload_n S dX4_checkEnd_4 rfl ?_
  refine j_aload_n S dX4_checkEnd_5 rfl ?_
  refine j_get S (C := RX4) (T := TX4) (N := 7) (by decide +kernel) rd_loom rfl (v := .ref (Z.ad (co 0))) 3 (by decide) (by decide +kernel) rfl rfl dX4_checkEnd_6 ?_
  refine j_getN S (C := RX0) (T := TX0) (N := 2) (by decide +kernel) (rd_cloth (by omega)) rfl (v := .ref (Z.ad (ro 2))) 0 (by decide) 0 rfl rfl rfl dX4_checkEnd_9 ?_
  refine j_getN S (C := RX3) (T := TX3) (N := 2) (by decide +kernel) (rd_row (by omega)) rfl (v := .int (nI (σ.row 2).length)) 1 (by decide) 3 rfl rfl rfl dX4_checkEnd_12 ?_
  refine j_icmp_lt S 28 dX4_checkEnd_15 (by decide) (fun _ => ?_) (fun h9 => absurd (by rw [nI_ltI (by omega) (by omega)]; exact hk) h9)
  exact j_return S hRT hXA hQ hXk hXn dX4_checkEnd_28 (fun H h => h)

set_option maxRecDepth 100000 in
set_option maxHeartbeats 4000000 in
theorem k_X4_checkPick (l : Launch) (Z : Zx) (A : Nat → Prop) (hA : AdOk Z A) (σ : St) (tok : Nat → List Int32) (ties : List Int32) (hC : Cons σ tok ties) (k : Nat) (hk : k < (σ.row 3).length) : Km l Z A yX4_checkPick wsX4_checkPick { frames := 0, cells := 0, slots := 0, locals := 0 } (Wd Z σ) [.ref (Z.ad 0), .int (nI k)] (Qv (Wd Z σ) A) := by
  refine Km.of (cc := cX4_checkPick) (maxL := 2) (ret := none) (by decide) rfl (Nat.le_of_ble_eq_true rfl) hA ?_
  intro X hXl S hAX hRT hXA hQ hXk hXn
  show J X 2 (Wd Z σ) 0 [some (.ref (Z.ad 0)), some (.int (nI k))] []
  obtain ⟨hH, hG, hEE, hPP⟩ := id hC
  refine J.caps (fun hcap => ?_)
  have h32 : (σ.row 3).length ≤ 32 := hcap 3 (by omega)
  refine j_iload_n S dX4_checkPick_0 rfl ?_
  refine j_if_lt S 18 dX4_checkPick_1 (by decide) (fun h9 => absurd h9 (nI_pos (by omega))) (fun _ => ?_)
  refine j_iload_n S dX4_checkPick_4 rfl ?_
  refine j_aload_n S dX4_checkPick_5 rfl ?_
  refine j_get S (C := RX4) (T := TX4) (N := 7) (by decide +kernel) rd_loom rfl (v := .ref (Z.ad (co 0))) 3 (by decide) (by decide +kernel) rfl rfl dX4_checkPick_6 ?_
  refine j_getN S (C := RX0) (T := TX0) (N := 2) (by decide +kernel) (rd_cloth (by omega)) rfl (v := .ref (Z.ad (ro 3))) 1 (by decide) 1 rfl rfl rfl dX4_checkPick_9 ?_
  refine j_getN S (C := RX3) (T := TX3) (N := 2) (by decide +kernel) (rd_row (by omega)) rfl (v := .int (nI (σ.row 3).length)) 1 (by decide) 3 rfl rfl rfl dX4_checkPick_12 ?_
  refine j_icmp_lt S 28 dX4_checkPick_15 (by decide) (fun _ => ?_) (fun h9 => absurd (by rw [nI_ltI (by omega) (by omega)]; exact hk) h9)
  exact j_return S hRT hXA hQ hXk hXn dX4_checkPick_28 (fun H h => h)

set_option maxRecDepth 100000 in
set_option maxHeartbeats 4000000 in
theorem k_X4_field (l : Launch) (Z : Zx) (A : Nat → Prop) (hA : AdOk Z A) (tok : Nat → List Int32) (ties : List Int32) (x y k : Nat) (hx : x < (EE tok ties).length) (hy : y < (PP tok ties).length) (hk : k ≤ 2) : Km l Z A yX4_field wsX4_field { frames := 3, cells := 0, slots := 0, locals := 66 } (WL Z tok ties) [.ref (Z.ad 0), .int (nI x), .int (nI y), .int (nI k)] (Qi (WL Z tok ties) A (fun v => v = fieldI tok ties x y k)) := by
  refine Km.of (cc := cX4_field) (maxL := 4) (ret := (some .int)) (by decide) rfl (Nat.le_of_ble_eq_true rfl) hA ?_
  intro X hXl S hAX hRT hXA hQ hXk hXn
  show J X 4 (WL Z tok ties) 0 [some (.ref (Z.ad 0)), some (.int (nI x)), some (.int (nI y)), some (.int (nI k))] []
  refine J.WL (fun σ hC => ?_)
  obtain ⟨hH, hG, hEE, hPP⟩ := id hC
  refine J.caps (fun hcap => ?_)
  have hE32 : (σ.row 2).length ≤ 32 := hcap 2 (by omega)
  have hP32 : (σ.row 3).length ≤ 32 := hcap 3 (by omega)
  rw [hEE] at hE32
  rw [hPP] at hP32
  refine j_aload_n S dX4_field_0 rfl ?_
  refine j_iload_n S dX4_field_1 rfl ?_
  refine j_cVv S (n := 1) (rest := []) (k_X4_checkEnd X.l Z X.A hAX σ tok ties hC x (by rw [hEE]; exact hx)) ⟨_, _, _, _, rfl, gX4_field_X4_checkEnd, rfl, rfl, by decide +kernel, ⟨Nat.le_of_ble_eq_true rfl, Nat.le_of_ble_eq_true rfl⟩⟩ rd_loom rfl rfl (Nat.le_of_ble_eq_true rfl) rfl dX4_field_2 ?_
  show J X 4 (Wd Z σ) 5 [some (.ref (Z.ad 0)), some (.int (nI x)), some (.int (nI y)), some (.int (nI k))] []
  refine j_aload_n S dX4_field_5 rfl ?_
  refine j_iload_n S dX4_field_6 rfl ?_
  refine j_cVv S (n := 1) (rest := []) (k_X4_checkPick X.l Z X.A hAX σ tok ties hC y (by rw [hPP]; exact hy)) ⟨_, _, _, _, rfl, gX4_field_X4_checkPick, rfl, rfl, by decide +kernel, ⟨Nat.le_of_ble_eq_true rfl, Nat.le_of_ble_eq_true rfl⟩⟩ rd_loom rfl rfl (Nat.le_of_ble_eq_true rfl) rfl dX4_field_7 ?_
  show J X 4 (Wd Z σ) 10 [some (.ref (Z.ad 0)), some (.int (nI x)), some (.int (nI y)), some (.int (nI k))] []
  refine j_iload_n S dX4_field_10 rfl ?_
  by_cases h0 : k = 0
  · subst h0
    refine j_table S 36 dX4_field_11 (by decide) (by decide) rfl (by decide) ?_
    refine j_aload_n S dX4_field_36 rfl ?_
    refine j_get S (C := RX4) (T := TX4) (N := 7) (by decide +kernel) rd_loom rfl (v := .ref (Z.ad (co 0))) 3 (by decide) (by decide +kernel) rfl rfl dX4_field_37 ?_
    refine j_iload_n S dX4_field_40 rfl ?_
    refine j_iload_n S dX4_field_41 rfl ?_
    refine j_cVi S (n := 2) (rest := []) (k_X0_isUp X.l Z X.A hAX σ 0 (by omega) x y (by omega)) ⟨_, _, _, _, rfl, gX4_field_X0_isUp, rfl, rfl, by decide +kernel, ⟨Nat.le_of_ble_eq_true rfl, Nat.le_of_ble_eq_true rfl⟩⟩ (rd_cloth (by omega)) rfl rfl (Nat.le_of_ble_eq_true rfl) rfl dX4_field_42 (fun v9 hv9 => ?_)
    subst hv9
    show J X 4 (Wd Z σ) 45 [some (.ref (Z.ad 0)), some (.int (nI x)), some (.int (nI y)), some (.int (nI 0))] [.int (b2i (isUpI (σ.row 2) x y))]
    refine j_if_eq S 52 dX4_field_45 (by decide) (fun h => ?_) (fun h => ?_)
    · skip
      refine j_iconst S 0 dX4_field_52 (by decide) ?_
      exact j_ireturn S hRT hXA hQ hXk hXn dX4_field_53 rfl (by rw [hEE] at h; show (0 : Int32) = b2i (isUpI (EE tok ties) x y); rw [b2i_0.mp h]; rfl) (fun H h9 => ⟨σ, hC, h9⟩)
    · skip
      refine j_iconst S 1 dX4_field_48 (by decide) ?_
      refine j_goto S 53 dX4_field_49 (by decide) ?_
      exact j_ireturn S hRT hXA hQ hXk hXn dX4_field_53 rfl (by rw [hEE] at h; show (1 : Int32) = b2i (isUpI (EE tok ties) x y); rw [b2i_n0.mp h]; rfl) (fun H h9 => ⟨σ, hC, h9⟩)
  by_cases h1 : k = 1
  · subst h1
    refine j_table S 54 dX4_field_11 (by decide) (by decide) rfl (by decide) ?_
    refine j_aload_n S dX4_field_54 rfl ?_
    refine j_iload_n S dX4_field_55 rfl ?_
    refine j_iload_n S dX4_field_56 rfl ?_
    refine j_cVi S (n := 2) (rest := []) (k_X4_colourAt X.l Z X.A hAX σ tok ties hC x y (by omega) (by omega)) ⟨_, _, _, _, rfl, gX4_field_X4_colourAt, rfl, rfl, by decide +kernel, ⟨Nat.le_of_ble_eq_true rfl, Nat.le_of_ble_eq_true rfl⟩⟩ rd_loom rfl rfl (Nat.le_of_ble_eq_true rfl) rfl dX4_field_57 (fun v9 hv9 => ?_)
    subst hv9
    show J X 4 (Wd Z σ) 60 [some (.ref (Z.ad 0)), some (.int (nI x)), some (.int (nI y)), some (.int (nI 1))] [.int (colourI tok ties x y)]
    exact j_ireturn S hRT hXA hQ hXk hXn dX4_field_60 rfl rfl (fun H h9 => ⟨σ, hC, h9⟩)
  obtain rfl : k = 2 := by omega
  · skip
    refine j_table S 61 dX4_field_11 (by decide) (by decide) rfl (by decide) ?_
    refine j_aload_n S dX4_field_61 rfl ?_
    refine j_get S (C := RX4) (T := TX4) (N := 7) (by decide +kernel) rd_loom rfl (v := .ref (Z.ad (co 0))) 3 (by decide) (by decide +kernel) rfl rfl dX4_field_62 ?_
    refine j_iload_n S dX4_field_65 rfl ?_
    refine j_iload_n S dX4_field_66 rfl ?_
    refine j_cVi S (n := 2) (rest := []) (k_X0_floatAt X.l Z X.A hAX σ 0 (by omega) x y (by omega) (by omega)) ⟨_, _, _, _, rfl, gX4_field_X0_floatAt, rfl, rfl, by decide +kernel, ⟨Nat.le_of_ble_eq_true rfl, Nat.le_of_ble_eq_true rfl⟩⟩ (rd_cloth (by omega)) rfl rfl (Nat.le_of_ble_eq_true rfl) rfl dX4_field_67 (fun v9 hv9 => ?_)
    subst hv9
    show J X 4 (Wd Z σ) 70 [some (.ref (Z.ad 0)), some (.int (nI x)), some (.int (nI y)), some (.int (nI 2))] [.int (floatI (σ.row 2) (σ.row 3) x y)]
    exact j_ireturn S hRT hXA hQ hXk hXn dX4_field_70 rfl (by rw [hEE, hPP]; rfl) (fun H h9 => ⟨σ, hC, h9⟩)

set_option maxRecDepth 100000 in
set_option maxHeartbeats 4000000 in
theorem k_X4_seen (l : Launch) (Z : Zx) (A : Nat → Prop) (hA : AdOk Z A) (tok : Nat → List Int32) (ties : List Int32) (k : Nat) (hk : k < 8) : Km l Z A yX4_seen wsX4_seen { frames := 3, cells := 0, slots := 0, locals := 65 } (WL Z tok ties) [.ref (Z.ad 0), .int (nI k)] (Qi (WL Z tok ties) A (fun v => v = seenI tok ties (nI k))) := by
  refine Km.of (cc := cX4_seen) (maxL := 5) (ret := (some .int)) (by decide) rfl (Nat.le_of_ble_eq_true rfl) hA ?_
  intro X hXl S hAX hRT hXA hQ hXk hXn
  show J X 5 (WL Z tok ties) 0 [some (.ref (Z.ad 0)), some (.int (nI k)), none, none, none] []
  refine J.WL (fun σ hC => ?_)
  obtain ⟨hH, hG, hEE, hPP⟩ := id hC
  refine J.caps (fun hcap => ?_)
  have hE32 : (σ.row 2).length ≤ 32 := hcap 2 (by omega)
  have hP32 : (σ.row 3).length ≤ 32 := hcap 3 (by omega)
  rw [hEE] at hE32
  rw [hPP] at hP32
  have inner : ∀ (x : Nat), x < (EE tok ties).length → J X 5 (Wd Z σ) 76 [some (.ref (Z.ad 0)), some (.int (nI k)), some (.int (seenX tok ties (nI k) (x + 1))), some (.int (nI x)), none] [] → ∀ (f y : Nat), y + f = (PP tok ties).length → J X 5 (Wd Z σ) 41 [some (.ref (Z.ad 0)), some (.int (nI k)), some (.int (seenY tok ties (nI k) x (seenX tok ties (nI k) x) y)), some (.int (nI x)), some (.int (nI y))] [] := by
    intro x hx hd f
    induction f with
    | zero =>
      intro y hy
      refine j_iload S dX4_seen_41 rfl ?_
      refine j_aload_n S dX4_seen_43 rfl ?_
      refine j_get S (C := RX4) (T := TX4) (N := 7) (by decide +kernel) rd_loom rfl (v := .ref (Z.ad (co 0))) 3 (by decide) (by decide +kernel) rfl rfl dX4_seen_44 ?_
      refine j_getN S (C := RX0) (T := TX0) (N := 2) (by decide +kernel) (rd_cloth (by omega)) rfl (v := .ref (Z.ad (ro 3))) 1 (by decide) 1 rfl rfl rfl dX4_seen_47 ?_
      refine j_getN S (C := RX3) (T := TX3) (N := 2) (by decide +kernel) (rd_row (by omega)) rfl (v := .int (nI (σ.row 3).length)) 1 (by decide) 3 rfl rfl rfl dX4_seen_50 ?_
      rw [hPP]
      refine j_icmp_ge S 76 dX4_seen_53 (by decide) (fun _ => ?_) (fun h9 => absurd (by rw [nI_leI (by omega) (by omega)]; omega) h9)
      obtain rfl : y = (PP tok ties).length := by omega
      refine J.less [some (.ref (Z.ad 0)), some (.int (nI k)), some (.int (seenX tok ties (nI k) (x + 1))), some (.int (nI x)), none] ⟨rfl, rfl, rfl, rfl, trivial⟩ ?_
      exact hd
    | succ f ih =>
      intro y hy
      refine j_iload S dX4_seen_41 rfl ?_
      refine j_aload_n S dX4_seen_43 rfl ?_
      refine j_get S (C := RX4) (T := TX4) (N := 7) (by decide +kernel) rd_loom rfl (v := .ref (Z.ad (co 0))) 3 (by decide) (by decide +kernel) rfl rfl dX4_seen_44 ?_
      refine j_getN S (C := RX0) (T := TX0) (N := 2) (by decide +kernel) (rd_cloth (by omega)) rfl (v := .ref (Z.ad (ro 3))) 1 (by decide) 1 rfl rfl rfl dX4_seen_47 ?_
      refine j_getN S (C := RX3) (T := TX3) (N := 2) (by decide +kernel) (rd_row (by omega)) rfl (v := .int (nI (σ.row 3).length)) 1 (by decide) 3 rfl rfl rfl dX4_seen_50 ?_
      rw [hPP]
      refine j_icmp_ge S 76 dX4_seen_53 (by decide) (fun h9 => absurd h9 (by rw [nI_leI (by omega) (by omega)]; omega)) (fun _ => ?_)
      refine j_aload_n S dX4_seen_56 rfl ?_
      refine j_iload_n S dX4_seen_57 rfl ?_
      refine j_iload S dX4_seen_58 rfl ?_
      refine j_cVi S (n := 2) (rest := []) (k_X4_colourAt X.l Z X.A hAX σ tok ties hC x y (by omega) (by omega)) ⟨_, _, _, _, rfl, gX4_seen_X4_colourAt, rfl, rfl, by decide +kernel, ⟨Nat.le_of_ble_eq_true rfl, Nat.le_of_ble_eq_true rfl⟩⟩ rd_loom rfl rfl (Nat.le_of_ble_eq_true rfl) rfl dX4_seen_60 (fun v9 hv9 => ?_)
      subst hv9
      show J X 5 (Wd Z σ) 63 [some (.ref (Z.ad 0)), some (.int (nI k)), some (.int (seenY tok ties (nI k) x (seenX tok ties (nI k) x) y)), some (.int (nI x)), some (.int (nI y))] [.int (colourI tok ties x y)]
      refine j_iload_n S dX4_seen_63 rfl ?_
      refine j_icmp_ne S 70 dX4_seen_64 (by decide) (fun h => ?_) (fun h => ?_)
      · skip
        have e9 : seenY tok ties (nI k) x (seenX tok ties (nI k) x) y = seenY tok ties (nI k) x (seenX tok ties (nI k) x) (y + 1) := by rw [seenY, if_neg h]
        refine j_iinc S (nI (y + 1)) [some (.ref (Z.ad 0)), some (.int (nI k)), some (.int (seenY tok ties (nI k) x (seenX tok ties (nI k) x) y)), some (.int (nI x)), some (.int (nI (y + 1)))] dX4_seen_70 rfl (nI_1 y) (by decide) rfl rfl ?_
        refine j_goto S 41 dX4_seen_73 (by decide) ?_
        rw [e9]
        exact ih (y + 1) (by omega)
      · skip
        have e9 : seenY tok ties (nI k) x (seenX tok ties (nI k) x) y + 1 = seenY tok ties (nI k) x (seenX tok ties (nI k) x) (y + 1) := by rw [seenY, if_pos h]
        refine j_iinc S (seenY tok ties (nI k) x (seenX tok ties (nI k) x) (y + 1)) [some (.ref (Z.ad 0)), some (.int (nI k)), some (.int (seenY tok ties (nI k) x (seenX tok ties (nI k) x) (y + 1))), some (.int (nI x)), some (.int (nI y))] dX4_seen_67 rfl e9 (by decide) rfl rfl ?_
        refine j_iinc S (nI (y + 1)) [some (.ref (Z.ad 0)), some (.int (nI k)), some (.int (seenY tok ties (nI k) x (seenX tok ties (nI k) x) (y + 1))), some (.int (nI x)), some (.int (nI (y + 1)))] dX4_seen_70 rfl (nI_1 y) (by decide) rfl rfl ?_
        refine j_goto S 41 dX4_seen_73 (by decide) ?_
        exact ih (y + 1) (by omega)
  have outer : ∀ (f x : Nat), x + f = (EE tok ties).length → J X 5 (Wd Z σ) 24 [some (.ref (Z.ad 0)), some (.int (nI k)), some (.int (seenX tok ties (nI k) x)), some (.int (nI x)), none] [] := by
    intro f
    induction f with
    | zero =>
      intro x hx
      refine j_iload_n S dX4_seen_24 rfl ?_
      refine j_aload_n S dX4_seen_25 rfl ?_
      refine j_get S (C := RX4) (T := TX4) (N := 7) (by decide +kernel) rd_loom rfl (v := .ref (Z.ad (co 0))) 3 (by decide) (by decide +kernel) rfl rfl dX4_seen_26 ?_
      refine j_getN S (C := RX0) (T := TX0) (N := 2) (by decide +kernel) (rd_cloth (by omega)) rfl (v := .ref (Z.ad (ro 2))) 0 (by decide) 0 rfl rfl rfl dX4_seen_29 ?_
      refine j_getN S (C := RX3) (T := TX3) (N := 2) (by decide +kernel) (rd_row (by omega)) rfl (v := .int (nI (σ.row 2).length)) 1 (by decide) 3 rfl rfl rfl dX4_seen_32 ?_
      rw [hEE]
      refine j_icmp_ge S 82 dX4_seen_35 (by decide) (fun _ => ?_) (fun h9 => absurd (by rw [nI_leI (by omega) (by omega)]; omega) h9)
      refine j_iload_n S dX4_seen_82 rfl ?_
      obtain rfl : x = (EE tok ties).length := by omega
      exact j_ireturn S hRT hXA hQ hXk hXn dX4_seen_83 rfl rfl (fun H h9 => ⟨σ, hC, h9⟩)
    | succ f ih =>
      intro x hx
      have hd : J X 5 (Wd Z σ) 76 [some (.ref (Z.ad 0)), some (.int (nI k)), some (.int (seenX tok ties (nI k) (x + 1))), some (.int (nI x)), none] [] := by
        refine j_iinc S (nI (x + 1)) [some (.ref (Z.ad 0)), some (.int (nI k)), some (.int (seenX tok ties (nI k) (x + 1))), some (.int (nI (x + 1))), none] dX4_seen_76 rfl (nI_1 x) (by decide) rfl rfl ?_
        refine j_goto S 24 dX4_seen_79 (by decide) ?_
        exact ih (x + 1) (by omega)
      refine j_iload_n S dX4_seen_24 rfl ?_
      refine j_aload_n S dX4_seen_25 rfl ?_
      refine j_get S (C := RX4) (T := TX4) (N := 7) (by decide +kernel) rd_loom rfl (v := .ref (Z.ad (co 0))) 3 (by decide) (by decide +kernel) rfl rfl dX4_seen_26 ?_
      refine j_getN S (C := RX0) (T := TX0) (N := 2) (by decide +kernel) (rd_cloth (by omega)) rfl (v := .ref (Z.ad (ro 2))) 0 (by decide) 0 rfl rfl rfl dX4_seen_29 ?_
      refine j_getN S (C := RX3) (T := TX3) (N := 2) (by decide +kernel) (rd_row (by omega)) rfl (v := .int (nI (σ.row 2).length)) 1 (by decide) 3 rfl rfl rfl dX4_seen_32 ?_
      rw [hEE]
      refine j_icmp_ge S 82 dX4_seen_35 (by decide) (fun h9 => absurd h9 (by rw [nI_leI (by omega) (by omega)]; omega)) (fun _ => ?_)
      refine j_iconst S 0 dX4_seen_38 (by decide) ?_
      refine j_istore S [some (.ref (Z.ad 0)), some (.int (nI k)), some (.int (seenX tok ties (nI k) x)), some (.int (nI x)), some (.int 0)] dX4_seen_39 (by decide) rfl rfl ?_
      exact inner x (by omega) hd (PP tok ties).length 0 (by omega)
  refine j_iload_n S dX4_seen_0 rfl ?_
  refine j_if_lt S 10 dX4_seen_1 (by decide) (fun h9 => absurd h9 (nI_pos (by omega))) (fun _ => ?_)
  refine j_iload_n S dX4_seen_4 rfl ?_
  refine j_bipush S 8 dX4_seen_5 (by decide) ?_
  refine j_icmp_lt S 20 dX4_seen_7 (by decide) (fun _ => ?_) (fun h9 => absurd (by rw [show (8 : Int32) = nI 8 from rfl, nI_ltI (by omega) (by omega)]; exact hk) h9)
  refine j_iconst S 0 dX4_seen_20 (by decide) ?_
  refine j_istore_n S [some (.ref (Z.ad 0)), some (.int (nI k)), some (.int 0), none, none] dX4_seen_21 (by decide) rfl rfl ?_
  refine j_iconst S 0 dX4_seen_22 (by decide) ?_
  refine j_istore_n S [some (.ref (Z.ad 0)), some (.int (nI k)), some (.int 0), some (.int 0), none] dX4_seen_23 (by decide) rfl rfl ?_
  exact outer (EE tok ties).length 0 (by omega)

set_option maxRecDepth 100000 in
set_option maxHeartbeats 4000000 in
theorem k_X4_repeat (l : Launch) (Z : Zx) (A : Nat → Prop) (hA : AdOk Z A) (tok : Nat → List Int32) (ties : List Int32) (b : Bool) : Km l Z A yX4_repeat wsX4_repeat { frames := 3, cells := 0, slots := 0, locals := 64 } (WL Z tok ties) [.ref (Z.ad 0), .int (b2i b)] (Qi (WL Z tok ties) A (fun v => v = repeatI (EE tok ties) (PP tok ties) b)) := by
  refine Km.of (cc := cX4_repeat) (maxL := 2) (ret := (some .int)) (by decide) rfl (Nat.le_of_ble_eq_true rfl) hA ?_
  intro X hXl S hAX hRT hXA hQ hXk hXn
  show J X 2 (WL Z tok ties) 0 [some (.ref (Z.ad 0)), some (.int (b2i b))] []
  refine J.WL (fun σ hC => ?_)
  obtain ⟨hH, hG, hEE, hPP⟩ := id hC
  refine j_aload_n S dX4_repeat_0 rfl ?_
  refine j_get S (C := RX4) (T := TX4) (N := 7) (by decide +kernel) rd_loom rfl (v := .ref (Z.ad (co 0))) 3 (by decide) (by decide +kernel) rfl rfl dX4_repeat_1 ?_
  refine j_cVi S (n := 0) (rest := []) (k_X0_hasFields X.l Z X.A hAX σ 0 (by omega)) ⟨_, _, _, _, rfl, gX4_repeat_X0_hasFields, rfl, rfl, by decide +kernel, ⟨Nat.le_of_ble_eq_true rfl, Nat.le_of_ble_eq_true rfl⟩⟩ (rd_cloth (by omega)) rfl rfl (Nat.le_of_ble_eq_true rfl) rfl dX4_repeat_4 (fun v9 hv9 => ?_)
  subst hv9
  show J X 2 (Wd Z σ) 7 [some (.ref (Z.ad 0)), some (.int (b2i b))] [.int (b2i (hasF (σ.row 2) (σ.row 3)))]
  rw [hEE, hPP]
  refine j_if_ne S 12 dX4_repeat_7 (by decide) (fun h => ?_) (fun h => ?_)
  · skip
    have hf := b2i_n0.mp h
    refine j_iload_n S dX4_repeat_12 rfl ?_
    refine j_if_eq S 29 dX4_repeat_13 (by decide) (fun h2 => ?_) (fun h2 => ?_)
    · skip
      refine j_aload_n S dX4_repeat_29 rfl ?_
      refine j_get S (C := RX4) (T := TX4) (N := 7) (by decide +kernel) rd_loom rfl (v := .ref (Z.ad (co 0))) 3 (by decide) (by decide +kernel) rfl rfl dX4_repeat_30 ?_
      refine j_getN S (C := RX0) (T := TX0) (N := 2) (by decide +kernel) (rd_cloth (by omega)) rfl (v := .ref (Z.ad (ro 3))) 1 (by decide) 1 rfl rfl rfl dX4_repeat_33 ?_
      refine j_cVi S (n := 0) (rest := []) (k_X3_leastPeriod X.l Z X.A hAX σ 3 (by omega)) ⟨_, _, _, _, rfl, gX4_repeat_X3_leastPeriod, rfl, rfl, by decide +kernel, ⟨Nat.le_of_ble_eq_true rfl, Nat.le_of_ble_eq_true rfl⟩⟩ (rd_row (by omega)) rfl rfl (Nat.le_of_ble_eq_true rfl) rfl dX4_repeat_36 (fun v9 hv9 => ?_)
      subst hv9
      show J X 2 (Wd Z σ) 39 [some (.ref (Z.ad 0)), some (.int (b2i b))] [.int (periodI (σ.row 3))]
      exact j_ireturn S hRT hXA hQ hXk hXn dX4_repeat_39 rfl (by rw [hPP]; unfold repeatI; rw [if_pos hf, b2i_0.mp h2]; rfl) (fun H h9 => ⟨σ, hC, h9⟩)
    · skip
      refine j_aload_n S dX4_repeat_16 rfl ?_
      refine j_get S (C := RX4) (T := TX4) (N := 7) (by decide +kernel) rd_loom rfl (v := .ref (Z.ad (co 0))) 3 (by decide) (by decide +kernel) rfl rfl dX4_repeat_17 ?_
      refine j_getN S (C := RX0) (T := TX0) (N := 2) (by decide +kernel) (rd_cloth (by omega)) rfl (v := .ref (Z.ad (ro 2))) 0 (by decide) 0 rfl rfl rfl dX4_repeat_20 ?_
      refine j_cVi S (n := 0) (rest := []) (k_X3_leastPeriod X.l Z X.A hAX σ 2 (by omega)) ⟨_, _, _, _, rfl, gX4_repeat_X3_leastPeriod, rfl, rfl, by decide +kernel, ⟨Nat.le_of_ble_eq_true rfl, Nat.le_of_ble_eq_true rfl⟩⟩ (rd_row (by omega)) rfl rfl (Nat.le_of_ble_eq_true rfl) rfl dX4_repeat_23 (fun v9 hv9 => ?_)
      subst hv9
      show J X 2 (Wd Z σ) 26 [some (.ref (Z.ad 0)), some (.int (b2i b))] [.int (periodI (σ.row 2))]
      refine j_goto S 39 dX4_repeat_26 (by decide) ?_
      exact j_ireturn S hRT hXA hQ hXk hXn dX4_repeat_39 rfl (by rw [hEE]; unfold repeatI; rw [if_pos hf, b2i_n0.mp h2]; rfl) (fun H h9 => ⟨σ, hC, h9⟩)
  · skip
    refine j_iconst S 0 dX4_repeat_10 (by decide) ?_
    exact j_ireturn S hRT hXA hQ hXk hXn dX4_repeat_11 rfl (by unfold repeatI; rw [if_neg (by rw [b2i_0.mp h]; decide)]) (fun H h9 => ⟨σ, hC, h9⟩)

set_option maxRecDepth 100000 in
set_option maxHeartbeats 4000000 in
theorem k_X4_hangs (l : Launch) (Z : Zx) (A : Nat → Prop) (hA : AdOk Z A) (tok : Nat → List Int32) (ties : List Int32) : Km l Z A yX4_hangs wsX4_hangs { frames := 6, cells := 0, slots := 0, locals := 133 } (WL Z tok ties) [.ref (Z.ad 0)] (Qi (WL Z tok ties) A (fun v => v = b2i (connI (EE tok ties) (PP tok ties)))) := by
  refine Km.of (cc := cX4_hangs) (maxL := 1) (ret := (some .boolean)) (by decide) rfl (Nat.le_of_ble_eq_true rfl) hA ?_
  intro X hXl S hAX hRT hXA hQ hXk hXn
  show J X 1 (WL Z tok ties) 0 [some (.ref (Z.ad 0))] []
  refine J.WL (fun σ hC => ?_)
  obtain ⟨hH, hG, hEE, hPP⟩ := id hC
  refine j_aload_n S dX4_hangs_0 rfl ?_
  refine j_get S (C := RX4) (T := TX4) (N := 7) (by decide +kernel) rd_loom rfl (v := .ref (Z.ad (co 0))) 3 (by decide) (by decide +kernel) rfl rfl dX4_hangs_1 ?_
  refine j_cVi S (n := 0) (rest := []) (k_X0_isConnected X.l Z X.A hAX σ 0 (by omega)) ⟨_, _, _, _, rfl, gX4_hangs_X0_isConnected, rfl, rfl, by decide +kernel, ⟨Nat.le_of_ble_eq_true rfl, Nat.le_of_ble_eq_true rfl⟩⟩ (rd_cloth (by omega)) rfl rfl (Nat.le_of_ble_eq_true rfl) rfl dX4_hangs_4 (fun v9 hv9 => ?_)
  subst hv9
  show J X 1 (Wd Z σ) 7 [some (.ref (Z.ad 0))] [.int (b2i (connI (σ.row 2) (σ.row 3)))]
  exact j_ireturn S hRT hXA hQ hXk hXn dX4_hangs_7 (b2i_nar _) (by rw [hEE, hPP]) (fun H h9 => ⟨σ, hC, h9⟩)

set_option maxRecDepth 100000 in
set_option maxHeartbeats 4000000 in
theorem k_X4_reach (l : Launch) (Z : Zx) (A : Nat → Prop) (hA : AdOk Z A) (tok : Nat → List Int32) (ties : List Int32) (b : Bool) : Km l Z A yX4_reach wsX4_reach { frames := 4, cells := 0, slots := 0, locals := 92 } (WL Z tok ties) [.ref (Z.ad 0), .int (b2i b)] (Qi (WL Z tok ties) A (fun v => v = reachI (EE tok ties) (PP tok ties) b)) := by
  refine Km.of (cc := cX4_reach) (maxL := 2) (ret := (some .int)) (by decide) rfl (Nat.le_of_ble_eq_true rfl) hA ?_
  intro X hXl S hAX hRT hXA hQ hXk hXn
  show J X 2 (WL Z tok ties) 0 [some (.ref (Z.ad 0)), some (.int (b2i b))] []
  refine J.WL (fun σ hC => ?_)
  obtain ⟨hH, hG, hEE, hPP⟩ := id hC
  refine j_aload_n S dX4_reach_0 rfl ?_
  refine j_get S (C := RX4) (T := TX4) (N := 7) (by decide +kernel) rd_loom rfl (v := .ref (Z.ad (co 0))) 3 (by decide) (by decide +kernel) rfl rfl dX4_reach_1 ?_
  refine j_cVi S (n := 0) (rest := []) (k_X0_hasFields X.l Z X.A hAX σ 0 (by omega)) ⟨_, _, _, _, rfl, gX4_reach_X0_hasFields, rfl, rfl, by decide +kernel, ⟨Nat.le_of_ble_eq_true rfl, Nat.le_of_ble_eq_true rfl⟩⟩ (rd_cloth (by omega)) rfl rfl (Nat.le_of_ble_eq_true rfl) rfl dX4_reach_4 (fun v9 hv9 => ?_)
  subst hv9
  show J X 2 (Wd Z σ) 7 [some (.ref (Z.ad 0)), some (.int (b2i b))] [.int (b2i (hasF (σ.row 2) (σ.row 3)))]
  rw [hEE, hPP]
  refine j_if_ne S 12 dX4_reach_7 (by decide) (fun h => ?_) (fun h => ?_)
  · skip
    have hf := b2i_n0.mp h
    refine j_iload_n S dX4_reach_12 rfl ?_
    refine j_if_eq S 27 dX4_reach_13 (by decide) (fun h2 => ?_) (fun h2 => ?_)
    · skip
      refine j_aload_n S dX4_reach_27 rfl ?_
      refine j_get S (C := RX4) (T := TX4) (N := 7) (by decide +kernel) rd_loom rfl (v := .ref (Z.ad (co 0))) 3 (by decide) (by decide +kernel) rfl rfl dX4_reach_28 ?_
      refine j_iconst S 0 dX4_reach_31 (by decide) ?_
      refine j_cVi S (n := 1) (rest := []) (k_X0_picksReached X.l Z X.A hAX σ 0 (by omega) false) ⟨_, _, _, _, rfl, gX4_reach_X0_picksReached, rfl, rfl, by decide +kernel, ⟨Nat.le_of_ble_eq_true rfl, Nat.le_of_ble_eq_true rfl⟩⟩ (rd_cloth (by omega)) rfl rfl (Nat.le_of_ble_eq_true rfl) rfl dX4_reach_32 (fun v9 hv9 => ?_)
      subst hv9
      show J X 2 (Wd Z σ) 35 [some (.ref (Z.ad 0)), some (.int (b2i b))] [.int (picksR (σ.row 2) (σ.row 3) false)]
      refine j_cSi S (n := 1) (rest := []) (k_J6_bitCount_0f7a4 X.l Z X.A hAX σ (picksR (σ.row 2) (σ.row 3) false)) ⟨_, _, _, _, rfl, gX4_reach_J6_bitCount_0f7a4, rfl, rfl, by decide +kernel, ⟨Nat.le_of_ble_eq_true rfl, Nat.le_of_ble_eq_true rfl⟩⟩ rfl (Nat.le_of_ble_eq_true rfl) rfl dX4_reach_35 (fun v9 hv9 => ?_)
      subst hv9
      show J X 2 (Wd Z σ) 38 [some (.ref (Z.ad 0)), some (.int (b2i b))] [.int (bitC (picksR (σ.row 2) (σ.row 3) false))]
      exact j_ireturn S hRT hXA hQ hXk hXn dX4_reach_38 rfl (by rw [hEE, hPP]; unfold reachI; rw [if_pos hf, b2i_0.mp h2]; rfl) (fun H h9 => ⟨σ, hC, h9⟩)
    · skip
      refine j_aload_n S dX4_reach_16 rfl ?_
      refine j_get S (C := RX4) (T := TX4) (N := 7) (by decide +kernel) rd_loom rfl (v := .ref (Z.ad (co 0))) 3 (by decide) (by decide +kernel) rfl rfl dX4_reach_17 ?_
      refine j_iconst S 0 dX4_reach_20 (by decide) ?_
      refine j_cVi S (n := 1) (rest := []) (k_X0_endsReached X.l Z X.A hAX σ 0 (by omega) false) ⟨_, _, _, _, rfl, gX4_reach_X0_endsReached, rfl, rfl, by decide +kernel, ⟨Nat.le_of_ble_eq_true rfl, Nat.le_of_ble_eq_true rfl⟩⟩ (rd_cloth (by omega)) rfl rfl (Nat.le_of_ble_eq_true rfl) rfl dX4_reach_21 (fun v9 hv9 => ?_)
      subst hv9
      show J X 2 (Wd Z σ) 24 [some (.ref (Z.ad 0)), some (.int (b2i b))] [.int (endsR (σ.row 2) (σ.row 3) false)]
      refine j_goto S 35 dX4_reach_24 (by decide) ?_
      refine j_cSi S (n := 1) (rest := []) (k_J6_bitCount_0f7a4 X.l Z X.A hAX σ (endsR (σ.row 2) (σ.row 3) false)) ⟨_, _, _, _, rfl, gX4_reach_J6_bitCount_0f7a4, rfl, rfl, by decide +kernel, ⟨Nat.le_of_ble_eq_true rfl, Nat.le_of_ble_eq_true rfl⟩⟩ rfl (Nat.le_of_ble_eq_true rfl) rfl dX4_reach_35 (fun v9 hv9 => ?_)
      subst hv9
      show J X 2 (Wd Z σ) 38 [some (.ref (Z.ad 0)), some (.int (b2i b))] [.int (bitC (endsR (σ.row 2) (σ.row 3) false))]
      exact j_ireturn S hRT hXA hQ hXk hXn dX4_reach_38 rfl (by rw [hEE, hPP]; unfold reachI; rw [if_pos hf, b2i_n0.mp h2]; rfl) (fun H h9 => ⟨σ, hC, h9⟩)
  · skip
    refine j_iconst S 0 dX4_reach_10 (by decide) ?_
    exact j_ireturn S hRT hXA hQ hXk hXn dX4_reach_11 rfl (by unfold reachI; rw [if_neg (by rw [b2i_0.mp h]; decide)]) (fun H h9 => ⟨σ, hC, h9⟩)

set_option maxRecDepth 100000 in
set_option maxHeartbeats 4000000 in
theorem k_X4_meanFloat (l : Launch) (Z : Zx) (A : Nat → Prop) (hA : AdOk Z A) (tok : Nat → List Int32) (ties : List Int32) : Km l Z A yX4_meanFloat wsX4_meanFloat { frames := 3, cells := 0, slots := 0, locals := 67 } (WL Z tok ties) [.ref (Z.ad 0)] (Qd (WL Z tok ties) A (fun v => v = meanI (EE tok ties) (PP tok ties))) := by
  refine Km.of (cc := cX4_meanFloat) (maxL := 2) (ret := (some .double)) (by decide) rfl (Nat.le_of_ble_eq_true rfl) hA ?_
  intro X hXl S hAX hRT hXA hQ hXk hXn
  show J X 2 (WL Z tok ties) 0 [some (.ref (Z.ad 0)), none] []
  refine J.WL (fun σ hC => ?_)
  obtain ⟨hH, hG, hEE, hPP⟩ := id hC
  refine j_aload_n S dX4_meanFloat_0 rfl ?_
  refine j_get S (C := RX4) (T := TX4) (N := 7) (by decide +kernel) rd_loom rfl (v := .ref (Z.ad (co 0))) 3 (by decide) (by decide +kernel) rfl rfl dX4_meanFloat_1 ?_
  refine j_iconst S 1 dX4_meanFloat_4 (by decide) ?_
  refine j_cVi S (n := 1) (rest := []) (k_X0_countFloats X.l Z X.A hAX σ 0 (by omega) 1 (by decide)) ⟨_, _, _, _, rfl, gX4_meanFloat_X0_countFloats, rfl, rfl, by decide +kernel, ⟨Nat.le_of_ble_eq_true rfl, Nat.le_of_ble_eq_true rfl⟩⟩ (rd_cloth (by omega)) rfl rfl (Nat.le_of_ble_eq_true rfl) rfl dX4_meanFloat_5 (fun v9 hv9 => ?_)
  subst hv9
  show J X 2 (Wd Z σ) 8 [some (.ref (Z.ad 0)), none] [.int (countRunsI (σ.row 2) 1 + countRunsI (σ.row 3) 1)]
  refine j_istore_n S [some (.ref (Z.ad 0)), some (.int (countRunsI (σ.row 2) 1 + countRunsI (σ.row 3) 1))] dX4_meanFloat_8 (by decide) rfl rfl ?_
  refine j_iload_n S dX4_meanFloat_9 rfl ?_
  rw [hEE, hPP]
  show J X 2 (Wd Z σ) 10 [some (.ref (Z.ad 0)), some (.int (floatsI (EE tok ties) (PP tok ties) 1))] [.int (floatsI (EE tok ties) (PP tok ties) 1)]
  refine j_if_ne S 15 dX4_meanFloat_10 (by decide) (fun h => ?_) (fun h => ?_)
  · skip
    refine j_aload_n S dX4_meanFloat_15 rfl ?_
    refine j_get S (C := RX4) (T := TX4) (N := 7) (by decide +kernel) rd_loom rfl (v := .ref (Z.ad (co 0))) 3 (by decide) (by decide +kernel) rfl rfl dX4_meanFloat_16 ?_
    refine j_getN S (C := RX0) (T := TX0) (N := 2) (by decide +kernel) (rd_cloth (by omega)) rfl (v := .ref (Z.ad (ro 2))) 0 (by decide) 0 rfl rfl rfl dX4_meanFloat_19 ?_
    refine j_getN S (C := RX3) (T := TX3) (N := 2) (by decide +kernel) (rd_row (by omega)) rfl (v := .int (nI (σ.row 2).length)) 1 (by decide) 3 rfl rfl rfl dX4_meanFloat_22 ?_
    refine j_aload_n S dX4_meanFloat_25 rfl ?_
    refine j_get S (C := RX4) (T := TX4) (N := 7) (by decide +kernel) rd_loom rfl (v := .ref (Z.ad (co 0))) 3 (by decide) (by decide +kernel) rfl rfl dX4_meanFloat_26 ?_
    refine j_getN S (C := RX0) (T := TX0) (N := 2) (by decide +kernel) (rd_cloth (by omega)) rfl (v := .ref (Z.ad (ro 3))) 1 (by decide) 1 rfl rfl rfl dX4_meanFloat_29 ?_
    refine j_getN S (C := RX3) (T := TX3) (N := 2) (by decide +kernel) (rd_row (by omega)) rfl (v := .int (nI (σ.row 3).length)) 1 (by decide) 3 rfl rfl rfl dX4_meanFloat_32 ?_
    refine j_imul S ((nI (σ.row 2).length) * (nI (σ.row 3).length)) dX4_meanFloat_35 rfl ?_
    refine j_i2d S dX4_meanFloat_36 ?_
    refine j_iload_n S dX4_meanFloat_37 rfl ?_
    refine j_i2d S dX4_meanFloat_38 ?_
    refine j_ddiv S dX4_meanFloat_39 (mean_num h) ?_
    exact j_dreturn S hRT hXA hQ hXk hXn dX4_meanFloat_40 (by rw [hEE, hPP]; unfold meanI; rw [if_neg h]) (fun H h9 => ⟨σ, hC, h9⟩)
  · skip
    refine j_dconst0 S dX4_meanFloat_13 ?_
    exact j_dreturn S hRT hXA hQ hXk hXn dX4_meanFloat_14 (by unfold meanI; rw [if_pos h]) (fun H h9 => ⟨σ, hC, h9⟩)
end
