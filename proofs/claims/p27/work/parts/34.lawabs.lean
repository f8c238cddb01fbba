/-! Math.abs OF A DOUBLE: the machine runs an entry of its table of natives in place of the method's own code -/
theorem ov_call {tb : Tables} {e : Env} {below : List Frame} {s target : State} {g : JFrame} {c : Code} (h : At s g.method c below)
    {m : MethodId} {meth : Method} {k : Class} {row : NativeRow} {args : Array Value} {code' : Code} (acts : List Action)
    (hk : s.vm.classes[m.cls]? = some k) (hx : k.methods[m.idx]? = some meth) (hboot : k.loader = none) (hin : overriddenIn.contains k.name = true)
    (hc : meth.code = some code') (hl : meth.locks = false)
    (hrow : NativeRow.find? tb.natives k.name meth.name meth.desc = some row)
    (hgiven : ((argsToLocals args code'.maxLocals).toList.filterMap fun | .val v => some v | _ => none).toArray.extract 0 (meth.sig.parameters.length + (if meth.isStatic then 0 else 1)) = args)
    (hroom : e.platform.stackFull (((s.setTop g).threads[(s.setTop g).cur]?).getD { frames := [] }) (s.setTop g).frames code'.maxLocals = false)
    (hw : wpRun (row.sem args) (fun v s₁ _ => ∀ acts', Steps tb e below (doReturn e s₁ acts' v).1 target) (fun _ _ _ => False) e
      ((s.setTop g).pushFrame (.native { method := m, args := args, locked := none }))) :
    Steps tb e below (doInvoke e (s.setTop g) acts m args).1 target := by
  have hm : (s.setTop g).vm.method? m = some meth := by
    show s.vm.method? m = some meth
    simp [Vm.method?, hk, hx]
  rw [(doInvoke_java (s := s.setTop g) (e := e) (acts := acts) (args := args) hm hc hl hroom).1]
  have hfe := frames_entered (g := g) h.top (.java { method := m, pc := 0, locals := argsToLocals args code'.maxLocals, stack := [], locked := none })
  obtain ⟨mid, hmid⟩ := h.above
  refine Steps.head ⟨h.running, by simpa using h.runnable, by simpa using h.alone⟩
    ⟨.java { method := m, pc := 0, locals := argsToLocals args code'.maxLocals, stack := [], locked := none } :: .java g :: mid, by rw [hfe, hmid]; rfl, by simp, by simp⟩ ?_
  have hov : overridden tb e ((s.setTop g).pushFrame (.java { method := m, pc := 0, locals := argsToLocals args code'.maxLocals, stack := [], locked := none })) { method := m, pc := 0, locals := argsToLocals args code'.maxLocals, stack := [], locked := none } = some row := by
    unfold overridden
    have hk2 : ((s.setTop g).pushFrame (.java { method := m, pc := 0, locals := argsToLocals args code'.maxLocals, stack := [], locked := none })).vm.classes[m.cls]? = some k := hk
    simp only [hk2, hx, hrow, hin, hboot]
    rfl
  have hac : argCount ((s.setTop g).pushFrame (.java { method := m, pc := 0, locals := argsToLocals args code'.maxLocals, stack := [], locked := none })) m = meth.sig.parameters.length + (if meth.isStatic then 0 else 1) := by
    unfold argCount
    have hk2 : ((s.setTop g).pushFrame (.java { method := m, pc := 0, locals := argsToLocals args code'.maxLocals, stack := [], locked := none })).vm.classes[m.cls]? = some k := hk
    rw [hk2]
    simp [hx]
  unfold stepThread
  rw [hfe]
  dsimp only
  rw [hov]
  dsimp only
  rw [hac]
  suffices H : ∀ G : Array Value, G = args → Steps tb e below (afterNative e { method := m, args := G, locked := none } (.java g :: s.frames.tail) ((row.sem G).run e (((s.setTop g).pushFrame (.java { method := m, pc := 0, locals := argsToLocals args code'.maxLocals, stack := [], locked := none })).setFrames (.native { method := m, args := G, locked := none } :: .java g :: s.frames.tail)))).1 target from H _ hgiven
  rintro G rfl
  have hpf : ((s.setTop g).pushFrame (.java { method := m, pc := 0, locals := argsToLocals G code'.maxLocals, stack := [], locked := none })).setFrames (.native { method := m, args := G, locked := none } :: .java g :: s.frames.tail) = (s.setTop g).pushFrame (.native { method := m, args := G, locked := none }) := by
    have h9 : (s.setTop g).frames = .java g :: s.frames.tail := State.frames_setTop' g h.top
    rw [State.pushFrame, State.pushFrame, State.setFrames_setFrames, h9]
  rw [hpf]
  have hw := (wpRun_iff_run _ _ _ _ _).mp hw
  cases hr : (row.sem G).run e ((s.setTop g).pushFrame (.native { method := m, args := G, locked := none })) with
  | ok v s₁ acts₁ => rw [hr] at hw; exact hw acts₁
  | ctl x s₁ acts₁ => rw [hr] at hw; cases x <;> exact hw.elim
theorem ov_ends {tb : Tables} {e : Env} {below : List Frame} {s target : State} {g : JFrame} {c : Code} (h : At s g.method c below)
    {m : MethodId} {meth : Method} {k : Class} {row : NativeRow} {args : Array Value} {code' : Code} (acts : List Action)
    (hk : s.vm.classes[m.cls]? = some k) (hx : k.methods[m.idx]? = some meth) (hboot : k.loader = none) (hin : overriddenIn.contains k.name = true)
    (hc : meth.code = some code') (hl : meth.locks = false)
    (hrow : NativeRow.find? tb.natives k.name meth.name meth.desc = some row)
    (hgiven : ((argsToLocals args code'.maxLocals).toList.filterMap fun | .val v => some v | _ => none).toArray.extract 0 (meth.sig.parameters.length + (if meth.isStatic then 0 else 1)) = args)
    (hroom : e.platform.stackFull (((s.setTop g).threads[(s.setTop g).cur]?).getD { frames := [] }) (s.setTop g).frames code'.maxLocals = false)
    {v : Option Value} {ig : Instr} {len : Nat}
    (hw : ∀ Q : Option Value → Pre, (∀ d' acts', Q v d' acts' ((s.setTop g).pushFrame (.native { method := m, args := args, locked := none }))) →
      wp (row.sem args) Q (fun _ _ _ => False) e false [] ((s.setTop g).pushFrame (.native { method := m, args := args, locked := none })))
    (hdg : decode c.code g.pc = .ok (ig, len))
    (hrest : Steps tb e below (s.setTop { g with pc := g.pc + len, stack := v.toList ++ g.stack }) target) :
    Steps tb e below (doInvoke e (s.setTop g) acts m args).1 target := by
  refine ov_call h acts hk hx hboot hin hc hl hrow hgiven hroom ?_
  simp only [wpRun]
  refine hw _ ?_
  intro _ _ acts'
  obtain ⟨g₀, hg⟩ := Option.isSome_iff_exists.mp h.top
  obtain ⟨r, hr⟩ := State.topJava?_eq_some.mp hg
  have hU : (s.setTop g).pushFrame (.native { method := m, args := args, locked := none }) = s.setFrames (.native { method := m, args := args, locked := none } :: .java g :: r) := by
    rw [State.pushFrame, State.frames_setTop _ hr, State.setTop_of_frames _ hr, State.setFrames_setFrames]
  have hcur : s.cur < s.threads.size := State.cur_lt_of_frames hr
  show Steps tb e below (doReturn e ((s.setTop g).pushFrame (.native { method := m, args := args, locked := none })) acts' v).1 target
  rw [hU]
  have hfr3 : (s.setFrames (.native { method := m, args := args, locked := none } :: .java g :: r)).frames = .native { method := m, args := args, locked := none } :: .java g :: r :=
    State.frames_setFrames _ hcur
  have hcd : ∀ fs, (s.setFrames fs).code? g.method = some c := fun fs => by have := h.code; simpa [State.code?] using this
  have hfs : handOver (s.setFrames (.native { method := m, args := args, locked := none } :: .java g :: r)) v (.java g :: r)
      = some (.java { g with pc := g.pc + len, stack := v.toList ++ g.stack } :: r) := by
    simp [handOver, hcd, hdg, Except.toOption]
  rw [doReturn_native (f := { method := m, args := args, locked := none }) hfr3 rfl hfs, State.setFrames_setFrames, ← State.setTop_of_frames (s := s) _ hr]
  exact hrest
def absRow : NativeRow := Jvm.Native.java_lang_Math.nans.rows.getD 9 Jvm.Native.java_lang_Float.bits.rowDoubleToRawLongBits
set_option maxRecDepth 100000 in
theorem abs_row (p : Program) : NativeRow.find? p.tables.natives "java/lang/Math" "abs" "(D)D" = some absRow := by
  cases p <;> rfl
theorem abs_sem (b : UInt64) : absRow.sem #[.double b] = (do let r ← anyNaN64 (b &&& 0x7fffffffffffffff); mark "nat.java_lang_Math.abs"; Pure.pure (some (.double r))) := rfl
theorem abs_wp {b : UInt64} (hn : vf_n64 (b &&& 0x7fffffffffffffff)) {Q : Option Value → Pre} {e : Env} {d : Bool} {acts : List Action} {s : State} (hq : ∀ d' acts', Q (some (.double (b &&& 0x7fffffffffffffff))) d' acts' s) : wp (absRow.sem #[.double b]) Q (fun _ _ _ => False) e d acts s := by
  have hn2 : b &&& 0x7fffffffffffffff &&& 0x7fffffffffffffff ≤ 0x7ff0000000000000 := hn
  rw [abs_sem]
  simp [anyNaN64, hn2, hq]
section VAB
variable {p : Program} {l : Launch} {e : Env} {R : Room} {s : State} {m : MethodId} {args : Array Value} {below : List Frame} {meth : Method} {c : Code} {cells slots : Nat} {T : State} {locs : List Loc}
theorem va_absD (X : Stand p l e R s m args below meth c T locs cells slots) (hexec : p.tables.exec = Jvm.exec) {own : String} {index : Nat} (hown : s.vm.findClass own = some m.cls)
    (hlink : (Cond.methodLink own index yJ9_abs_294c1).before args s = true) (hstat : (Cond.static yJ9_abs_294c1).before args s = true) (hinit : (Cond.initialized "java/lang/Math").before args s = true)
    (hcode : (Cond.code yJ9_abs_294c1 cJ9_abs_294c1 2 (some .double)).before args s = true)
    {g : JFrame} (hg : g.method = m) (hsize : g.locals.size = c.maxLocals) {b : UInt64} (hn : vf_n64 (b &&& 0x7fffffffffffffff)) {rest : List Value} (hstack : g.stack = .double b :: rest) (hdg : decode c.code g.pc = .ok (.invokestatic index, 3))
    (hframes : 1 ≤ R.frames) (hlocals : 2 * g.monitorRoom + (rest.map fun v => v.category).sum + (2 + 11) ≤ R.locals) :
    ∃ vm', Stand p l e R s m args below meth c (T.setVm vm') locs cells slots ∧
      ∀ target, Steps p.tables e below ((T.setVm vm').setTop { g with pc := g.pc + 3, stack := .double (b &&& 0x7fffffffffffffff) :: rest }) target → Steps p.tables e below (T.setTop g) target := by
  cases hnm : s.methodNamed? yJ9_abs_294c1 with
  | none => simp [Cond.before, Cond.holds, Cond.value, hnm] at hcode
  | some mA =>
    obtain ⟨methA, cA, hmA, hcA, hbA, hmlA, hretA, hlkA, -, hsigA⟩ := Cond.code_spec hnm hcode
    obtain ⟨k, hk, hkname⟩ := className_of_methodNamed hnm
    have hst := Cond.static_spec hnm hmA hstat
    have hi : k.init = .initialized := Cond.initialized_spec (findClass_of_methodNamed hnm) hk hinit
    have hdesc : parseMethodDescriptor yJ9_abs_294c1.desc = some { parameters := [.double], returnType := some .double } := by decide +kernel
    have hps : methA.sig.parameters = [.double] := by
      rw [hdesc] at hsigA
      rw [← Option.some.inj hsigA]
    obtain ⟨vm', X', step⟩ := X.invokestatic hexec hown hlink hnm hmA hst hk hi (by decide) hg (argsL := [.double b]) (rest := rest) (by rw [hps]; rfl) hstack hdg
    refine ⟨vm', X', fun target hrest => step target fun acts => ?_⟩
    subst hg
    have hal : s.vm.Alike vm' := X'.warmed.alike
    have hnm' : (s.setVm vm').methodNamed? yJ9_abs_294c1 = some mA := by rw [State.methodNamed?_setVm hal]; exact hnm
    obtain ⟨meth', c', hm', hc', hb', hml', hret', hlk', -, hsig'⟩ := Cond.code_spec (s := s.setVm vm') (args := args) hnm' (by have := hcode; rwa [← Cond.code_setVm hal] at this)
    obtain ⟨k', hk', hkn'⟩ := className_of_methodNamed hnm'
    obtain ⟨hmn', hmd'⟩ := name_of_methodNamed hnm' hm'
    have hst' : meth'.isStatic = true := Cond.static_spec (s := s.setVm vm') (args := args) hnm' hm' (by have := hstat; rwa [← Cond.static_setVm hal] at this)
    have hboot := Vm.bootOf_findClass (findClass_of_methodNamed hnm') hk'
    have hx' : k'.methods[mA.idx]? = some meth' := by
      have h9 : vm'.method? mA = some meth' := hm'
      have hk9 : vm'.classes[mA.cls]? = some k' := hk'
      simpa [Vm.method?, hk9] using h9
    have hps' : meth'.sig.parameters = [.double] := by
      rw [hdesc] at hsig'
      rw [← Option.some.inj hsig']
    refine ov_ends (tb := p.tables) (s := T.setVm vm') (g := { g with stack := rest }) (ig := .invokestatic index) (len := 3) (args := #[.double b]) (v := some (.double (b &&& 0x7fffffffffffffff))) X'.here acts hk' hx' hboot (by rw [hkn']; decide) hc' hlk' (row := absRow) (by rw [hkn', hmn', hmd']; exact abs_row p) ?_ ?_ (fun Q hq => abs_wp hn hq) hdg hrest
    · rw [hml', hps', hst']
      rfl
    · rw [hml']
      exact X'.notFull (g := { g with stack := rest }) hsize (vars := 2) hframes hlocals
theorem va_absW {ls : Array Slot} {pc : Nat} {H : Heap} {Q : State → Prop} {cc : ByteArray} (hexec : p.tables.exec = Jvm.exec) (hb : c.code = cc) (hml : c.maxLocals = ls.size) {own : String} {index : Nat} (hown : s.vm.findClass own = some m.cls)
    (hlink : (Cond.methodLink own index yJ9_abs_294c1).before args s = true) (hstat : (Cond.static yJ9_abs_294c1).before args s = true) (hinit : (Cond.initialized "java/lang/Math").before args s = true)
    (hcode : (Cond.code yJ9_abs_294c1 cJ9_abs_294c1 2 (some .double)).before args s = true) {b : UInt64} (hn : vf_n64 (b &&& 0x7fffffffffffffff)) {rest : List Value} (hframes : 1 ≤ R.frames) (hlocals : (rest.map fun v => v.category).sum + 13 ≤ R.locals) (hdg : decode cc pc = .ok (.invokestatic index, 3))
    (k : W p l e R s m args below meth c H locs cells slots Q (F0 m (pc + 3) ls (.double (b &&& 0x7fffffffffffffff) :: rest))) : W p l e R s m args below meth c H locs cells slots Q (F0 m pc ls (.double b :: rest)) := by
  intro T hT X
  obtain ⟨vm', X', st⟩ := va_absD X hexec hown hlink hstat hinit hcode (g := F0 m pc ls (.double b :: rest)) rfl (by rw [hml]) hn (rest := rest) rfl (by rw [hb]; exact hdg) hframes (by show 2 * 0 + _ + _ ≤ _; omega)
  obtain ⟨t, a1, b1⟩ := k (T.setVm vm') hT X'
  exact ⟨t, st t a1, b1⟩
end VAB
