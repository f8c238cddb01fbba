/-! A METHOD OF THE CLASS THAT THROWS: it makes the exception, and changes nothing that was there -/
abbrev sIO : String := "java/lang/IndexOutOfBoundsException"
abbrev sIA : String := "java/lang/IllegalArgumentException"
abbrev names9 : List String := ["java/lang/RuntimeException", "java/lang/Exception"]
/-- the class's texts -/
def strs9 : List (Nat × String) := [(104, "no such program"), (89, "what is not 0 to 3"), (93, "no such place"), (149, "no such treadle"), (178, "what is not 0 to 9"), (239, "length is not 1 to 32"), (219, "colour is not 0 to 7"), (110, "no such token"), (114, "the program has 40 tokens"), (72, "many is not 1 to 40"), (127, "shafts is not 0 to 255"), (133, "n is not 2 to 8"), (135, "up is not 1 to n"), (151, "no such shaft"), (235, "no such end"), (237, "no such pick"), (197, "what is not 0 to 2")]
/-- the words on the exceptions that are no good words, as they are proved of the start -/
def bad9 (E : String) : List Cond := [.declares (Bundle.initS "java/lang/RuntimeException"), .declares (Bundle.initS "java/lang/Exception"), .declares (Bundle.initS Bundle.tN), .castable E E]
def Tx (A : Nat → Prop) (U : State) (H : Heap) : Prop := vx_Zq Bundle.tN "UNASSIGNED_STACK" Bundle.steD A U H ∧ vx_Zq Bundle.tN "SUPPRESSED_SENTINEL" Bundle.listD A U H ∧ (∀ q ∈ strs9, ∃ a : Nat, vk_R RX4 q.1 q.2 a U) ∧ (∀ w ∈ bad9 sIO, va_Nw w U) ∧ ∀ w ∈ bad9 sIA, va_Nw w U
theorem bad9_warm {E : String} {s U : State} (hW : s.WarmedH U.vm) (h : ∀ w ∈ bad9 E, va_Nw w s) : ∀ w ∈ bad9 E, va_Nw w U := fun w hw => by
  have h1 := h w hw
  simp only [bad9, List.mem_cons, List.not_mem_nil, or_false] at hw
  rcases hw with rfl | rfl | rfl | rfl
  · exact va_Nw.warmD hW h1
  · exact va_Nw.warmD hW h1
  · exact va_Nw.warmD hW h1
  · exact va_Nw.warmC hW h1
theorem bad9_same {E : String} {u U : State} (hv : u.vm = U.vm) (h : ∀ w ∈ bad9 E, va_Nw w u) : ∀ w ∈ bad9 E, va_Nw w U := fun w hw => by
  have h1 := h w hw
  simp only [bad9, List.mem_cons, List.not_mem_nil, or_false] at hw
  rcases hw with rfl | rfl | rfl | rfl <;> exact va_Nw.same rfl hv h1
theorem Tx.warm {A : Nat → Prop} {s U : State} {H : Heap} (hW : s.WarmedH U.vm) (h : Tx A s H) : Tx A U H := ⟨vx_Zq.moved hW.alike h.1, vx_Zq.moved hW.alike h.2.1, fun q hq => (h.2.2.1 q hq).imp fun a ha => vk_R.warm hW ha, bad9_warm hW h.2.2.2.1, bad9_warm hW h.2.2.2.2⟩
theorem Tx.same {A : Nat → Prop} {u U : State} {H : Heap} (hv : u.vm = U.vm) (h : Tx A u H) : Tx A U H := ⟨vx_Zq.moved (by rw [hv]; exact Vm.Alike.refl U.vm) h.1, vx_Zq.moved (by rw [hv]; exact Vm.Alike.refl U.vm) h.2.1, fun q hq => (h.2.2.1 q hq).imp fun a ha => vk_R.same hv.symm ha, bad9_same hv h.2.2.2.1, bad9_same hv h.2.2.2.2⟩
theorem Tx.kept {A : Nat → Prop} {U : State} {H H1 : Heap} (h : Tx A U H) (hq : ∀ a : Nat, a < H.size → ¬ A a → H1[a]? = H[a]?) : Tx A U H1 := ⟨h.1.kept hq, h.2.1.kept hq, h.2.2⟩
theorem Tx.narrow {A B : Nat → Prop} {U : State} {H : Heap} (h : Tx A U H) (hAB : ∀ q, B q → A q) : Tx B U H := ⟨h.1.narrow hAB, h.2.1.narrow hAB, h.2.2⟩
abbrev Px (Z : Zx) (A : Nat → Prop) (w : Heap → Prop) (av : List Value) : Array Value → State → Prop := va_Pc av (fun U => w U.heap ∧ va_K Z.D vwCl (tysOf Z) U ∧ NW U ∧ Tx A U U.heap)
theorem Px.blind {Z : Zx} {A : Nat → Prop} {w : Heap → Prop} {av : List Value} : FrameBlind (Px Z A w av) := fun a U g mk q => ⟨q.1, q.2.1, va_K.moved (u := U) (U := U.calling g mk a) (Vm.Alike.refl U.vm) q.2.2.1, NW.same (u := U) (U := U.calling g mk a) rfl q.2.2.2.1, Tx.same (u := U) (U := U.calling g mk a) rfl q.2.2.2.2⟩
abbrev XE (A : Nat → Prop) (E : String) : String → State → State → Prop := vx_X (fun _ : Unit => True) (fun E1 _ _ => E1 = E) A
abbrev Q9 : Array Value → State → Outcome → State → Prop := fun _ _ _ _ => False
/-- it throws E -/
abbrev Kx (l : Launch) (Z : Zx) (A : Nat → Prop) (y : MethodName) (ws : List Cond) (rm : Room) (w : Heap → Prop) (av : List Value) (E : String) : Prop := vx_Met l y ws rm (Px Z A w av) Q9 (XE A E) 1 6 A
def Sx (X : Cx) (E : String) : Prop := Tx X.A X.s X.s.heap ∧ X.Q = vx_MQ X.below Q9 (XE X.A E) X.args X.s 1 6 X.A ∧ X.k = 0 ∧ X.n = 0 ∧ (∀ x ∈ X.c.exceptionTable.toList, False) ∧ X.l.stackTraces = false
theorem Kx.of {l : Launch} {Z : Zx} {A : Nat → Prop} (hA : AdOk Z A) {y : MethodName} {ws ws' : List Cond} {rm : Room} {w : Heap → Prop} {av : List Value} {E : String} {cc : ByteArray} {maxL : Nat} {ret : Option FieldType} (hfl : l.stackTraces = false)
    (hy : plainName y.cls = true) (hw : ws = Cond.code y cc maxL ret :: ws') (hL : (lg_sl av).length ≤ maxL)
    (body : ∀ X : Cx, X.l = l → Fx X Z cc maxL ws y.cls rm → AdOk Z X.A → Sx X E → J X maxL w 0 (lvI maxL av) []) : Kx l Z A y ws rm w av E := by
  refine vx_ofW (cc := cc) (maxL := maxL) (ret := ret) hy hw ?_
  intro p e s m args below meth c s₁ B hml hno hv
  obtain ⟨rfl, hw0, hK, hNW, hT⟩ := hv
  have hts := atoms_spec (ws := ws) B.pre
  have hown : s.vm.findClass y.cls = some m.cls := findClass_of_methodNamed B.named
  have hk := body (p, l, e, rm, s, m, av.toArray, below, meth, c, A, 0, 0, vx_MQ below Q9 (XE A E) av.toArray s 1 6 A) rfl
    ⟨⟨B.exec, B.bytes, hml, hown, hts⟩, hK, rfl, Nat.zero_le _, Nat.zero_le _, B.notSynchronized, hNW⟩ hA ⟨hT, rfl, rfl, rfl, hno, hfl⟩
  rw [lg_entry_eq]
  exact hk s.heap [] _ hw0 va_S.rf (lvI_entry av hL)
section JX
variable {X : Cx} {Z : Zx} {cc : ByteArray} {nL : Nat} {Ts : List Cond} {R : Room} {w : Heap → Prop} {pc : Nat} {lv : List (Option Value)} {rest st : List Value}
/-- new E(text), thrown -/
theorem x_throw (S : Fx X Z cc nL Ts RX4 R) {E text : String} {ik is ic : Nat} (hX : Sx X E) (hb : ∀ w ∈ bad9 E, va_Nw w X.s) (hE : Bundle.fit E = true) (h1 : Cond.classLink RX4 ik E ∈ Ts) (h2 : Cond.initialized E ∈ Ts) (hstr : (is, text) ∈ strs9) (hat : ∀ w ∈ (vx_atS RX4 ic E names9).filter goodWord, w ∈ Ts) (hbad : ∀ w ∈ (vx_atS RX4 ic E names9).filter (fun w => !goodWord w), w ∈ bad9 E) (hot : ((Cond.classLink RX4 ik E :: Cond.initialized E :: vx_atS RX4 ic E names9).all vx_ot) = true)
    (d0 : decode cc pc = .ok (.new ik, 3)) (d3 : decode cc (pc + 3) = .ok (.dup, 1)) (d4 : decode cc (pc + 4) = .ok (.ldc is, 2)) (d6 : decode cc (pc + 6) = .ok (.invokespecial ic, 3)) (d9 : decode cc (pc + 9) = .ok (.athrow, 1)) (hRf : 5 < R.frames) (hRl : (rest.map fun v => v.category).sum + 82 ≤ R.locals) (hRc : 1 ≤ R.cells) (hRs : 6 ≤ R.slots) : J X nL w pc lv rest := by
  intro H locs ls hw hS hl
  obtain ⟨hT, hQ, hk, hn, hno, hfl⟩ := hX
  rw [hQ, hk, hn]
  obtain ⟨sa, hsa⟩ := hT.2.2.1 (is, text) hstr
  have hats : ∀ w ∈ vx_atS RX4 ic E names9, w.before X.args X.s = true := vx_hat (B := bad9 E) (fun w h => S.ts _ (hat w h)) hbad (fun w h => va_Nw.use (by
    simp only [bad9, List.mem_cons, List.not_mem_nil, or_false] at h
    rcases h with rfl | rfl | rfl | rfl <;> rfl) (hb w h))
  exact vx_throwS S.ex S.by hfl S.ow hE (by decide) (S.ts _ h1) (S.ts _ h2) hsa hats (fun w h => List.all_eq_true.mp hot w h) hT.1 hT.2.1 hS (by rw [S.ml]; exact hl.1) d0 d3 d4 d6 d9 (fun x hx => (hno x hx).elim) (by rw [S.rm]; exact hRf) (by rw [S.rm]; exact hRl) (by rw [S.rm]; exact Nat.le_trans (by omega) hRc) (by rw [S.rm]; exact Nat.le_trans (by omega) hRs) S.lk
    (fun t _ h3 h4 => ⟨(), trivial, rfl, Nat.le_trans hS.1 h3, fun q h5 h6 => (h4 q (Nat.lt_of_lt_of_le h5 hS.1)).trans (hS.2.1 q h5 h6)⟩) hS.2.2 (by omega) (by omega)
/-- a callee throws: this method throws the same -/
theorem x_pass {E : String} {st0 : List Value} (S : Fx X Z cc nL Ts RX4 R) (hX : Sx X E) (hr : ∀ (H : Heap) (locs : List Loc) (ls : Array Slot), w H → va_S X.A X.s.heap H locs → lvF ls nL lv → vx_Run X.p X.l X.e X.R X.s X.m X.args X.below X.meth X.c H locs X.k X.n 1 6 (F0 X.m pc ls st0) rest (fun _ _ _ => False) (XE X.A E) X.A) : J X nL w pc lv st0 := by
  intro H locs ls hw hS hl
  have hr := hr H locs ls hw hS hl
  obtain ⟨hT, hQ, hk, hn, hno, hfl⟩ := hX
  rw [hk, hn] at hr ⊢
  intro T hTT Xs
  rcases hr T hTT Xs with ⟨v, st₀, t, T', L, -, -, -, -, -, hf, -⟩ | ⟨q, st₀, t, T', L, E1, ce, h0, X', hL, e1, e2, hx, hce, hcv, hcl, steps⟩
  · exact hf.elim
  · obtain ⟨u, -, hE, hF⟩ := hx
    subst hE
    have hS' : va_S X.A X.s.heap T'.heap (locs ++ L) := ⟨Nat.le_trans hS.1 (by rw [e1, ← h0]; exact hF.1), fun a h1 h2 => by
      rw [e1, hF.2 a (by rw [h0]; exact Nat.lt_of_lt_of_le h1 hS.1) h2, h0]
      exact hS.2.1 a h1 h2, fun z hz => (List.mem_append.mp hz).elim (hS.2.2 z) (hL z)⟩
    obtain ⟨t2, s2, q2⟩ := vx_out (p := X.p) (l := X.l) (e := X.e) (R := X.R) (Qc := Q9) (XC := XE X.A E1) (free := X.A) (mc := 1) (ms := 6) (pc := pc) (ls := ls) (rest := rest) (fun x hx => (hno x hx).elim) S.lk (by rw [e1]; exact hce) hcv hcl
      (fun t3 h3 _ => ⟨(), trivial, rfl, hS'.F h3⟩) hS'.2.2 (Nat.le_refl _) (Nat.le_refl _) T' rfl X'
    rw [hQ]
    exact ⟨t2, steps.trans s2, q2⟩
theorem x_passV (S : Fx X Z cc nL Ts RX4 R) {E : String} (hX : Sx X E) {y : MethodName} {ws : List Cond} {rm : Room} {b ci index n N : Nat} {As fs : List Value} {C : String} {T : u_T} (hM : Kx X.l Z X.A y ws rm w (.ref b :: As) E) (cw : MwV Ts RX4 C R index y ws rm n 1 6) (hrc : ∀ H, w H → va_P Z.D vwCl [(b, .inr (ci, fs))] H) (hc : vwCl[ci]? = some (C, T, N)) (hn : As.length = n) (hcat : (rest.map fun v => v.category).sum ≤ 8) (hst : As.reverse ++ .ref b :: rest = st) (hd : decode cc pc = .ok (.invokevirtual index, 3)) (hRc : 1 ≤ R.cells) (hRs : 6 ≤ R.slots) : J X nL w pc lv st := by
  subst hst
  refine x_pass (rest := rest) S hX (fun H locs ls hw hS hl => ?_)
  obtain ⟨bytes, maxL, ret, ws', e1, hG, h0, h1, hy, hR⟩ := cw
  have hrv := va_recv S.K (hrc H hw) hc (q0 := 0) rfl
  obtain ⟨hT, hQ, hk, hn0, hno, hfl⟩ := hX
  exact vx_runV (As := As) (rest := rest) S.1 hM (cwV (bytes := bytes) (maxL := maxL) (ret := ret) n S.ts hG e1 h0 h1 hy (by rw [S.rm]; exact hR)) ⟨Px.blind, hrv, fun U hU hW => ⟨rfl, by rw [hU]; exact hw, va_K.moved hW.alike S.K, NW.warm hW S.nw, by rw [hU]; exact Tx.warm hW (hT.kept hS.2.1)⟩⟩ rfl hn hl.1 rfl (lv_room hcat) hd ⟨by rw [hk, S.rm]; exact Nat.le_trans (by omega) hRc, by rw [hn0, S.rm]; exact Nat.le_trans (by omega) hRs⟩
theorem x_passS (S : Fx X Z cc nL Ts RX4 R) {E : String} (hX : Sx X E) {y : MethodName} {ws : List Cond} {rm : Room} {index n : Nat} {As : List Value} (hM : Kx X.l Z X.A y ws rm w As E) (cw : MwS Ts RX4 R index y ws rm n 1 6) (hn : As.length = n) (hcat : (rest.map fun v => v.category).sum ≤ 8) (hst : As.reverse ++ rest = st) (hd : decode cc pc = .ok (.invokestatic index, 3)) (hRc : 1 ≤ R.cells) (hRs : 6 ≤ R.slots) : J X nL w pc lv st := by
  subst hst
  refine x_pass (rest := rest) S hX (fun H locs ls hw hS hl => ?_)
  obtain ⟨bytes, maxL, ret, ws', e1, hG, h0, h1, hy, hR⟩ := cw
  obtain ⟨hT, hQ, hk, hn0, hno, hfl⟩ := hX
  exact vx_runS (As := As) (rest := rest) S.1 hM (va_cwS (bytes := bytes) (maxL := maxL) (ret := ret) n S.ts hG e1 h0 h1 hy (by rw [S.rm]; exact hR)) ⟨Px.blind, fun U hU hW => ⟨rfl, by rw [hU]; exact hw, va_K.moved hW.alike S.K, NW.warm hW S.nw, by rw [hU]; exact Tx.warm hW (hT.kept hS.2.1)⟩⟩ rfl hn hl.1 rfl (lv_room hcat) hd ⟨by rw [hk, S.rm]; exact Nat.le_trans (by omega) hRc, by rw [hn0, S.rm]; exact Nat.le_trans (by omega) hRs⟩
end JX
