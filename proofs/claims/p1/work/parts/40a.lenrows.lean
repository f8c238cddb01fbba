/-! ROWS FOR A LIST MADE OF AN EMPTY ONE: class objects, a call through an interface, arraycopy, a cached Integer -/
abbrev mGC : MethodName := ⟨"java/lang/Object", "getClass", "()Ljava/lang/Class;"⟩
abbrev mTA : MethodName := ⟨"java/util/Collection", "toArray", "()[Ljava/lang/Object;"⟩
theorem cpy0 {α : Type} (f g : Nat → α) (sp dp : Nat) : va_cpy f g sp dp 0 = g := by
  funext k
  unfold va_cpy
  rw [if_neg (by omega)]
theorem Kh.bxs {G : RG} {A : Nat → Prop} {U : State} {H : Heap} (h : Kh G A U H) : vb_C G.bx A U H := h.2.2.2.2.2.2.2.1
theorem Kh.o0 {G : RG} {A : Nat → Prop} {U : State} {H : Heap} (h : Kh G A U H) : va_O sOA G.e0 A U H := h.2.2.2.2.2.2.2.2.1
theorem Kh.o1 {G : RG} {A : Nat → Prop} {U : State} {H : Heap} (h : Kh G A U H) : va_O sOA G.e1 A U H := h.2.2.2.2.2.2.2.2.2.1
theorem Kh.ne {G : RG} {A : Nat → Prop} {U : State} {H : Heap} (h : Kh G A U H) : G.e0 ≠ G.e1 := h.2.2.2.2.2.2.2.2.2.2
section RN
variable {X : Cx} {G : RG} {cc : ByteArray} {nL : Nat} {Ts : List Cond} {own : String} {R : Room} {M : Wl} {pc k n : Nat} {lv : List (Option Value)} {rest st : List Value}
theorem m_ldcM (S : Gx X G cc nL Ts own R) {index : Nat} (hl : Cond.classLink own index sOA ∈ Ts) (hd : decode cc pc = .ok (.ldc index, 2)) (kk : J (X.at k n) nL (PL G.Z X.A M) (pc + 2) lv (.ref G.mi :: rest)) : J (X.at k n) nL (PL G.Z X.A M) pc lv rest :=
  fun H locs ls hw hS hl9 => va_ldcM S.1.ex S.1.by S.1.ow (S.1.ts _ hl) S.2.1.fc.2.1 hd (kk H locs ls hw hS hl9)
theorem m_getC (S : Gx X G cc nL Ts own R) {t index : Nat} (hO : va_O sOA t X.A X.s X.s.heap) (h1 : Cond.methodLink own index mGC ∈ Ts) (h2 : Cond.selects sOA mGC mGC ∈ Ts) (h3 : Cond.instanceMethod mGC ∈ Ts) (h4 : Cond.native mGC ∈ Ts) (hf : 1 ≤ R.frames) (hlo : (rest.map fun v => v.category).sum + 14 ≤ R.locals) (hd : decode cc pc = .ok (.invokevirtual index, 3)) (kk : J (X.at k n) nL (PL G.Z X.A M) (pc + 3) lv (.ref G.mi :: rest)) : J (X.at k n) nL (PL G.Z X.A M) pc lv (.ref t :: rest) :=
  fun H locs ls hw hS hl9 => va_getC S.1.ex S.1.by (by show X.c.maxLocals = _; rw [S.1.ml]; exact hl9.1.symm) S.1.ow (S.1.ts _ h1) S.2.1.fc.2.2.use (S.1.ts _ h2) (S.1.ts _ h3) (S.1.ts _ h4) S.2.1.fc.2.1 (va_Orecv hO hS) (by show 1 ≤ X.R.frames; rw [S.1.rm]; exact hf) (by show _ ≤ X.R.locals; rw [S.1.rm]; exact hlo) hd (kk H locs ls hw hS hl9)
theorem m_castO (S : Gx X G cc nL Ts own R) {a index : Nat} {x : vp_A} (ha : (a, .inl (G.cO, x)) ∈ M) (hlink : Cond.classLink own index sOA ∈ Ts) (hd : decode cc pc = .ok (.checkcast index, 3)) (kk : J (X.at k n) nL (PL G.Z X.A M) (pc + 3) lv (.ref a :: rest)) : J (X.at k n) nL (PL G.Z X.A M) pc lv (.ref a :: rest) :=
  fun H locs ls hw hS hl => va_castA S.1.ex S.1.by S.1.ow (S.1.ts _ hlink) (PL.g ha H hw) 0 rfl (va_nmO (S.2.1.1.2 1 (G.cO, tyO) rfl).2 (by decide +kernel)) hd (kk H locs ls hw hS hl)
/-- a copy of none out of an empty array of the JDK's -/
theorem m_copyg (S : Gx X G cc nL Ts own R) {a t index n1 : Nat} {fv : Nat → Value} {g : Nat → Option Nat} (hX : va_T tyO t 0 fv X.A X.s X.s.heap) (ha : (a, .inl (G.cO, n1, .inr (.inr (.inr (.inr g))))) ∈ M) (h1 : Cond.methodLink own index arraycopyName ∈ Ts) (h2 : Cond.native arraycopyName ∈ Ts) (h3 : Cond.static arraycopyName ∈ Ts) (h4 : Cond.initialized "java/lang/System" ∈ Ts) (hf : 1 ≤ R.frames) (hlo : (rest.map fun v => v.category).sum + (nativeFrameWords "java/lang/System" "arraycopy" 5 + 11) ≤ R.locals) (hd : decode cc pc = .ok (.invokestatic index, 3)) (kk : ∀ M1 : Wl, va_D X.A M1 → Up M a (.inl (G.cO, n1, .inr (.inr (.inr (.inr g))))) M1 → J (X.at k n) nL (PL G.Z X.A M1) (pc + 3) lv rest) : J (X.at k n) nL (PL G.Z X.A M) pc lv (.int 0 :: .int 0 :: .ref a :: .int 0 :: .ref t :: rest) := by
  intro H locs ls hw hS hl
  show W X.p X.l X.e X.R X.s X.m X.args X.below X.meth X.c H locs k n X.Q (F0 X.m pc ls (.int 0 :: .int 0 :: .ref a :: .int 0 :: .ref t :: rest))
  obtain ⟨j, hj⟩ := List.getElem?_of_mem ha
  refine va_copyg S.1.ex S.1.by (by rw [S.1.ml]; exact hl.1.symm) S.1.ow (S.1.ts _ h1) (S.1.ts _ h2) (S.1.ts _ h3) (S.1.ts _ h4) S.2.1.1 hw.2 hw.1 hS j 1 hX hj rfl (by decide) (by decide) (by decide) (by decide) (by show 0 + 0 ≤ n1; omega) (by rw [S.1.rm]; exact hf) (by rw [S.1.rm]; exact hlo) hd (fun H1 locs1 hP1 hD1 hS1 => ?_)
  have e : va_cpy (fun _ => none) g (0 : Int32).toNatClampNeg (0 : Int32).toNatClampNeg (0 : Int32).toNatClampNeg = g := cpy0 _ _ _ _
  rw [e] at hP1 hD1
  exact kk _ hD1 (Up.of hj) H1 locs1 ls ⟨hD1, hP1⟩ hS1 hl
/-- a copy of numbers -/
theorem m_copyi (S : Gx X G cc nL Ts own R) {a0 a index n0 n1 : Nat} {f g : Nat → Int32} {sp dp z : Int32} (h0 : (a0, .inl (G.Z.cI, n0, .inl f)) ∈ M) (ha : (a, .inl (G.Z.cI, n1, .inl g)) ∈ M) (h1 : Cond.methodLink own index arraycopyName ∈ Ts) (h2 : Cond.native arraycopyName ∈ Ts) (h3 : Cond.static arraycopyName ∈ Ts) (h4 : Cond.initialized "java/lang/System" ∈ Ts) (hsp : ¬ sp < 0) (hdp : ¬ dp < 0) (hz : ¬ z < 0) (hz0 : sp.toNatClampNeg + z.toNatClampNeg ≤ n0) (hz1 : dp.toNatClampNeg + z.toNatClampNeg ≤ n1) (hf : 1 ≤ R.frames) (hlo : (rest.map fun v => v.category).sum + (nativeFrameWords "java/lang/System" "arraycopy" 5 + 11) ≤ R.locals) (hd : decode cc pc = .ok (.invokestatic index, 3)) (kk : ∀ (M1 : Wl) (y : Nat → Int32), va_D X.A M1 → Up M a (.inl (G.Z.cI, n1, .inl y)) M1 → J (X.at k n) nL (PL G.Z X.A M1) (pc + 3) lv rest) : J (X.at k n) nL (PL G.Z X.A M) pc lv (.int z :: .int dp :: .ref a :: .int sp :: .ref a0 :: rest) := by
  intro H locs ls hw hS hl
  show W X.p X.l X.e X.R X.s X.m X.args X.below X.meth X.c H locs k n X.Q (F0 X.m pc ls (.int z :: .int dp :: .ref a :: .int sp :: .ref a0 :: rest))
  obtain ⟨j0, hj0⟩ := List.getElem?_of_mem h0
  obtain ⟨j, hj⟩ := List.getElem?_of_mem ha
  exact va_copyi S.1.ex S.1.by (by rw [S.1.ml]; exact hl.1.symm) S.1.ow (S.1.ts _ h1) (S.1.ts _ h2) (S.1.ts _ h3) (S.1.ts _ h4) S.2.1.1 hw.2 hw.1 hS j0 j 0 0 hj0 hj rfl rfl rfl hsp hdp hz hz0 hz1 (fun _ _ => rfl) (by rw [S.1.rm]; exact hf) (by rw [S.1.rm]; exact hlo) hd (fun H1 locs1 hP1 hD1 hS1 => kk _ _ hD1 (Up.of hj) H1 locs1 ls ⟨hD1, hP1⟩ hS1 hl)
/-- a cached Integer is one -/
theorem m_castBx (S : Gx X G cc nL Ts own R) {b index : Nat} (hb : b < 256) (hlink : Cond.classLink own index RJ6 ∈ Ts) (hd : decode cc pc = .ok (.checkcast index, 3)) (kk : J (X.at k n) nL (PL G.Z X.A M) (pc + 3) lv (.ref (G.bx b) :: rest)) : J (X.at k n) nL (PL G.Z X.A M) pc lv (.ref (G.bx b) :: rest) :=
  fun H locs ls hw hS hl => va_castS S.1.ex S.1.by S.1.ow (S.1.ts _ hlink) (S.1.K.1 9 (RJ6, TJ6, 1) rfl).2 (va_Orecv (S.2.2.1.bxs.1 b hb) hS) hd (kk H locs ls hw hS hl)
theorem m_getBx (S : Gx X G cc nL Ts own R) {b index : Nat} (hb : b < 256) (hlink : Cond.fieldLink own index RJ6 "value" "I" ∈ Ts) (hd : decode cc pc = .ok (.getfield index, 3)) (kk : J (X.at k n) nL (PL G.Z X.A M) (pc + 3) lv (.int (vb_c b) :: rest)) : J (X.at k n) nL (PL G.Z X.A M) pc lv (.ref (G.bx b) :: rest) :=
  fun H locs ls hw hS hl => va_getX S.1.ex S.1.by S.2.2.1.bxs.2 hb hS S.1.ow (S.1.ts _ hlink) (fun _ h => h) hd (kk H locs ls hw hS hl)
end RN
theorem r_J6_intValue (l : Launch) (G : RG) (A : Nat → Prop) (M : Wl) (b : Nat) (hb : b < 256) : Kr l G A yJ6_intValue_8abf5 wsJ6_intValue_8abf5 { frames := 0, cells := 0, slots := 0, locals := 0 } M [.ref (G.bx b)] (Gi G A (fun v N => vb_c b = v ∧ M = N)) 0 0 := by
  refine Kr.of (cc := cJ6_intValue_8abf5) (maxL := 1) (ret := some .int) (by decide) rfl (Nat.le_of_ble_eq_true rfl) ?_
  intro X hXl S hRT hIN hXA hQ hD
  subst hXl
  subst hXA
  show J (X.at 0 0) 1 (PL G.Z X.A M) 0 [some (.ref (G.bx b))] []
  have F0 := S.1.at 0 0 (Nat.le_of_ble_eq_true rfl) (Nat.le_of_ble_eq_true rfl)
  refine j_aload_n F0 dJ6_intValue_8abf5_0 rfl ?_
  refine m_getBx S hb (by decide +kernel) dJ6_intValue_8abf5_1 ?_
  exact m_ireturn S hRT rfl hQ (Nat.le_of_ble_eq_true rfl) (Nat.le_of_ble_eq_true rfl) dJ6_intValue_8abf5_4 rfl ⟨rfl, rfl⟩
section RN2
variable {X : Cx} {G : RG} {cc : ByteArray} {nL : Nat} {Ts : List Cond} {own : String} {R : Room} {M : Wl} {pc k n : Nat} {lv : List (Option Value)} {rest st : List Value}
/-- its value is asked -/
theorem m_cBx (S : Gx X G cc nL Ts own R) {b index : Nat} (hb : b < 256) {x : Int32} (hx : vb_c b = x) (cw : MwV Ts own RJ6 R index yJ6_intValue_8abf5 wsJ6_intValue_8abf5 { frames := 0, cells := 0, slots := 0, locals := 0 } 0 0 0) (hcat : (rest.map fun v => v.category).sum ≤ 8) (hk : k ≤ R.cells) (hs : n ≤ R.slots) (hd : decode cc pc = .ok (.invokevirtual index, 3)) (kk : J (X.at k n) nL (PL G.Z X.A M) (pc + 3) lv (.int x :: rest)) : J (X.at k n) nL (PL G.Z X.A M) pc lv (.ref (G.bx b) :: rest) := by
  subst hx
  intro H locs ls hw hS hl
  show W X.p X.l X.e X.R X.s X.m X.args X.below X.meth X.c H locs k n X.Q (F0 X.m pc ls (.ref (G.bx b) :: rest))
  by_cases hD : va_D X.A M
  · obtain ⟨bytes, maxL, ret, ws', e1, hG, h0, h1, hy, hR⟩ := cw
    have hrun := va_runV (e := X.e) (below := X.below) (meth := X.meth) (H := H) (locs := locs) (cells := k) (slots := n) (g := F0 X.m pc ls (([] : List Value).reverse ++ .ref (G.bx b) :: rest)) (As := []) (rest := rest) S.1.1 (r_J6_intValue X.l G X.A M b hb) (cwV (bytes := bytes) (maxL := maxL) (ret := ret) 0 S.1.ts hG e1 h0 h1 hy (R := X.R) (by rw [S.1.rm]; exact hR)) ⟨Pg.blind, va_Orecv (S.2.2.1.bxs.1 b hb) hS, fun U hU hW => ⟨rfl, by rw [hU]; exact hw, va_K.moved hW.alike S.1.K, Kt.warm hW S.2.1, by rw [hU]; exact Kh.moved hW.alike (S.2.2.1.kept hS.2.1), fun q hq => S.2.2.2 q (Nat.le_trans hS.1 (by rw [← hU]; exact hq))⟩⟩ rfl rfl hl.1 rfl (lv_room hcat) hd ⟨by rw [S.1.rm]; exact hk, by rw [S.1.rm]; exact hs⟩
    exact va_calli hrun hS (fun q _ h => h) (fun q h => h) (fun v M1 t H1 locs1 ht hvm hp hb1 hz hk1 hS1 => by
      obtain ⟨rfl, rfl⟩ := hp
      exact kk H1 locs1 ls (by rw [← ht]; exact hb1) hS1 hl)
  · exact absurd hw.1 hD
/-- a method of a list is called through Collection -/
theorem m_cFr (S : Gx X G cc nL Ts own R) {y : MethodName} {ws : List Cond} {rm : Room} {index count mc ms : Nat} {b : Nat} {fs : List Value} {bytes : ByteArray} {maxL : Nat} {ret : Option FieldType} {ws' : List Cond} {post : Nat → Wl → Prop} (hM : Kr X.l G X.A y ws rm M [.ref b] (Gr G X.A post) mc ms) (e1 : ws = Cond.code y bytes maxL ret :: ws') (hG : GoodIn Ts (va_wsF own index sAL mTA y ws)) (h0 : rm.cells = mc) (h1 : rm.slots = ms) (hF : va_Fw sAL mTA y X.s) (hR : rm.frames + 1 ≤ R.frames ∧ 8 + (maxL + 11) + rm.locals ≤ R.locals) (hb : (b, .inr (10, fs)) ∈ M) (hcat : (rest.map fun v => v.category).sum ≤ 8) (hk : k + mc ≤ R.cells) (hs : n + ms ≤ R.slots) (hd : decode cc pc = .ok (.invokeinterface index count, 5)) (kk : ∀ (v : Nat) (M1 : Wl), va_D X.A M1 → post v M1 → J (X.at (k + mc) (n + ms)) nL (PL G.Z X.A M1) (pc + 5) lv (.ref v :: rest)) : J (X.at k n) nL (PL G.Z X.A M) pc lv (.ref b :: rest) := by
  intro H locs ls hw hS hl
  show W X.p X.l X.e X.R X.s X.m X.args X.below X.meth X.c H locs k n X.Q (F0 X.m pc ls (.ref b :: rest))
  have hrv := va_recv S.1.K (PL.g hb H hw) (ci := 10) (q := (RJx4a65c, TJx4a65c, 3)) rfl (q0 := 0) rfl
  have hrun := va_runF (e := X.e) (below := X.below) (meth := X.meth) (H := H) (locs := locs) (cells := k) (slots := n) (g := F0 X.m pc ls (([] : List Value).reverse ++ .ref b :: rest)) (As := []) (rest := rest) (C := sAL) (S.1.K.1 10 (RJx4a65c, TJx4a65c, 3) rfl).2 S.1.1 hM (va_cwF (bytes := bytes) (maxL := maxL) (ret := ret) (ws' := ws') 0 S.1.ts hG e1 h0 h1 hF (by decide +kernel) (R := X.R) (by rw [S.1.rm]; exact hR)) ⟨Pg.blind, hrv, fun U hU hW => ⟨rfl, by rw [hU]; exact hw, va_K.moved hW.alike S.1.K, Kt.warm hW S.2.1, by rw [hU]; exact Kh.moved hW.alike (S.2.2.1.kept hS.2.1), fun q hq => S.2.2.2 q (Nat.le_trans hS.1 (by rw [← hU]; exact hq))⟩⟩ rfl rfl hl.1 rfl (lv_room hcat) hd ⟨by rw [S.1.rm]; exact hk, by rw [S.1.rm]; exact hs⟩
  exact va_callFr hrun hS (fun q _ h => h) (fun q h => h) (fun M1 v t H1 locs1 ht hvm hp hb1 hz hk1 hS1 => kk v M1 hb1.2.1 hb1.1 H1 locs1 ls (by rw [← ht]; exact hb1.2) hS1 hl)
end RN2
