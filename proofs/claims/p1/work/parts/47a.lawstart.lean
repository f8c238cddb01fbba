/-! THE LAW's START: what the claim gives of the classes, the statics, the texts; the loom and its model made, the row of one long -/
theorem Pi4.blind {av : List Value} {sz : Nat} {dC : Nat → ClassId} {dI : Nat → Nat → Nat} {W0 : va_W} {tys : List (ClassId × FieldType)} : FrameBlind (va_Pc av (fun U => U.heap.size = sz ∧ va_P (dC, dI) vwCl W0 U.heap ∧ va_K (dC, dI) vwCl tys U ∧ va_D (fun _ => True) W0 ∧ NW U ∧ va_AO RX2 U)) :=
  fun a U g mk q => by obtain ⟨q0, q1, qP, qK, qD, qN, qO⟩ := q; exact ⟨q0, q1, qP, va_K.moved (u := U) (U := U.calling g mk a) (Vm.Alike.refl U.vm) qK, qD, NW.same (u := U) (U := U.calling g mk a) rfl qN, va_AO.moved (u := U) (U := U.calling g mk a) (Vm.Alike.refl U.vm) qO⟩
theorem law_K {s : State} {args : Array Value} (hts : ∀ w ∈ wsL_law, w.before args s = true) : ∃ (dC : Nat → ClassId) (dI : Nat → Nat → Nat), va_K (dC, dI) vwCl [] s := by
  obtain ⟨c0, i0, h0⟩ := u_known (ws := wsL_law) hts inlX0 (hts (.instantiable RX0 2) (by decide +kernel))
  obtain ⟨c1, i1, h1⟩ := u_known (ws := wsL_law) hts inlX1 (hts (.instantiable RX1 4) (by decide +kernel))
  obtain ⟨c2, i2, h2⟩ := u_known (ws := wsL_law) hts inlX2 (hts (.instantiable RX2 4) (by decide +kernel))
  obtain ⟨c3, i3, h3⟩ := u_known (ws := wsL_law) hts inlX3 (hts (.instantiable RX3 2) (by decide +kernel))
  obtain ⟨c4, i4, h4⟩ := u_known (ws := wsL_law) hts inlX4 (hts (.instantiable RX4 7) (by decide +kernel))
  obtain ⟨c5, i5, h5⟩ := u_known (ws := wsL_law) hts inlX5 (hts (.instantiable RX5 3) (by decide +kernel))
  obtain ⟨c6, i6, h6⟩ := u_known (ws := wsL_law) hts inlX6 (hts (.instantiable RX6 1) (by decide +kernel))
  obtain ⟨c7, i7, h7⟩ := u_known (ws := wsL_law) hts inlX7 (hts (.instantiable RX7 5) (by decide +kernel))
  obtain ⟨c8, i8, h8⟩ := u_known (ws := wsL_law) hts inlX8 (hts (.instantiable RX8 4) (by decide +kernel))
  obtain ⟨c9, i9, h9⟩ := u_known (ws := wsL_law) hts inlJ6 (hts (.instantiable RJ6 1) (by decide +kernel))
  obtain ⟨ca, ia, ha⟩ := u_known (ws := wsL_law) hts inlJx4a65c (hts (.instantiable RJx4a65c 3) (by decide +kernel))
  refine ⟨fun k => if k = 0 then c0 else if k = 1 then c1 else if k = 2 then c2 else if k = 3 then c3 else if k = 4 then c4 else if k = 5 then c5 else if k = 6 then c6 else if k = 7 then c7 else if k = 8 then c8 else if k = 9 then c9 else ca, fun k => if k = 0 then i0 else if k = 1 then i1 else if k = 2 then i2 else if k = 3 then i3 else if k = 4 then i4 else if k = 5 then i5 else if k = 6 then i6 else if k = 7 then i7 else if k = 8 then i8 else if k = 9 then i9 else ia, fun c q hq => ?_, fun k q hk => by cases hk⟩
  have hc : c < 11 := (List.getElem?_eq_some_iff.mp hq).1
  have hh : c = 0 ∨ c = 1 ∨ c = 2 ∨ c = 3 ∨ c = 4 ∨ c = 5 ∨ c = 6 ∨ c = 7 ∨ c = 8 ∨ c = 9 ∨ c = 10 := by omega
  rcases hh with rfl | rfl | rfl | rfl | rfl | rfl | rfl | rfl | rfl | rfl | rfl
  · cases hq; exact h0
  · cases hq; exact h1
  · cases hq; exact h2
  · cases hq; exact h3
  · cases hq; exact h4
  · cases hq; exact h5
  · cases hq; exact h6
  · cases hq; exact h7
  · cases hq; exact h8
  · cases hq; exact h9
  · cases hq; exact ha
theorem law_nF : ∀ q ∈ nF, Cond.fieldLinkNest q.1 q.2.1 q.2.2.1 q.2.2.2.1 q.2.2.2.2.1 q.2.2.2.2.2 ∈ lw_tbl := by decide +kernel
theorem law_nM : ∀ q ∈ nM, Cond.methodLinkNest q.1 q.2.1 q.2.2.1 q.2.2.2 ∈ lw_tbl := by decide +kernel
theorem law_nMr : ∀ q ∈ nMr, Cond.methodLinkNest q.1 q.2.1 q.2.2.1 q.2.2.2 ∈ lw_tbl := by decide +kernel
theorem law_cast : ∀ q ∈ castL, Cond.castable q.1 q.2 ∈ lw_tbl := by decide +kernel
theorem law_strs : ∀ q ∈ strs9, Cond.stringRef RX4 q.1 q.2 ∈ lw_tbl := by decide +kernel
theorem law_bad1 : ∀ w ∈ bad9 sIO, w ∈ lw_tbl := by decide +kernel
theorem law_bad2 : ∀ w ∈ bad9 sIA, w ∈ lw_tbl := by decide +kernel
theorem law_NW {s : State} {args : Array Value} (hts : ∀ w ∈ lw_tbl, w.before args s = true) : NW s :=
  ⟨fun q hq => va_Nw.of rfl (hts _ (law_nF q hq)), fun q hq => va_Nw.of rfl (hts _ (law_nM q hq))⟩
theorem law_bad {s : State} {args : Array Value} {E : String} (h : ∀ w ∈ bad9 E, w.before args s = true) : ∀ w ∈ bad9 E, va_Nw w s := fun w hw => by
  have h1 := h w hw
  simp only [bad9, List.mem_cons, List.not_mem_nil, or_false] at hw
  rcases hw with rfl | rfl | rfl | rfl <;> exact va_Nw.of rfl h1
/-- an array class of objects, of longs -/
theorem st_ao {s : State} {C : String} (h : va_AO C s) : ∃ cA, ArrOfT s cA (.object C) ∧ va_RA s cA (.object C) := by
  obtain ⟨comp, c, k, h1, h2, h3, h4, h5⟩ := Cond.arrayOver_spec h
  exact ⟨c, fun n z => ⟨(fun k h => by cases h), k, h3, comp, h4⟩, k, comp, h3, h4, h1, h5⟩
theorem st_aL {s : State} {args : Array Value} (h : (Cond.arrayClass .long).before args s = true) : ∃ cA, ArrOfT s cA .long ∧ va_RA s cA .long := by
  obtain ⟨c, k, comp, h1, h2, h3⟩ := Cond.arrayClass_spec h
  exact ⟨c, fun n z => ⟨(fun k h => by cases h), k, h2, comp, h3⟩, h1⟩
theorem st_eq {s : State} {args : Array Value} {t : Term} {z : Int32} (h : (Cond.eq t (.int z)).before args s = true) : t.eval args s none [] s = some (.int z) :=
  va_eqI (by simpa [Cond.before, Cond.holds] using h) rfl
theorem st_O {s : State} {args : Array Value} {A : Nat → Prop} {t : Term} {E : String} {a : Nat} (hv : t.eval args s none [] s = some (.ref a)) (h : (Cond.exactly t E).before args s = true) (hA : ∀ a : Nat, a < s.heap.size → ¬ A a) : va_O E a A s s.heap := by
  obtain ⟨b, c, cell, k, h1, h2, h3, h4, h5, h6, -⟩ := Cond.exactly_spec h
  cases hv.symm.trans h1
  exact ⟨cell, h3, h5, by rw [h6]; exact h2, hA a (Array.getElem?_eq_some_iff.mp h3).1⟩
/-- the statics: ArrayList's two empty arrays, the cache of Integers -/
theorem st_Kh {s : State} {args : Array Value} {A : Nat → Prop} {Z : Zx} {cO cR cL : ClassId} {mi : Nat} (hts : ∀ w ∈ lw_tbl, w.before args s = true) (hgv : (Jvm.Cond.and given_1 narrow_1).before args s = true) (hA : ∀ a : Nat, a < s.heap.size → ¬ A a) : ∃ (e0 e1 tb : Nat) (bx : Nat → Nat), Kh (Z, cO, cR, cL, e0, e1, tb, bx, mi) A s s.heap := by
  have hs := flat_of_before _ hgv
  obtain ⟨e0, v0, t0⟩ := va_Tof (args := args) (s := s) (tm := .static sAL "DEFAULTCAPACITY_EMPTY_ELEMENTDATA" sOA) (ty := tyO) (N := 0) (f := fun _ => .null) (A := A) (by decide) (hs _ (by decide +kernel)) (st_eq (z := Int32.ofNat 0) (hs _ (by decide +kernel))) (fun j hj => absurd hj (Nat.not_lt_zero j)) hA
  obtain ⟨e1, v1, t1⟩ := va_Tof (args := args) (s := s) (tm := .static sAL "EMPTY_ELEMENTDATA" sOA) (ty := tyO) (N := 0) (f := fun _ => .null) (A := A) (by decide) (hs _ (by decide +kernel)) (st_eq (z := Int32.ofNat 0) (hs _ (by decide +kernel))) (fun j hj => absurd hj (Nat.not_lt_zero j)) hA
  have hlc : (Term.length (.static sIC "cache" "[Ljava/lang/Integer;")).eval args s none [] s = some (.int (Int32.ofNat 256)) := st_eq (z := Int32.ofNat 256) (hs _ (by decide +kernel))
  obtain ⟨bx, hC, hel⟩ := vb_Cof (args := args) (s := s) (A := A) (st := .static sIC "cache" "[Ljava/lang/Integer;") rfl hlc (hs _ (by decide +kernel)) hA
  obtain ⟨tb, vt, tt⟩ := va_Tof (args := args) (s := s) (tm := .static sIC "cache" "[Ljava/lang/Integer;") (ty := .object RJ6) (N := 256) (f := fun k => .ref (bx k)) (A := A) (by decide) (hs _ (by decide +kernel)) hlc hel hA
  refine ⟨e0, e1, tb, bx, ⟨va_Zof (hts (.laysStatic sAL "DEFAULTCAPACITY_EMPTY_ELEMENTDATA" sOA) (by decide +kernel)) (hts (.initialized sAL) (by decide +kernel)) v0 hA, va_Zof (hts (.laysStatic sAL "EMPTY_ELEMENTDATA" sOA) (by decide +kernel)) (hts (.initialized sAL) (by decide +kernel)) v1 hA, t0, t1, va_Zof (hts (.laysStatic sIC "high" "I") (by decide +kernel)) (hts (.initialized sIC) (by decide +kernel)) (va_eqi (hs _ (by decide +kernel))) hA, va_Zof (hts (.laysStatic sIC "cache" "[Ljava/lang/Integer;") (by decide +kernel)) (hts (.initialized sIC) (by decide +kernel)) vt hA, tt, hC, st_O v0 (hs (.exactly (.static sAL "DEFAULTCAPACITY_EMPTY_ELEMENTDATA" sOA) sOA) (by decide +kernel)) hA, st_O v1 (hs (.exactly (.static sAL "EMPTY_ELEMENTDATA" sOA) sOA) (by decide +kernel)) hA, fun e => ?_⟩⟩
  have hne := hs (.not (.eq (.static sAL "DEFAULTCAPACITY_EMPTY_ELEMENTDATA" sOA) (.static sAL "EMPTY_ELEMENTDATA" sOA))) (by decide +kernel)
  have e : e0 = e1 := e
  rw [e] at v0
  simp [Cond.before, Cond.holds, Cond.value, v0, v1] at hne
theorem st_Tx {s : State} {args : Array Value} {A : Nat → Prop} (hts : ∀ w ∈ lw_tbl, w.before args s = true) (hgv : (Jvm.Cond.and given_1 narrow_1).before args s = true) (hA : ∀ a : Nat, a < s.heap.size → ¬ A a) : Tx A s s.heap := by
  have hs := flat_of_before _ hgv
  refine ⟨vx_Zqof (hts (.laysStatic Bundle.tN "UNASSIGNED_STACK" Bundle.steD) (by decide +kernel)) (hts (.initialized Bundle.tN) (by decide +kernel)) (hs _ (by decide +kernel)) hA, vx_Zqof (hts (.laysStatic Bundle.tN "SUPPRESSED_SENTINEL" Bundle.listD) (by decide +kernel)) (hts (.initialized Bundle.tN) (by decide +kernel)) (hs _ (by decide +kernel)) hA, fun q hq => ?_, law_bad (fun w hw => hts w (law_bad1 w hw)), law_bad (fun w hw => hts w (law_bad2 w hw))⟩
  have hx : ∀ q ∈ strs9, (Cond.exactly (.string RX4 q.1) "java/lang/String").before args s = true := by
    intro q hq
    simp only [strs9, List.mem_cons, List.not_mem_nil, or_false] at hq
    rcases hq with rfl | rfl | rfl | rfl | rfl | rfl | rfl | rfl | rfl | rfl | rfl | rfl | rfl | rfl | rfl | rfl | rfl <;> exact hs _ (by decide +kernel)
  obtain ⟨a, c, cell, k, h1, -⟩ := Cond.exactly_spec (hx q hq)
  exact ⟨a, vk_R.of (hts _ (law_strs q hq)) h1⟩
theorem st_Ty {s : State} {args : Array Value} (hgv : (Jvm.Cond.and given_1 narrow_1).before args s = true) : Ty s := va_Nc.of (flat_of_before _ hgv _ (by decide +kernel))
/-- what stays fixed for the reference -/
theorem st_G {s : State} {args : Array Value} {A : Nat → Prop} {Z : Zx} (hts : ∀ w ∈ lw_tbl, w.before args s = true) (hgv : (Jvm.Cond.and given_1 narrow_1).before args s = true) (hA : ∀ a : Nat, a < s.heap.size → ¬ A a) (hK : va_K Z.D vwCl (tysOf Z) s) : ∃ G : RG, G.Z = Z ∧ Kt G s ∧ Kh G A s s.heap := by
  have hs := flat_of_before _ hgv
  have ao7 : va_AO RX7 s := va_AO.of (hts (.arrayOver (.object RX7)) (by decide +kernel))
  have aoO : va_AO "java/lang/Object" s := va_AO.of (hts (.arrayOver (.object "java/lang/Object")) (by decide +kernel))
  have aoz : AOZ s := AOZ.of (hts (.arrayOver (.array .boolean)) (by decide +kernel))
  obtain ⟨cO, o1, o2⟩ := st_ao aoO
  obtain ⟨cR, r1, r2⟩ := st_ao ao7
  obtain ⟨cL, l1, l2⟩ := st_aL (hts (.arrayClass .long) (by decide +kernel))
  obtain ⟨mi, hmi⟩ := va_Mi.of (C := sOA) (hs _ (by decide +kernel))
  obtain ⟨e0, e1, tb, bx, hKh⟩ := st_Kh (Z := Z) (cO := cO) (cR := cR) (cL := cL) (mi := mi) hts hgv hA
  refine ⟨(Z, cO, cR, cL, e0, e1, tb, bx, mi), rfl, ⟨⟨hK.1, fun k q hk => ?_⟩, fun q hq => va_Nw.of rfl (hts _ (law_nMr q hq)), ao7, aoO, law_NW hts, fun q hq => va_Nw.of rfl (hts _ (law_cast q hq)), aoz, va_Fw.of (hts (.declares ⟨"java/util/Collection", "toArray", "()[Ljava/lang/Object;"⟩) (by decide +kernel)) (hts (.interfaceMethod "java/util/Collection" "java/util/Collection" "toArray" "()[Ljava/lang/Object;") (by decide +kernel)) (hts (.publicMethod yJx4a65c_toArray_d5877) (by decide +kernel)) (hts (.unhidden sAL "toArray" "()[Ljava/lang/Object;") (by decide +kernel)) (hts (.castable sAL "java/util/Collection") (by decide +kernel)), hmi, va_Dc.of (hts (.declares ⟨"java/lang/Object", "getClass", "()Ljava/lang/Class;"⟩) (by decide +kernel))⟩, hKh⟩
  have hk4 : k < 4 := (List.getElem?_eq_some_iff.mp hk).1
  have hh : k = 0 ∨ k = 1 ∨ k = 2 ∨ k = 3 := by omega
  rcases hh with rfl | rfl | rfl | rfl
  · cases hk; exact hK.2 0 _ rfl
  · cases hk; exact ⟨o1, o2⟩
  · cases hk; exact ⟨r1, r2⟩
  · cases hk; exact ⟨l1, l2⟩
